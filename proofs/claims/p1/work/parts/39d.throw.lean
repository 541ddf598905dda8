/-! the throw of about, and its catching by the law -/
abbrev xE : String := "java/util/NoSuchElementException"
abbrev xF : String := "java/lang/RuntimeException"
abbrev xN : List String := ["java/lang/Exception"]
abbrev aE : List Cond := (a13 "CountyWatch" 310 xE xF xN).filter vx_no
def Zx (A : Nat → Prop) (U : State) : Prop := vx_Zq Bundle.tN "UNASSIGNED_STACK" Bundle.steD A U U.heap ∧ vx_Zq Bundle.tN "SUPPRESSED_SENTINEL" Bundle.listD A U U.heap ∧ (∃ sa, vk_R "CountyWatch" 308 "no such constable" sa U) ∧ ∀ w ∈ aE, w.before #[] U = true
def ft_ (w : Cond) : Bool := w.onTables && (goodWord w || w.faceAtom)
theorem ft_all : (aE).all ft_ = true := by decide +kernel
theorem ft_ot : ∀ w ∈ aE, w.onTables = true := fun w hw => by
  have h := List.all_eq_true.mp ft_all w hw
  simp only [ft_, Bool.and_eq_true] at h
  exact h.1
theorem ft_at {w : Cond} {s U : State} {a a' : Array Value} (hW : s.WarmedH U.vm) (hg : ft_ w = true) (h : w.before a s = true) : w.before a' U = true := by
  simp only [ft_, Bool.and_eq_true, Bool.or_eq_true] at hg
  rcases hg.2 with g | g
  · exact word_at hW (good_of_word g) h
  · exact va_tabs hg.1 (rfl : (s.setVm U.vm).vm = U.vm) (Cond.faceAtom_setVm hW.alike w g h)
theorem Zx.call {A : Nat → Prop} {U : State} {g : JFrame} {mk : MethodId} {a : Array Value} (h : Zx A U) : Zx A (U.calling g mk a) :=
  ⟨vx_Zq.moved (u := U) (U := U.calling g mk a) (Vm.Alike.refl U.vm) h.1, vx_Zq.moved (u := U) (U := U.calling g mk a) (Vm.Alike.refl U.vm) h.2.1, h.2.2.1.elim (fun sa q => ⟨sa, vk_R.same rfl q⟩), fun w hw => va_tabs (u := U) (ft_ot w hw) rfl (h.2.2.2 w hw)⟩
theorem Zx.go {A B : Nat → Prop} {s U : State} {H : Heap} {locs : List Loc} (h : Zx A s) (hS : va_S A s.heap H locs) (hU : U.heap = H) (hW : s.WarmedH U.vm) (hAB : ∀ q, B q → A q) : Zx B U :=
  ⟨by rw [hU]; exact vx_Zq.narrow (vx_Zq.moved hW.alike (vx_Zq.kept h.1 hS.2.1)) hAB, by rw [hU]; exact vx_Zq.narrow (vx_Zq.moved hW.alike (vx_Zq.kept h.2.1 hS.2.1)) hAB, h.2.2.1.elim (fun sa q => ⟨sa, vk_R.warm hW q⟩), fun w hw => ft_at hW (List.all_eq_true.mp ft_all w hw) (h.2.2.2 w hw)⟩
def cz_ (dC : Nat → ClassId) (dI : Nat → Nat → Nat) (cy : Nat → ClassId) (ad adV : Nat → Nat) (dom : List Nat) (h : Hp_) (sz : Nat) (U : State) : Prop := cp_ dC dI cy ad adV dom h sz U ∧ Zx (va_A (h_W cy ad h dom) sz) U
theorem cz_blind {dC : Nat → ClassId} {dI : Nat → Nat → Nat} {cy : Nat → ClassId} {ad adV : Nat → Nat} {dom : List Nat} {h : Hp_} {sz : Nat} {av : List Value} : FrameBlind (va_Pc av (cz_ dC dI cy ad adV dom h sz)) := by
  intro a U g mk hq
  obtain ⟨q0, q1, q2⟩ := hq
  have hb := cp_blind (dC := dC) (dI := dI) (cy := cy) (ad := ad) (adV := adV) (dom := dom) (h := h) (sz := sz) (av := av) a U g mk ⟨q0, q1⟩
  exact ⟨hb.1, hb.2, q2.call⟩
/-- cells that a larger heap leaves alone -/
theorem wd_more {dC : Nat → ClassId} {dI : Nat → Nat → Nat} {cy : Nat → ClassId} {A : Nat → Prop} {ad : Nat → Nat} {dom : List Nat} {h : Hp_} {H H1 : Heap} (hW : wd_ dC dI cy A ad dom h H) (hk : ∀ q : Nat, q < H.size → H1[q]? = H[q]?) : wd_ dC dI cy A ad dom h H1 :=
  ⟨hW.1, hW.2.1.kept (fun k x hx => hk x.1 ((hW.2.1 k x hx).lt)), hW.2.2⟩
def XA (dC : Nat → ClassId) (dI : Nat → Nat → Nat) (cy : Nat → ClassId) (A : Nat → Prop) (ad : Nat → Nat) (dom : List Nat) : String → State → State → Prop := fun E st t => E = xE ∧ (∃ (ad' : Nat → Nat) (dom' : List Nat), wd_ dC dI cy A ad' dom' HF t.heap ∧ ex_ ad ad' dom dom') ∧ va_F A st t
abbrev Ma : Mc_ := m_X11_about 12 1 6
theorem dom_0 {dom : List Nat} (h : ∀ a, h_sh HF a ≠ none ↔ a ∈ dom) {a : Nat} {x : Nat × Nat} (hs : h_sh HF a = some x) : a ∈ dom := (h a).mp (by rw [hs]; exact fun z => by cases z)
theorem xa_about (l : Ln_) (dC : Nat → ClassId) (dI : Nat → Nat → Nat) (cy : Nat → ClassId) (ad adV : Nat → Nat) (dom : List Nat) (sz : Nat) (hdm : dom.Nodup ∧ (∀ a, h_sh HF a ≠ none ↔ a ∈ dom) ∧ (∀ a ∈ dom, a < 1000) ∧ ∀ b k c, h_r HF b k = some c → c ∈ dom ∨ 1000 ≤ c) (x1 x2 : Int32) :
    vx_Met l.1 (mY Ma) (Cond.code (mY Ma) (mC Ma) 4 (some .int) :: lw_g) (mR Ma) (va_Pc ([Value.ref 0, .int x1, .int x2].map (h_cv ad)) (cz_ dC dI cy ad adV dom HF sz)) (fun _ _ _ _ => False) (XA dC dI cy (va_A (h_W cy ad HF dom) sz) ad dom) 1 6 (va_A (h_W cy ad HF dom) sz) := by
  refine vx_ofW (cc := mC Ma) (maxL := 4) (ret := some .int) rfl rfl ?_
  intro p e s m args below meth c s₁ B hml htab hv0
  obtain ⟨rfl, ⟨hsz, hP, hD0, hcx, hst⟩, hz⟩ := hv0
  have hts := atoms_spec (ws := Cond.code (mY Ma) (mC Ma) 4 (some .int) :: lw_g) B.pre
  have htg : ∀ w ∈ lw_g, w.before _ s = true := fun w hw => hts w (List.mem_cons_of_mem _ hw)
  have hown : s.vm.findClass "CountyWatch" = some m.cls := findClass_of_methodNamed B.named
  have hnm : meth.name = "about" := (name_of_methodNamed B.named B.method).1
  subst hsz
  have hD := hD0.self (sz := s.heap.size)
  have hl := lv_entry ([Value.ref 0, .int x1, .int x2].map (h_cv ad)) (n := 4) (Nat.le_of_ble_eq_true rfl)
  rw [lg_entry_eq]
  generalize (lg_sl ([Value.ref 0, .int x1, .int x2].map (h_cv ad)) ++ List.replicate (4 - (lg_sl ([Value.ref 0, .int x1, .int x2].map (h_cv ad))).length) Slot.unset).toArray = ls at hl ⊢
  have hl : lv_has ls 4 [(0, .ref (ad 0)), (1, .int x1), (2, .int x2)] := hl
  have hW : wd_ dC dI cy (va_A (h_W cy ad HF dom) s.heap.size) ad dom HF s.heap := ⟨hdm, hP, hD⟩
  have hS : va_S (va_A (h_W cy ad HF dom) s.heap.size) s.heap s.heap [] := va_S.rf
  have hf : fr_ (mY Ma) (mC Ma) 4 (some .int) p s m _ meth c dC dI cy (va_A (h_W cy ad HF dom) s.heap.size) := ⟨B.exec, B.bytes, hml, B.returns, B.notSynchronized, hown, hnm, htg, hcx, fun q hq => Or.inr hq⟩
  refine lv_aload_n B.exec B.bytes d_X11_about_0 rfl (hl.2.2 (0, .ref (ad 0)) List.mem_cons_self) ?_
  refine lv_iload_n B.exec B.bytes d_X11_about_1 rfl (hl.2.2 (1, .int x1) (List.mem_cons_of_mem _ List.mem_cons_self)) ?_
  obtain ⟨q, hq, hw⟩ := h_W_get (cy := cy) (ad := ad) (h := HF) (dom_0 hdm.2.1 (ws_0 wHF))
  rw [h_ce_obj (ci := 11) (n := 16) (ws_0 wHF)] at hw
  have hov : ∀ v ∈ [Value.ref 0, .int x1], h_ok dom v := ok_c (fun c hc => by cases hc; exact Or.inl (dom_0 hdm.2.1 (ws_0 wHF))) (ok_c ok_i (fun v hv => by cases hv))
  have hC := f_X11_manOf 0 HF wHF hf_0_7 x1 l dC dI cy ad adV dom s.heap.size hdm hov
  have hm := cV_X11_manOf (0 + 1) 0 0
  have hr := va_runV (l := l.1) (e := e) (below := below) (meth := meth) (locs := []) (cells := 0) (slots := 0) (R := mR Ma) (m := m) (g := F0 m 2 ls [.int x1, .ref (ad 0)]) (rest := []) (As := [Value.int x1]) ⟨B.exec, B.bytes, hml, hown, htg⟩ hC ⟨cb_ htg hm.1 tw_904 ⟨by decide, by decide⟩, htg _ hm.2.1, htg _ hm.2.2⟩ ⟨cp_blind, va_recv hcx.1 hP kc_11.1 hw, fun U hU hWm => ⟨rfl, cp_pre hf hst hW hS hU hWm⟩⟩ rfl rfl hl.1 rfl (lv_room (by decide)) d_X11_about_2 ⟨by decide, by decide⟩
  intro T hT0 X
  obtain ⟨v, st₀, t, T', L, h0, X', hL, e1, e2, ⟨⟨v', h', ad', dom', hv, ⟨o, er, e8, e9⟩, hW', hov', hE'⟩, hz1, hkp⟩, stp⟩ := hr T hT0 X
  cases hv
  rw [h0] at hz1 hkp
  subst e8
  subst er
  rw [e9] at hW'
  have hS1 : va_S (va_A (h_W cy ad HF dom) s.heap.size) s.heap T'.heap ([] ++ L) := ⟨by rw [e1]; exact hz1, fun q h1 h2 => by rw [e1]; exact hkp q h1 h2, fun q hq => hL q (by simpa using hq)⟩
  have key : W p l.1 e (mR Ma) s m ([Value.ref 0, .int x1, .int x2].map (h_cv ad)).toArray below meth c T'.heap ([] ++ L) (0 + 0) (0 + 0) (vx_MQ below (fun _ _ _ _ => False) (XA dC dI cy (va_A (h_W cy ad HF dom) s.heap.size) ad dom) ([Value.ref 0, .int x1, .int x2].map (h_cv ad)).toArray s 1 6 (va_A (h_W cy ad HF dom) s.heap.size)) (F0 m 5 ls [.null]) := by
    refine lv_astore_nN B.exec B.bytes d_X11_about_5 rfl hl (by decide) rfl (fun ls' hl' => ?_)
    refine lv_aload_nN B.exec B.bytes d_X11_about_6 rfl (hl'.2.2 (3, .null) List.mem_cons_self) ?_
    refine lv_ifnonnullN B.exec B.bytes d_X11_about_7 ?_
    obtain ⟨sa, hsa⟩ := hz.2.2.1
    refine tw13 (own := "CountyWatch") (cls := xE) (F := xF) (text := "no such constable") (names := xN) (ik := 306) (is := 308) (ic := 310) (sa := sa) (A := va_A (h_W cy ad HF dom) s.heap.size) B.exec B.bytes l.2 hown (by decide +kernel) (by decide +kernel) (by decide +kernel) (htg _ tw_1669) (htg _ tw_25) hsa (fun w hw => va_tabs (ft_ot w hw) rfl (hz.2.2.2 w hw)) ?_ hz.1 hz.2.1 hS1 (hl'.1.trans hml.symm) d_X11_about_10 d_X11_about_13 d_X11_about_14 d_X11_about_17 d_X11_about_20 (fun x hx => (htab x hx).elim) (by decide) (by decide) (by decide) (by decide) B.notSynchronized (fun t1 hal hsz1 hkp1 => ⟨rfl, ⟨ad', dom', wd_more (by rw [e1]; exact hW') hkp1, hE'⟩, ?_⟩) hS1.2.2 (by decide) (by decide)
    · intro w hw
      have hall : (Cond.classLink "CountyWatch" 306 xE :: Cond.initialized xE :: aE).all vx_ot = true := by decide +kernel
      exact List.all_eq_true.mp hall w hw
    · exact ⟨Nat.le_trans hS1.1 hsz1, fun q h1 h2 => (hkp1 q (Nat.lt_of_lt_of_le h1 hS1.1)).trans (hS1.2.1 q h1 h2)⟩
  obtain ⟨t2, a1, b1⟩ := key T' rfl X'
  exact ⟨t2, stp t2 a1, b1⟩
abbrev yLa : MethodName := ⟨"CountyWatchLaw", "about", "(LCountyWatch;II[J)I"⟩
abbrev RLa : Room := { frames := 20, cells := 1, slots := 6, locals := 2000 }
abbrev wLa : Cond := Cond.codeWith yLa method_3_code 5 (some .int) [(0, 10, 13, 13)]
abbrev kLa : Option Value → Hp_ → Prop := fun v h' => v = some (.int 1) ∧ h' = HF
theorem d_La_0 : decode method_3_code 0 = .ok (.aload_n 3, 1) := by decide +kernel
theorem d_La_1 : decode method_3_code 1 = .ok (.iconst 0, 1) := by decide +kernel
theorem d_La_2 : decode method_3_code 2 = .ok (.aload_n 0, 1) := by decide +kernel
theorem d_La_3 : decode method_3_code 3 = .ok (.iload_n 1, 1) := by decide +kernel
theorem d_La_4 : decode method_3_code 4 = .ok (.iload_n 2, 1) := by decide +kernel
theorem d_La_5 : decode method_3_code 5 = .ok (.invokevirtual 7, 3) := by decide +kernel
theorem d_La_8 : decode method_3_code 8 = .ok (.i2l, 1) := by decide +kernel
theorem d_La_9 : decode method_3_code 9 = .ok (.lastore, 1) := by decide +kernel
theorem d_La_10 : decode method_3_code 10 = .ok (.goto 7, 3) := by decide +kernel
theorem d_La_13 : decode method_3_code 13 = .ok (.astore 4, 2) := by decide +kernel
theorem d_La_15 : decode method_3_code 15 = .ok (.iconst 1, 1) := by decide +kernel
theorem d_La_16 : decode method_3_code 16 = .ok (.ireturn, 1) := by decide +kernel
theorem d_La_17 : decode method_3_code 17 = .ok (.iconst 0, 1) := by decide +kernel
theorem d_La_18 : decode method_3_code 18 = .ok (.ireturn, 1) := by decide +kernel
theorem xl_about (l : Ln_) (dC : Nat → ClassId) (dI : Nat → Nat → Nat) (cy : Nat → ClassId) (ad adV : Nat → Nat) (dom : List Nat) (sz : Nat) (hdm : dom.Nodup ∧ (∀ a, h_sh HF a ≠ none ↔ a ∈ dom) ∧ (∀ a ∈ dom, a < 1000) ∧ ∀ b k c, h_r HF b k = some c → c ∈ dom ∨ 1000 ≤ c) (x1 x2 : Int32) :
    vx_Met l.1 yLa (wLa :: lw_g) RLa (va_Pc ([Value.ref 0, .int x1, .int x2, .ref 2].map (h_cv ad)) (cz_ dC dI cy ad adV dom HF sz)) (qq_ kLa dC dI cy (va_A (h_W cy ad HF dom) sz) ad dom) (fun _ _ _ => False) 1 6 (va_A (h_W cy ad HF dom) sz) := by
  refine vx_ofWH (cc := method_3_code) (maxL := 5) (ret := some .int) (hh := [(0, 10, 13, 13)]) rfl rfl ?_
  intro p e s m args below meth c s₁ B hml hv0
  obtain ⟨rfl, ⟨hsz, hP, hD0, hcx, hst⟩, hz⟩ := hv0
  have hts := atoms_spec (ws := wLa :: lw_g) B.pre
  have htg : ∀ w ∈ lw_g, w.before _ s = true := fun w hw => hts w (List.mem_cons_of_mem _ hw)
  have hown : s.vm.findClass "CountyWatchLaw" = some m.cls := findClass_of_methodNamed B.named
  have hnm : meth.name = "about" := (name_of_methodNamed B.named B.method).1
  have htbl : c.exceptionTable.toList = tableOf [(0, 10, 13, 13)] := vx_table (x := yLa) B (hts _ List.mem_cons_self)
  subst hsz
  have hD := hD0.self (sz := s.heap.size)
  have hl := lv_entry ([Value.ref 0, .int x1, .int x2, .ref 2].map (h_cv ad)) (n := 5) (Nat.le_of_ble_eq_true rfl)
  rw [lg_entry_eq]
  generalize (lg_sl ([Value.ref 0, .int x1, .int x2, .ref 2].map (h_cv ad)) ++ List.replicate (5 - (lg_sl ([Value.ref 0, .int x1, .int x2, .ref 2].map (h_cv ad))).length) Slot.unset).toArray = ls at hl ⊢
  have hl : lv_has ls 5 [(0, .ref (ad 0)), (1, .int x1), (2, .int x2), (3, .ref (ad 2))] := hl
  have hW : wd_ dC dI cy (va_A (h_W cy ad HF dom) s.heap.size) ad dom HF s.heap := ⟨hdm, hP, hD⟩
  have hS : va_S (va_A (h_W cy ad HF dom) s.heap.size) s.heap s.heap [] := va_S.rf
  have hf : fr_ yLa method_3_code 5 (some .int) p s m _ meth c dC dI cy (va_A (h_W cy ad HF dom) s.heap.size) := ⟨B.exec, B.bytes, hml, B.returns, B.notSynchronized, hown, hnm, htg, hcx, fun q hq => Or.inr hq⟩
  refine lv_aload_n B.exec B.bytes d_La_0 rfl (hl.2.2 (3, .ref (ad 2)) (by simp)) ?_
  refine lv_iconst B.exec B.bytes d_La_1 ic_0 ?_
  refine lv_aload_n B.exec B.bytes d_La_2 rfl (hl.2.2 (0, .ref (ad 0)) List.mem_cons_self) ?_
  refine lv_iload_n B.exec B.bytes d_La_3 rfl (hl.2.2 (1, .int x1) (by simp)) ?_
  refine lv_iload_n B.exec B.bytes d_La_4 rfl (hl.2.2 (2, .int x2) (by simp)) ?_
  obtain ⟨q, hq, hw⟩ := h_W_get (cy := cy) (ad := ad) (h := HF) (dom_0 hdm.2.1 (ws_0 wHF))
  rw [h_ce_obj (ci := 11) (n := 16) (ws_0 wHF)] at hw
  have hm := cV_X11_about 12 1 6
  have hsub : ∀ z, va_A (h_W cy ad HF dom) s.heap.size z → va_A (h_W cy ad HF dom) s.heap.size z := fun _ z => z
  have hr := vx_runV (l := l.1) (e := e) (below := below) (meth := meth) (locs := []) (cells := 0) (slots := 0) (R := RLa) (m := m) (g := F0 m 5 ls [.int x2, .int x1, .ref (ad 0), .int 0, .ref (ad 2)]) (rest := [.int 0, .ref (ad 2)]) (As := [Value.int x1, .int x2]) ⟨B.exec, B.bytes, hml, hown, htg⟩ (xa_about l dC dI cy ad adV dom s.heap.size hdm x1 x2) ⟨cb_ htg hm.1 tw_1665 ⟨by decide, by decide⟩, htg _ hm.2.1, htg _ hm.2.2⟩ ⟨cz_blind, va_recv hcx.1 hP kc_11.1 hw, fun U hU hWm => ⟨rfl, cp_pre hf hst hW hS hU hWm, hz.go hS hU hWm hsub⟩⟩ rfl rfl hl.1 rfl (lv_room (Nat.le_of_ble_eq_true rfl)) d_La_5 ⟨by decide, by decide⟩
  intro T hT0 X
  rcases hr T hT0 X with ⟨v, st₀, t, T', L, h0, X', hL, e1, e2, hbad, st⟩ | ⟨q9, st₀, t, T', L, E, ce, h0, X', hL, e1, e2, ⟨rfl, ⟨ad', dom', hW', hE'⟩, hz1, hkp⟩, hce, hcv, hcl, st⟩
  · exact hbad.elim
  · rw [h0] at hz1 hkp
    have hS1 : va_S (va_A (h_W cy ad HF dom) s.heap.size) s.heap T'.heap ([] ++ L) := ⟨by rw [e1]; exact hz1, fun q h1 h2 => by rw [e1]; exact hkp q h1 h2, fun q hq => hL q (by simpa using hq)⟩
    have hW1 : wd_ dC dI cy (va_A (h_W cy ad HF dom) s.heap.size) ad' dom' HF T'.heap := by rw [e1]; exact hW'
    have hca : (Cond.castable xE xE).before #[] s = true := hz.2.2.2 _ (by decide +kernel)
    have key : vx_W p l.1 e RLa s m ([Value.ref 0, .int x1, .int x2, .ref 2].map (h_cv ad)).toArray below meth c T'.heap ([] ++ L) (0 + 1) (0 + 6) (vx_MQ below (qq_ kLa dC dI cy (va_A (h_W cy ad HF dom) s.heap.size) ad dom) (fun _ _ _ => False) ([Value.ref 0, .int x1, .int x2, .ref 2].map (h_cv ad)).toArray s 1 6 (va_A (h_W cy ad HF dom) s.heap.size)) (F0 m 5 ls [.int 0, .ref (ad 2)]) q9 := by
      refine vx_catch (own := "CountyWatchLaw") (name := xE) (E := xE) (ce := ce) hown [] ⟨0, 10, 13, 13⟩ [] (by rw [htbl]; rfl) (fun z hz => by cases hz) (by decide) (by decide) (htg _ tw_1664) (va_tabs rfl rfl hca) (by rw [e1]; exact hce) hcv hcl ?_
      refine lv_astore B.exec B.bytes d_La_13 hl (by decide) rfl (fun ls' hl' => ?_)
      refine lv_iconst B.exec B.bytes d_La_15 ic_1 ?_
      refine vx_ret ?_
      exact W.iret B.exec B.bytes B.returns (fun t1 ht _ => ⟨⟨some (.int 1), HF, ad', dom', rfl, ⟨rfl, rfl⟩, by rw [ht]; exact hW1, fun _ hx => by cases hx; exact ok_i, hE'⟩, hS1.F ht⟩) hS1.2.2 d_La_16 B.notSynchronized
    obtain ⟨t2, a1, b1⟩ := key T' rfl X'
    exact ⟨t2, st.trans a1, b1⟩
theorem xl_met (l : Ln_) (dC : Nat → ClassId) (dI : Nat → Nat → Nat) (cy : Nat → ClassId) (ad adV : Nat → Nat) (dom : List Nat) (sz : Nat) (hdm : dom.Nodup ∧ (∀ a, h_sh HF a ≠ none ↔ a ∈ dom) ∧ (∀ a ∈ dom, a < 1000) ∧ ∀ b k c, h_r HF b k = some c → c ∈ dom ∨ 1000 ≤ c) (x1 x2 : Int32) :
    Met l.1 yLa (wLa :: lw_g) RLa (va_Pc ([Value.ref 0, .int x1, .int x2, .ref 2].map (h_cv ad)) (cz_ dC dI cy ad adV dom HF sz)) (qq_ kLa dC dI cy (va_A (h_W cy ad HF dom) sz) ad dom) 1 6 (va_A (h_W cy ad HF dom) sz) := by
  intro p e ha hc hk s m args below hf hp hP hT
  obtain ⟨k, o, h1, h2, h3, h4⟩ := xl_about l dC dI cy ad adV dom sz hdm x1 x2 p e ha hc hk s m args below hf hp hP hT
  rcases h4 with h4 | ⟨q, _, E, ce, L, hbad, _⟩
  · exact ⟨k, o, h1, h2, h3, h4⟩
  · exact hbad.elim
