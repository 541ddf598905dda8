/-! walkOf and feed of the reference as contracts -/
theorem Iv_only {h h' : Hp_} {L : List Nat} (I : Iv h) (o : only L h h') (h0 : 0 ∉ L) (hj : ∀ a ∈ L, jr a = false) (hr : ∀ a ∈ L, ∀ k, rin (h_i h' a k).toInt (tf a k)) : Iv h' := by
  obtain ⟨w, e, el, er, es⟩ := o
  have cn' : ∀ c, Cn h c → Cn h' c := fun c z => ⟨z.1, z.2.1, by rw [es]; exact z.2.2⟩
  refine ⟨w, fun a k => ?_, fun k => ?_, ?_, ?_, Jv_same (fun a k ha => ?_) es (by rw [er]) I.2.2.2.2.2⟩
  · by_cases c : a ∈ L
    · exact hr a c k
    · rw [e a c]; exact I.2.1 a k
  · rw [er]
    rcases I.2.2.1 k with z | ⟨c, z, y⟩
    · exact Or.inl z
    · exact Or.inr ⟨c, z, cn' c y⟩
  · rw [er]; exact I.2.2.2.1
  · obtain ⟨c, N, c1, c2, c3, c4⟩ := I.2.2.2.2.1
    exact ⟨c, N, by rw [er]; exact c1, by rw [es]; exact c2, c3, by rw [e 0 h0]; exact c4⟩
  · rw [e a (fun z => by rw [jw_jr (fun y => h0 (y ▸ z)) (hj a z)] at ha; cases ha)]
theorem tf_bd {h : Hp_} (I : Iv h) (a k : Nat) {lo hi : Int} (e : tf a k = (lo, hi)) : bd h a k lo hi := by
  have := I.2.1 a k
  rw [e] at this
  exact this
theorem Iv_RdI {h : Hp_} (I : Iv h) : RdI h := by
  have e0 : tfa 200 = some (0, 15) := by decide +kernel
  have e1 : tfa 201 = some (0, 15) := by decide +kernel
  have e2 : tfa 202 = some (0, 60) := by decide +kernel
  exact ⟨tf_bd I 1 6 (by decide +kernel), fun k _ => ⟨tf_bd I 200 k (tfa_tf e0 k), tf_bd I 201 k (tfa_tf e1 k), tf_bd I 202 k (tfa_tf e2 k)⟩⟩
def wz_X12_walkOf : List Nat := [203999]
def q_X12_walkOf : Ctr := ([.inl ((0, 15), (0, 0), none), .inl (((-2147483648), 2147483647), (0, 0), none), .inr 11], [], (some (.inl (((-1), 100000), (0, 0), none))), [], wz_X12_walkOf)
theorem hc_X12_walkOf (n : Nat) : Hc (m_X12_walkOf (n + 0) 0 0) q_X12_walkOf := by
  intro vs h ma I hp
  match vs, ma with
  | [v2, v1, v0], ma =>
    obtain ⟨⟨x2, e2, b2, _⟩, ⟨x1, e1, _, _⟩, e0, _⟩ := ma
    have e0 : v0 = .ref 1 := e0
    subst e0 e1 e2
    have b20 : 0 ≤ x2.toInt := b2.1
    have b21 : x2.toInt ≤ 15 := b2.2
    refine Ct.mono (sf_X12_walkOf n h I.1 (Iv_RdI I) x1 x2 ⟨b20, by omega⟩) (fun v h' q => ?_)
    obtain ⟨r, ev, o, c⟩ := q
    subst ev
    have t203 : tfa 203 = some rtop := by decide +kernel
    refine ⟨Iv_only I o (by decide) (by decide) (fun a ha k => ?_), ⟨o.2.2.2.2, fun b k hb => ?_⟩, fun _ z => (nomatch z), _, rfl, r, rfl, ?_, fun _ z => (nomatch z)⟩
    · have ha := mem1 ha
      rw [ha, tfa_tf t203]; exact rtop_in _
    · have nb : b ≠ 203 := fun z => by
        rw [z] at hb
        have t : inw wz_X12_walkOf 203 k = true := inw_row (by decide +kernel) k
        have hb : inw wz_X12_walkOf 203 k = false := hb
        rw [hb] at t; cases t
      exact ⟨by rw [o.2.1 b (fun z => nb (mem1 z))], by rw [o.2.2.1], by rw [o.2.2.2.1]⟩
    · have tm : (-1 : Int32).toInt = -1 := rfl
      rcases c with c | c
      · rw [c]; exact ⟨by decide, by decide⟩
      · exact ⟨by show (-1 : Int) ≤ _; omega, by show _ ≤ (100000 : Int); omega⟩
def wz_X12_feed : List Nat := [1032, 225999]
def q_X12_feed : Ctr := ([.inl (((-2147483648), 2147483647), (0, 0), none), .inl (((-2147483648), 2147483647), (0, 0), none), .inl (((-2147483648), 2147483647), (0, 0), none), .inl (((-2147483648), 2147483647), (0, 0), none), .inl (((-2147483648), 2147483647), (0, 0), none), .inr 11], [], (some (.inl (((-2147483648), 2147483647), (0, 0), none))), [], wz_X12_feed)
theorem hc_X12_feed (n : Nat) : Hc (m_X12_feed (n + 1) 0 0) q_X12_feed := by
  intro vs h ma I hp
  match vs, ma with
  | [v5, v4, v3, v2, v1, v0], ma =>
    obtain ⟨⟨x5, e5, _⟩, ⟨x4, e4, _⟩, ⟨x3, e3, _⟩, ⟨x2, e2, _⟩, ⟨x1, e1, _⟩, e0, _⟩ := ma
    have e0 : v0 = .ref 1 := e0
    subst e0 e1 e2 e3 e4 e5
    have t32 : tf 1 32 = (0, 160) := by decide +kernel
    refine Ct.mono (sf_X12_feed n h I.1 (tf_bd I 1 32 t32) x1 x2 x3 x4 x5) (fun v h' q => ?_)
    obtain ⟨r, ev, o, b, s⟩ := q
    subst ev
    have t225 : tfa 225 = some rtop := by decide +kernel
    refine ⟨Iv_only I o (by decide) (by decide) (fun a ha k => ?_), ⟨o.2.2.2.2, fun c k hb => ?_⟩, fun _ z => (nomatch z), _, rfl, r, rfl, rtop_in _, fun _ z => (nomatch z)⟩
    · rcases List.mem_cons.mp ha with z | z
      · rw [z, tfa_tf t225]; exact rtop_in _
      · have z := mem1 z
        rw [z]
        by_cases y : k = 32
        · rw [y, t32]; exact b
        · rw [s k y]; exact I.2.1 1 k
    · have n225 : c ≠ 225 := fun z => by
        rw [z] at hb
        have t : inw wz_X12_feed 225 k = true := inw_row (by decide +kernel) k
        have hb : inw wz_X12_feed 225 k = false := hb
        rw [hb] at t; cases t
      refine ⟨?_, by rw [o.2.2.1], by rw [o.2.2.2.1]⟩
      by_cases y : c = 1
      · subst y
        have k32 : k ≠ 32 := fun z => by rw [z] at hb; exact absurd hb (by decide +kernel)
        exact s k k32
      · rw [o.2.1 c (fun z => by rcases List.mem_cons.mp z with w | w; exact n225 w; exact y (mem1 w))]
theorem Cn_fr {ws : List Nat} {h h' : Hp_} {c : Nat} (f : Fr ws h h') (w : Cn h c) : Cn h' c := ⟨w.1, w.2.1, by rw [f.1]; exact w.2.2⟩
/-- a call on an object, its arguments known -/
theorem aw_Vc {M M' : Mc_} {K : Option Value → Hp_ → Prop} {pc n idx ci N a : Nat} {lv : List (Nat × Value)} {rest : List Value} {h : Hp_} {c : Ctr} {T : u_T} (vs : List Value) (hC : Hc M' c) (ma : am h (vs.reverse ++ [.ref a]) c.1) (I : Iv h) (hp : hm h c.2.1) (hd : decode (mC M) pc = .ok (.invokevirtual idx, 3)) (hm : cV_ M' n) (hkc : kc_ ci (mY M').cls T N) (hs : h_sh h a = some (ci + 10, N)) (hlk : Cond.methodLink (mY M).cls idx (mY M') ∈ lw_g) (hn : vs.length = n) (hc : (rest.map (fun v => v.category)).sum ≤ 8) (hz : rz_ M' M)
    (k : ∀ v h', Kc c.2.2.2.2 h c.2.2.1 c.2.2.2.1 v h' → AW M 0 0 (pc + 3) lv (v.toList ++ rest) h' K) : AW M 0 0 pc lv (vs.reverse ++ .ref a :: rest) h K := by
  have C := hC _ h ma I hp
  rw [List.reverse_append, List.reverse_reverse, List.reverse_singleton, List.singleton_append] at C
  exact aw_callV hd hm.1 hkc hs hm.2.1 hm.2.2 hlk hn hz.1 hc ⟨by rw [hz.2.1]; exact Nat.zero_le _, by rw [hz.2.2.1]; exact Nat.zero_le _⟩ hz.2.2.2 C (fun v h' kv => by rw [hz.2.1, hz.2.2.1]; exact k v h' kv)
