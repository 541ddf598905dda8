/-! System.arraycopy between int rows -/
theorem tw_nat : Cond.native arraycopyName ∈ lw_g := lw_c5 54 (by decide +kernel) (by decide +kernel)
section COPY
variable {ws : List Nat} {h0 : Hp_} {M : Mc_} {K : Option Value → Hp_ → Prop} {pc : Nat}
theorem aw_copyi {lv : List (Nat × Value)} {rest : List Value} {h : Hp_} {a0 a n0 n1 idx : Nat} {sp dp n : Int32} (hs0 : h_sh h a0 = some (0, n0)) (hs1 : h_sh h a = some (0, n1)) (h1 : ¬ sp < 0) (h2 : ¬ dp < 0) (h3 : ¬ n < 0) (h4 : sp.toNatClampNeg + n.toNatClampNeg ≤ n0) (h5 : dp.toNatClampNeg + n.toNatClampNeg ≤ n1)
    (hlk : Cond.methodLink (mY M).cls idx arraycopyName ∈ lw_g) (hfr : 1 ≤ (mR M).frames) (hlo : (rest.map (fun v => v.category)).sum + (nativeFrameWords "java/lang/System" "arraycopy" 5 + 11) ≤ (mR M).locals) (hd : decode (mC M) pc = .ok (.invokestatic idx, 3))
    (k : AW M 0 0 (pc + 3) lv rest (h_iw h a (va_cpy (h_i h a0) (h_i h a) sp.toNatClampNeg dp.toNatClampNeg n.toNatClampNeg)) K) : AW M 0 0 pc lv (.int n :: .int dp :: .ref a :: .int sp :: .ref a0 :: rest) h K := by
  intro l p e s m args below meth c dC dI cy A ad0 adV ad dom0 dom H locs ls hf hX hT hE hW hS hl ho hs
  obtain ⟨q0, hq0, hw0⟩ := h_W_get (cy := cy) (ad := ad) (h := h) (wd_in hW hs0)
  rw [h_ce_arr hs0 (by decide)] at hw0
  obtain ⟨q1, hq1, hw1⟩ := h_W_get (cy := cy) (ad := ad) (h := h) (wd_in hW hs1)
  rw [h_ce_arr hs1 (by decide)] at hw1
  refine va_copyi hf.1 hf.2.1 (hf.2.2.1.trans hl.1.symm) hf.2.2.2.2.2.1 (hf.2.2.2.2.2.2.2.1 _ hlk) (hf.2.2.2.2.2.2.2.1 _ tw_nat) (hf.2.2.2.2.2.2.2.1 _ tw_1013) (hf.2.2.2.2.2.2.2.1 _ tw_21) hf.2.2.2.2.2.2.2.2.1.1 hW.2.1 hW.2.2 hS q0 q1 0 0 hw0 hw1 rfl rfl rfl h1 h2 h3 h4 h5 (fun _ _ => rfl) hfr (by rw [cat_cv]; exact hlo) hd (fun H1 locs1 g1 g2 hS1 => ?_)
  exact k l p e s m args below meth c dC dI cy A ad0 adV ad dom0 dom H1 locs1 ls hf hX hT hE (wd_i hW hq1 (ce_iw hs1 (by decide)) g1 g2) hS1 hl ho (ok_t (ok_t (ok_t (ok_t (ok_t hs)))))
/-- a stretch of a row laid into another -/
def x_acopy (ws : List Nat) (n : Nat) : Fx := fun a => match a.2.1 with
  | .inl (rn, _, _) :: .inl (rd, _, _) :: .inr (c1 + 10) :: .inl (rs, _, _) :: .inr (c0 + 10) :: st => (match shq c0, shq c1, tfa c0, tfa c1 with
    | some p0, some p1, some r0, some r1 => bif Nat.beq p0.1 0 && Nat.beq p1.1 0 && ile 0 rn.1 && ile 0 rd.1 && ile 0 rs.1 && ile (rs.2 + rn.2) (p0.2 : Int) && ile (rd.2 + rn.2) (p1.2 : Int) && rsub r0 r1 && inw ws c1 999 && !Nat.beq c1 0 && !jr c1 && Nat.ble ((st.map ac).sum) 8 then some [(n, a.1, st.map (kav kfl), kfh (fun q => Nat.beq q.1 c1) c1 a.2.2)] else none
    | _, _, _, _ => none)
  | _ => none
theorem sm5 {g : Nat → Int} {h : Hp_} {lv : List (Nat × Value)} {st : List Value} {p q o u w : Av} {t : List Av} (m : sm g h lv st (p :: q :: o :: u :: w :: t)) : ∃ a b c d e r, st = a :: b :: c :: d :: e :: r ∧ bm g h a p ∧ bm g h b q ∧ bm g h c o ∧ bm g h d u ∧ bm g h e w ∧ sm g h lv r t := by
  match st, m with
  | a :: b :: c :: d :: e :: r, m => exact ⟨a, b, c, d, e, r, rfl, m.1, m.2.2.1, m.2.2.2.2.1, m.2.2.2.2.2.2.1, m.2.2.2.2.2.2.2.2.1, m.2.2.2.2.2.2.2.2.2.2⟩
theorem Iv.iw {h : Hp_} {a : Nat} {f : Nat → Int32} (I : Iv h) (hx : ∀ k, rin (f k).toInt (tf a k)) (hn : a ≠ 0) (hj : jr a = false) : Iv (h_iw h a f) := by
  refine ⟨I.1.iw a f, fun b j => ?_, I.2.2.1, I.2.2.2.1, ?_, Jv_same (h := h) (fun b j hb => ?_) rfl rfl I.2.2.2.2.2⟩
  · rw [h_i_iw]
    split
    · rename_i c; rw [c]; exact hx j
    · exact I.2.1 b j
  · obtain ⟨c, N, e1, e2, e3, e4⟩ := I.2.2.2.2.1
    refine ⟨c, N, e1, e2, e3, ?_⟩
    rw [h_i_iw, if_neg (fun z => hn z.symm)]
    exact e4
  · rw [h_i_iw, if_neg (fun z => by rw [z, jw_jr hn hj] at hb; cases hb)]
theorem Fr.iw {h h1 : Hp_} {a : Nat} {f : Nat → Int32} (F : Fr ws h h1) (ha : inw ws a 999 = true) : Fr ws h (h_iw h1 a f) := by
  refine ⟨F.1, fun b j hb => ⟨?_, (F.2 b j hb).2⟩⟩
  have n : b ≠ a := fun z => by rw [z, inw_row ha j] at hb; cases hb
  rw [← (F.2 b j hb).1, h_i_iw, if_neg n]
theorem Gm.iw {g : Nat → Int} {la : List (Nat × Av)} {sa : List Av} {hf : Hx} {lv : List (Nat × Value)} {st : List Value} {h : Hp_} {a : Nat} {f : Nat → Int32} (G : Gm g ws h0 (la, sa, hf) lv st h) (hxx : ∀ k, rin (f k).toInt (tf a k)) (hn : a ≠ 0) (hj : jr a = false) (ha : inw ws a 999 = true) : Gm g ws h0 (la, sa.map (kav kfl), kfh (fun q => Nat.beq q.1 a) a hf) lv st (h_iw h a f) := by
  refine ⟨lm_sh (h := h) (h' := h_iw h a f) rfl G.1, sm_kav (f := kfl) (h := h) (h' := h_iw h a f) rfl (fun s y hs l => ?_) G.2.1, ⟨fun q hq => ?_, fun q hq => ?_, fun q hq => ?_⟩, G.2.2.2.1.iw hxx hn hj, G.2.2.2.2.1.iw ha, G.2.2.2.2.2⟩
  · refine ⟨l.1, fun z => ?_, fun z => ?_⟩
    · unfold kfl at hs; rw [Nat.ble_eq.mpr z] at hs; cases hs
    · unfold kfl at hs; rw [Nat.ble_eq.mpr (by omega)] at hs; cases hs
  · have w := List.mem_filter.mp hq
    have w2 : q.1.1 ≠ a := fun z => by have t : (!Nat.beq q.1.1 a) = true := w.2; rw [z, Nat.beq_refl] at t; cases t
    rw [h_i_iw, if_neg w2]
    exact G.2.2.1.1 q w.1
  · have w := List.mem_filter.mp hq
    have w2 : q.1.1 ≠ a := fun z => by have := w.2; rw [z, Nat.beq_refl] at this; cases this
    obtain ⟨i, m1, m2⟩ := G.2.2.1.2.1 q w.1
    refine ⟨i, m1, ?_⟩
    rw [h_i_iw, if_neg w2]
    exact m2
  · have w := List.mem_filter.mp hq
    have w2 : q.1.1 ≠ a := fun z => by have t : (!Nat.beq q.1.1 a) = true := w.2; rw [z, Nat.beq_refl] at t; cases t
    rw [h_i_iw, if_neg w2]
    exact G.2.2.1.2.2 q w.1
theorem n_ge {x : Int32} (h : 0 ≤ x.toInt) : ¬ x < 0 := fun z => by
  have := q_lt.mp z
  have e : (0 : Int32).toInt = 0 := rfl
  omega
theorem n_nat {x : Int32} (h : 0 ≤ x.toInt) : (x.toNatClampNeg : Int) = x.toInt := by
  show ((x.toInt.toNat : Nat) : Int) = _
  omega
theorem z_acopy {idx : Nat} (hlk : Cond.methodLink (mY M).cls idx arraycopyName ∈ lw_g) (hfr : 1 ≤ (mR M).frames) (hlo : 100 ≤ (mR M).locals) (hd : decode (mC M) pc = .ok (.invokestatic idx, 3)) {nx : Nat} (hnx : pc + 3 = nx) : Sd ws h0 M K pc (x_acopy ws nx) := by
  subst hnx
  intro g a out e lv st h G kx
  obtain ⟨la, sa, hf⟩ := a
  unfold x_acopy at e
  split at e
  · rename_i rn s1 g1 rd s2 g2 c1 rs s3 g3 c0 sa' q
    have q : sa = .inl (rn, s1, g1) :: .inl (rd, s2, g2) :: .inr (c1 + 10) :: .inl (rs, s3, g3) :: .inr (c0 + 10) :: sa' := q
    subst q
    split at e
    · rename_i p0 p1 r0 r1 w0 w1 w2 w3
      cases z : Nat.beq p0.1 0 && Nat.beq p1.1 0 && ile 0 rn.1 && ile 0 rd.1 && ile 0 rs.1 && ile (rs.2 + rn.2) (p0.2 : Int) && ile (rd.2 + rn.2) (p1.2 : Int) && rsub r0 r1 && inw ws c1 999 && !Nat.beq c1 0 && !jr c1 && Nat.ble ((sa'.map ac).sum) 8 with
      | false => rw [z] at e; cases e
      | true =>
        rw [z] at e
        have e := (Option.some.inj e).symm
        subst e
        simp only [Bool.and_eq_true, ile_iff, Nat.ble_eq] at z
        obtain ⟨⟨⟨⟨⟨⟨⟨⟨⟨⟨⟨y1, y2⟩, y3⟩, y4⟩, y5⟩, y6⟩, y7⟩, y8⟩, y9⟩, y10⟩, y12⟩, y11⟩ := z
        rw [Bool.not_eq_true'] at y12
        have y1 := Nat.eq_of_beq_eq_true y1
        have y2 := Nat.eq_of_beq_eq_true y2
        obtain ⟨v1, v2, v3, v4, v5, t, es, ⟨n, en, hn, _⟩, ⟨d, ed, hdp, _⟩, e3, ⟨sp, esp, hsp, _⟩, e5, m⟩ := sm5 G.2.1
        have e3 : v3 = .ref c1 := e3
        have e5 : v5 = .ref c0 := e5
        subst es en ed e3 esp e5
        have W := G.2.2.2.1.1
        have sh0 : h_sh h c0 = some (0, p0.2) := by rw [W.1 (c0, p0) (lk_mem w0)]; show some p0 = _; rw [← y1]
        have sh1 : h_sh h c1 = some (0, p1.2) := by rw [W.1 (c1, p1) (lk_mem w1)]; show some p1 = _; rw [← y2]
        have a1 := hn.1; have a2 := hn.2; have a3 := hdp.1; have a4 := hdp.2; have a5 := hsp.1; have a6 := hsp.2
        have b1 := n_nat (x := n) (by omega)
        have b2 := n_nat (x := d) (by omega)
        have b3 := n_nat (x := sp) (by omega)
        have c10 : c1 ≠ 0 := fun y => by rw [y] at y10; exact absurd y10 (by decide)
        have nf : nativeFrameWords "java/lang/System" "arraycopy" 5 ≤ 40 := by decide +kernel
        refine aw_copyi sh0 sh1 (n_ge (by omega)) (n_ge (by omega)) (n_ge (by omega)) (by omega) (by omega) hlk hfr (by rw [sm_cat m]; omega) hd (kx _ List.mem_cons_self _ _ _ ?_)
        refine Gm.iw ⟨G.1, m, G.2.2⟩ (fun k => ?_) c10 y12 y9
        unfold va_cpy
        rw [tfa_tf w3]
        split
        · have := G.2.2.2.1.2.1 c0 (sp.toNatClampNeg + (k - d.toNatClampNeg))
          rw [tfa_tf w2] at this
          exact rsub_in y8 this
        · have := G.2.2.2.1.2.1 c1 k
          rw [tfa_tf w3] at this
          exact this
    · cases e
  · cases e
end COPY
