/-! pieces by hand: the minute's entry of the history; a good told -/
section HANDS
variable {ws : List Nat} {h0 : Hp_} {K : Option Value → Hp_ → Prop}
def x_hist : Fx := fun a => match lk 0 a.1, lk 2 a.1 with
  | some (.inr 10), some (.inl (r, _, _)) => bif ile 0 r.1 then some [(30, a.1, .inr 0 :: a.2.1, a.2.2), (26, a)] else none
  | _, _ => none
theorem on_lt32 {N : Nat} (h : N ≤ 20000) : (Int32.ofNat N).toInt = (N : Int) := Int32.toInt_ofNat_of_lt (by omega)
theorem z_hist (n : Nat) : Sd ws h0 (m_X11_placeSign (n + 0) 0 0) K 8 x_hist := by
  intro g a out e lv st h G kx
  unfold x_hist at e
  split at e
  · rename_i r s gh q0 q2
    cases z : ile 0 r.1 with
    | false => rw [z] at e; cases e
    | true =>
      rw [z] at e
      have e := (Option.some.inj e).symm
      subst e
      have z := ile_iff.mp z
      obtain ⟨j0, v0, hj0, ev0⟩ := lm_lk G.1 q0
      have ev0 : v0 = .ref 0 := ev0
      subst ev0
      obtain ⟨j2, v2, hj2, x, ex, hx, _⟩ := lm_lk G.1 q2
      subst ex
      obtain ⟨c, N, c1, c2, c3, c4⟩ := G.2.2.2.1.2.2.2.2.1
      have w := G.2.2.2.1.1
      have x0 := hx.1
      have eN := on_lt32 c3
      refine aw_iload_n (i := 2) rfl d_X11_placeSign_8 j2 hj2 ?_
      refine aw_aload_n (i := 0) rfl d_X11_placeSign_9 j0 hj0 ?_
      refine aw_getr (k0 := 15) kc_11 (ws_0 w) (Nat.le_of_ble_eq_true rfl) tw_502 d_X11_placeSign_10 rfl c1 ?_
      refine aw_alen (v := Int32.ofNat N) c2 (Nat.le_of_ble_eq_true rfl) rfl d_X11_placeSign_13 ?_
      refine aw_icmp_ge (tgt := 26) d_X11_placeSign_14 rfl (fun _ => ?_) (fun d => ?_)
      · exact kx _ (List.mem_cons_of_mem _ List.mem_cons_self) _ _ _ G
      · have d := q_nle d
        refine aw_aload_n (i := 0) rfl d_X11_placeSign_17 j0 hj0 ?_
        refine aw_getr (k0 := 15) kc_11 (ws_0 w) (Nat.le_of_ble_eq_true rfl) tw_502 d_X11_placeSign_18 rfl c1 ?_
        refine aw_iload_n (i := 2) rfl d_X11_placeSign_21 j2 hj2 ?_
        refine aw_lald c2 ?_ d_X11_placeSign_22 ?_
        · have b : (x.toNatClampNeg : Int) = x.toInt := by
            show ((x.toInt.toNat : Nat) : Int) = _
            omega
          have a0 : (0 : Int32).toInt = 0 := rfl
          rintro (y | y)
          · have y := q_lt.mp y
            omega
          · omega
        · refine aw_goto (tgt := 30) d_X11_placeSign_23 rfl ?_
          exact kx _ List.mem_cons_self _ _ _ (G.push (av := .inr 0) ⟨_, rfl⟩ trivial)
  · cases e
theorem put_has (i : Nat) (v : Value) : ∀ lv : List (Nat × Value), (i, v) ∈ lv_put i v lv
  | [] => List.mem_cons_self
  | q :: t => by
    unfold lv_put
    by_cases c : q.1 = i
    · rw [if_pos c]; exact List.mem_cons_self
    · rw [if_neg c]
      by_cases d : i < q.1
      · rw [if_pos d]; exact List.mem_cons_self
      · rw [if_neg d]; exact List.mem_cons_of_mem _ (put_has i v t)
/-- a good: how many there are, in place 3, when there is room -/
def x_many (k : Nat) : Fx := fun a => match lk 0 a.1, a.2.1 with
  | some (.inr 29), [] => some [(24, la_put 3 (avi (0, 7)) (a.1.filter (fun p => ff 3 1 p.1 (ac p.2))), [], (((19, k), (0, 7)) :: (kef 3 a.2.2).1, (kef 3 a.2.2).2)), (22, la_put 3 (avi (8, 8)) (a.1.filter (fun p => ff 3 1 p.1 (ac p.2))), [], kef 3 a.2.2)]
  | _, _ => none
theorem many_on {n : Nat} {g : Nat → Int} {a : Ab} {out : List (Nat × Ab)} {k : Nat} (hk : k = 2 ∨ k = 3) (e : x_many k a = some out) {lv : List (Nat × Value)} {st : List Value} {h : Hp_} (G : Gm g ws h0 a lv st h)
    (kx : ∀ o ∈ out, ∀ lv' st' h', Gm g ws h0 o.2 lv' st' h' → AW (m_X3_add (n + 0) 0 0) 0 0 o.1 lv' st' h' K) : AW (m_X3_add (n + 0) 0 0) 0 0 15 lv (.int (h_i h 19 k) :: st) h K := by
  obtain ⟨la, sa, hf⟩ := a
  unfold x_many at e
  split at e
  · rename_i q0 q1
    have q1 : sa = [] := q1
    subst q1
    have e := (Option.some.inj e).symm
    subst e
    cases st with
    | cons _ _ => exact G.2.1.elim
    | nil =>
      have I := G.2.2.2.1
      have hv : rin (h_i h 19 k).toInt (0, 8) := by
        have := I.2.1 19 k
        rcases hk with z | z <;> subst z
        · have e : tf 19 2 = (0, 8) := by decide +kernel
          rw [e] at this; exact this
        · have e : tf 19 3 = (0, 8) := by decide +kernel
          rw [e] at this; exact this
      have v1 : 0 ≤ (h_i h 19 k).toInt := hv.1
      have v2 : (h_i h 19 k).toInt ≤ 8 := hv.2
      have t8 : (8 : Int32).toInt = 8 := rfl
      refine aw_fil (fun q => ff 3 1 q.1 q.2.category) ?_
      refine aw_istore_n (i := 3) rfl _ d_X3_add_15 (Nat.le_of_ble_eq_true rfl) (by rw [rise_fil G.2.2.2.2.2, fit_fil]; rfl) rfl ?_
      have P := fun av (b : bm g h (.int (h_i h 19 k)) av) => Gm.put (i := 3) (w := 1) (av := av) G b
      have mem : (3, Value.int (h_i h 19 k)) ∈ lv_put 3 (.int (h_i h 19 k)) (lv.filter (fun q => ff 3 1 q.1 q.2.category)) := put_has _ _ _
      obtain ⟨j, hj⟩ := List.getElem?_of_mem mem
      refine aw_iload_n (i := 3) rfl d_X3_add_16 j hj ?_
      refine aw_bipush d_X3_add_17 ib_8 ?_
      refine aw_icmp_lt (tgt := 24) d_X3_add_19 rfl (fun c => ?_) (fun c => ?_)
      · have c := q_lt.mp c
        have G' := P (avi (0, 7)) (bm_i ⟨v1, by show _ ≤ (7 : Int); omega⟩ _)
        refine kx _ List.mem_cons_self _ _ _ ⟨G'.1, G'.2.1, ⟨fun q hq => ?_, G'.2.2.1.2⟩, G'.2.2.2⟩
        rcases List.mem_cons.mp hq with y | y
        · rw [y]; exact ⟨v1, by show (h_i h 19 k).toInt ≤ 7; omega⟩
        · exact G'.2.2.1.1 q y
      · have c := q_nlt c
        exact kx _ (List.mem_cons_of_mem _ List.mem_cons_self) _ _ _ (P (avi (8, 8)) (bm_i ⟨by show (8 : Int) ≤ _; omega, by show _ ≤ (8 : Int); omega⟩ _))
  · cases e
theorem z_many4 (n : Nat) : Sd ws h0 (m_X3_add (n + 0) 0 0) K 4 (x_many 2) := by
  intro g a out e lv st h G kx
  have e' := e
  unfold x_many at e'
  split at e'
  · rename_i q0 q1
    obtain ⟨j0, v0, hj0, ev0⟩ := lm_lk G.1 q0
    have ev0 : v0 = .ref 19 := ev0
    subst ev0
    refine aw_aload_n (i := 0) rfl d_X3_add_4 j0 hj0 ?_
    refine aw_geti (k0 := 2) kc_3 (ws_19 G.2.2.2.1.1) (Nat.le_of_ble_eq_true rfl) tw_323 d_X3_add_5 rfl ?_
    refine aw_goto (tgt := 15) d_X3_add_8 rfl ?_
    exact many_on (Or.inl rfl) e G kx
  · cases e'
theorem z_many11 (n : Nat) : Sd ws h0 (m_X3_add (n + 0) 0 0) K 11 (x_many 3) := by
  intro g a out e lv st h G kx
  have e' := e
  unfold x_many at e'
  split at e'
  · rename_i q0 q1
    obtain ⟨j0, v0, hj0, ev0⟩ := lm_lk G.1 q0
    have ev0 : v0 = .ref 19 := ev0
    subst ev0
    refine aw_aload_n (i := 0) rfl d_X3_add_11 j0 hj0 ?_
    refine aw_geti (k0 := 3) kc_3 (ws_19 G.2.2.2.1.1) (Nat.le_of_ble_eq_true rfl) tw_325 d_X3_add_12 rfl ?_
    exact many_on (Or.inr rfl) e G kx
  · cases e'
end HANDS
