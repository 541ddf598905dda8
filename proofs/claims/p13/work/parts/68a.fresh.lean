/-! the fresh heap keeps the account -/
theorem tb_0 : tbl.all (fun q => rsub (0, 0) q.2.1 && q.2.2.all (fun p => rsub (0, 0) p.2)) = true := by decide +kernel
theorem tf_0 (a k : Nat) : rin (0 : Int32).toInt (tf a k) := by
  have z : (0 : Int32).toInt = 0 := rfl
  have z0 : rin (0 : Int32).toInt (0, 0) := by rw [z]; exact ⟨Int.le_refl _, Int.le_refl _⟩
  unfold tf
  cases e : lk (cn a) tbl with
  | none => exact rtop_in _
  | some q =>
    obtain ⟨d, l⟩ := q
    have t := List.all_eq_true.mp tb_0 _ (lk_mem e)
    rw [Bool.and_eq_true] at t
    show rin _ ((lk k l).getD d)
    cases f : lk k l with
    | none => exact rsub_in t.1 z0
    | some r => exact rsub_in (List.all_eq_true.mp t.2 _ (lk_mem f)) z0
def gz3 (a : Nat) : Bool := Nat.beq a 228 || Nat.beq a 229 || Nat.beq a 232
def Gd (h : Hp_) : Prop := (∀ a k, rin (h_i h a k).toInt (tf a k)) ∧ (∀ k, h_r h 15 k = none) ∧ ∀ a, gz3 a = true → ∀ k, h_i h a k = 0
theorem Gd.nw {h : Hp_} {a t n : Nat} (g : Gd h) : Gd (h_nw h a t n) := by
  refine ⟨fun b k => ?_, fun k => ?_, fun b hb k => ?_⟩
  · rw [y_i]
    split
    · exact tf_0 _ _
    · exact g.1 b k
  · rw [y_r]
    split
    · rfl
    · exact g.2.1 k
  · rw [y_i]
    split
    · rfl
    · exact g.2.2 b hb k
theorem Gd.rm {h : Hp_} {a k : Nat} {x : Option Nat} (g : Gd h) (n : Nat.beq a 15 = false) : Gd (h_rm h a k x) := by
  refine ⟨g.1, fun j => ?_, g.2.2⟩
  rw [h_r_rm, if_neg (fun z => by rw [← z.1, Nat.beq_refl] at n; cases n)]
  exact g.2.1 j
theorem Gd.im {h : Hp_} {a k : Nat} {x : Int32} (g : Gd h) (c : rsub (x.toInt, x.toInt) (tf a k) = true) (n : gz3 a = false) : Gd (h_im h a k x) := by
  refine ⟨fun b j => ?_, g.2.1, fun b hb j => ?_⟩
  · rw [h_i_im]
    split
    · rename_i e
      rw [e.1, e.2]; exact rsub_in c ⟨Int.le_refl _, Int.le_refl _⟩
    · exact g.1 b j
  · rw [h_i_im, if_neg (fun z => by rw [z.1, n] at hb; cases hb)]
    exact g.2.2 b hb j
theorem Gd.iw {h : Hp_} {a : Nat} {f : Nat → Int32} (g : Gd h) (c : tfa a = some rtop) (n : gz3 a = false) : Gd (h_iw h a f) := by
  refine ⟨fun b j => ?_, g.2.1, fun b hb j => ?_⟩
  · rw [h_i_iw]
    split
    · rename_i e
      rw [e, tfa_tf c]; exact rtop_in _
    · exact g.1 b j
  · rw [h_i_iw, if_neg (fun z => by rw [z, n] at hb; cases hb)]
    exact g.2.2 b hb j
theorem gd_E : Gd hE := ⟨fun _ _ => tf_0 _ _, fun _ => rfl, fun _ _ _ => rfl⟩
theorem gd_CH_10 {h : Hp_} (g : Gd h) : Gd (CH_10 h) := by
  unfold CH_10
  refine Gd.iw ?_ (by decide +kernel) rfl
  refine Gd.rm ?_ rfl
  refine Gd.nw ?_
  exact g
theorem gd_CH_11 {h : Hp_} (g : Gd h) : Gd (CH_11 h) := by
  unfold CH_11
  refine Gd.rm ?_ rfl
  refine Gd.nw ?_
  refine Gd.rm ?_ rfl
  refine Gd.nw ?_
  refine Gd.rm ?_ rfl
  refine Gd.rm ?_ rfl
  refine Gd.nw ?_
  exact g
theorem gd_CH_12 {h : Hp_} (g : Gd h) : Gd (CH_12 h) := by
  unfold CH_12
  refine Gd.rm ?_ rfl
  refine Gd.nw ?_
  refine Gd.rm ?_ rfl
  refine Gd.nw ?_
  refine Gd.rm ?_ rfl
  refine Gd.nw ?_
  exact g
theorem gd_CH_13 {h : Hp_} (g : Gd h) : Gd (CH_13 h) := by
  unfold CH_13
  refine Gd.rm ?_ rfl
  refine Gd.nw ?_
  refine Gd.rm ?_ rfl
  refine Gd.nw ?_
  refine Gd.rm ?_ rfl
  refine Gd.nw ?_
  refine Gd.rm ?_ rfl
  refine Gd.nw ?_
  refine Gd.rm ?_ rfl
  refine Gd.nw ?_
  exact g
theorem gd_CH_14 {h : Hp_} (g : Gd h) : Gd (CH_14 h) := by
  unfold CH_14
  refine Gd.rm ?_ rfl
  refine Gd.nw ?_
  refine Gd.rm ?_ rfl
  refine Gd.nw ?_
  refine Gd.rm ?_ rfl
  refine Gd.nw ?_
  refine Gd.rm ?_ rfl
  refine Gd.nw ?_
  refine Gd.rm ?_ rfl
  refine Gd.nw ?_
  exact g
theorem gd_CH_16 {h : Hp_} (g : Gd h) : Gd (CH_16 h) := by
  unfold CH_16
  refine Gd.rm ?_ rfl
  refine Gd.nw ?_
  refine Gd.rm ?_ rfl
  refine Gd.nw ?_
  refine Gd.rm ?_ rfl
  refine Gd.nw ?_
  refine Gd.rm ?_ rfl
  refine Gd.nw ?_
  refine Gd.rm ?_ rfl
  refine Gd.nw ?_
  refine Gd.rm ?_ rfl
  refine Gd.nw ?_
  refine Gd.rm ?_ rfl
  refine Gd.nw ?_
  refine Gd.rm ?_ rfl
  refine Gd.nw ?_
  refine Gd.rm ?_ rfl
  refine Gd.nw ?_
  refine Gd.rm ?_ rfl
  refine Gd.nw ?_
  exact g
theorem gd_CH_17 {h : Hp_} (g : Gd h) : Gd (CH_17 h) := by
  unfold CH_17
  refine Gd.rm ?_ rfl
  refine Gd.nw ?_
  refine Gd.rm ?_ rfl
  refine Gd.nw ?_
  refine Gd.rm ?_ rfl
  refine Gd.nw ?_
  refine Gd.rm ?_ rfl
  refine Gd.nw ?_
  refine Gd.rm ?_ rfl
  refine Gd.nw ?_
  refine Gd.rm ?_ rfl
  refine Gd.nw ?_
  refine Gd.rm ?_ rfl
  refine Gd.nw ?_
  refine Gd.rm ?_ rfl
  refine Gd.nw ?_
  refine Gd.rm ?_ rfl
  refine Gd.nw ?_
  refine Gd.rm ?_ rfl
  refine Gd.nw ?_
  refine Gd.rm ?_ rfl
  refine Gd.nw ?_
  refine Gd.rm ?_ rfl
  refine Gd.nw ?_
  refine Gd.rm ?_ rfl
  refine Gd.nw ?_
  refine Gd.rm ?_ rfl
  refine Gd.nw ?_
  exact g
theorem gd_CH_18 {h : Hp_} (g : Gd h) : Gd (CH_18 h) := by
  unfold CH_18
  refine Gd.iw ?_ (by decide +kernel) rfl
  refine Gd.iw ?_ (by decide +kernel) rfl
  refine Gd.rm ?_ rfl
  refine Gd.nw ?_
  refine Gd.rm ?_ rfl
  refine Gd.nw ?_
  refine Gd.rm ?_ rfl
  refine Gd.nw ?_
  refine Gd.rm ?_ rfl
  refine Gd.nw ?_
  refine Gd.rm ?_ rfl
  refine Gd.nw ?_
  refine Gd.rm ?_ rfl
  refine Gd.nw ?_
  refine Gd.rm ?_ rfl
  refine Gd.nw ?_
  refine Gd.rm ?_ rfl
  refine Gd.nw ?_
  refine Gd.rm ?_ rfl
  refine Gd.nw ?_
  refine Gd.rm ?_ rfl
  refine Gd.nw ?_
  refine Gd.rm ?_ rfl
  refine Gd.nw ?_
  refine Gd.rm ?_ rfl
  refine Gd.nw ?_
  refine Gd.rm ?_ rfl
  refine Gd.nw ?_
  refine Gd.rm ?_ rfl
  refine Gd.nw ?_
  exact g
theorem gd_CH_19 {h : Hp_} (g : Gd h) : Gd (CH_19 h) := by
  unfold CH_19
  refine Gd.rm ?_ rfl
  refine Gd.nw ?_
  refine Gd.rm ?_ rfl
  refine Gd.nw ?_
  refine Gd.rm ?_ rfl
  refine Gd.nw ?_
  refine Gd.rm ?_ rfl
  refine Gd.nw ?_
  refine Gd.rm ?_ rfl
  refine Gd.nw ?_
  refine Gd.im ?_ (by decide +kernel) rfl
  refine Gd.im ?_ (by decide +kernel) rfl
  refine Gd.rm ?_ rfl
  refine Gd.nw ?_
  refine Gd.rm ?_ rfl
  refine Gd.nw ?_
  exact g
theorem gd_CH_20 {h : Hp_} (g : Gd h) : Gd (CH_20 h) := by
  unfold CH_20
  refine Gd.rm ?_ rfl
  refine Gd.nw ?_
  refine Gd.rm ?_ rfl
  refine Gd.nw ?_
  refine Gd.rm ?_ rfl
  refine Gd.nw ?_
  refine Gd.rm ?_ rfl
  refine Gd.nw ?_
  refine Gd.rm ?_ rfl
  refine Gd.nw ?_
  refine Gd.rm ?_ rfl
  refine Gd.nw ?_
  refine Gd.rm ?_ rfl
  refine Gd.nw ?_
  refine Gd.rm ?_ rfl
  refine Gd.nw ?_
  refine Gd.rm ?_ rfl
  refine Gd.nw ?_
  refine Gd.rm ?_ rfl
  refine Gd.nw ?_
  refine Gd.rm ?_ rfl
  refine Gd.nw ?_
  refine Gd.rm ?_ rfl
  refine Gd.nw ?_
  exact g
theorem gd_CH_21 {h : Hp_} (g : Gd h) : Gd (CH_21 h) := by
  unfold CH_21
  refine Gd.iw ?_ (by decide +kernel) rfl
  refine Gd.im ?_ (by decide +kernel) rfl
  refine Gd.rm ?_ rfl
  refine Gd.nw ?_
  refine Gd.rm ?_ rfl
  refine Gd.nw ?_
  refine Gd.rm ?_ rfl
  refine Gd.nw ?_
  refine Gd.rm ?_ rfl
  refine Gd.nw ?_
  refine Gd.rm ?_ rfl
  refine Gd.nw ?_
  refine Gd.rm ?_ rfl
  refine Gd.nw ?_
  refine Gd.rm ?_ rfl
  refine Gd.nw ?_
  refine Gd.rm ?_ rfl
  refine Gd.nw ?_
  refine Gd.rm ?_ rfl
  refine Gd.nw ?_
  refine Gd.rm ?_ rfl
  refine Gd.nw ?_
  refine Gd.rm ?_ rfl
  refine Gd.nw ?_
  refine Gd.rm ?_ rfl
  refine Gd.nw ?_
  exact g
theorem gd_CC_0 {h : Hp_} (g : Gd h) : Gd (CC_0 h) := by
  unfold CC_0
  refine Gd.rm ?_ rfl
  refine Gd.nw ?_
  refine Gd.rm ?_ rfl
  refine Gd.nw ?_
  refine Gd.rm ?_ rfl
  refine Gd.nw ?_
  refine Gd.rm ?_ rfl
  refine Gd.nw ?_
  refine Gd.rm ?_ rfl
  refine Gd.nw ?_
  refine Gd.rm ?_ rfl
  refine Gd.nw ?_
  refine Gd.rm ?_ rfl
  refine Gd.nw ?_
  refine Gd.rm ?_ rfl
  refine Gd.nw ?_
  refine Gd.rm ?_ rfl
  refine Gd.nw ?_
  refine Gd.rm ?_ rfl
  refine Gd.nw ?_
  refine Gd.rm ?_ rfl
  refine Gd.nw ?_
  refine Gd.rm ?_ rfl
  refine Gd.nw ?_
  refine Gd.rm ?_ rfl
  refine Gd.nw ?_
  refine Gd.rm ?_ rfl
  refine Gd.nw ?_
  refine Gd.rm ?_ rfl
  refine Gd.nw ?_
  exact g
theorem gd_CC_1 {h : Hp_} (g : Gd h) : Gd (CC_1 h) := by
  unfold CC_1
  refine Gd.rm ?_ rfl
  refine Gd.nw ?_
  refine Gd.rm ?_ rfl
  refine Gd.nw ?_
  refine Gd.rm ?_ rfl
  refine Gd.nw ?_
  refine Gd.rm ?_ rfl
  refine Gd.nw ?_
  refine Gd.rm ?_ rfl
  refine Gd.nw ?_
  refine Gd.rm ?_ rfl
  refine Gd.nw ?_
  refine Gd.rm ?_ rfl
  refine Gd.nw ?_
  refine Gd.rm ?_ rfl
  refine Gd.nw ?_
  refine Gd.rm ?_ rfl
  refine Gd.nw ?_
  refine Gd.rm ?_ rfl
  refine Gd.nw ?_
  refine Gd.rm ?_ rfl
  refine Gd.nw ?_
  refine Gd.rm ?_ rfl
  refine Gd.nw ?_
  refine Gd.rm ?_ rfl
  refine Gd.nw ?_
  refine Gd.rm ?_ rfl
  refine Gd.nw ?_
  refine Gd.rm ?_ rfl
  refine Gd.nw ?_
  exact g
theorem gd_CC_2 {h : Hp_} (g : Gd h) : Gd (CC_2 h) := by
  unfold CC_2
  refine Gd.rm ?_ rfl
  refine Gd.nw ?_
  refine Gd.rm ?_ rfl
  refine Gd.nw ?_
  refine Gd.rm ?_ rfl
  refine Gd.nw ?_
  refine Gd.rm ?_ rfl
  refine Gd.nw ?_
  refine Gd.rm ?_ rfl
  refine Gd.nw ?_
  refine Gd.rm ?_ rfl
  refine Gd.nw ?_
  refine Gd.rm ?_ rfl
  refine Gd.nw ?_
  refine Gd.rm ?_ rfl
  refine Gd.nw ?_
  refine Gd.rm ?_ rfl
  refine Gd.nw ?_
  refine Gd.rm ?_ rfl
  refine Gd.nw ?_
  refine Gd.rm ?_ rfl
  refine Gd.nw ?_
  refine Gd.rm ?_ rfl
  refine Gd.nw ?_
  refine Gd.rm ?_ rfl
  refine Gd.nw ?_
  refine Gd.rm ?_ rfl
  refine Gd.nw ?_
  refine Gd.rm ?_ rfl
  refine Gd.nw ?_
  exact g
theorem gd_CC_3 {h : Hp_} (g : Gd h) : Gd (CC_3 h) := by
  unfold CC_3
  refine Gd.rm ?_ rfl
  refine Gd.nw ?_
  refine Gd.rm ?_ rfl
  refine Gd.nw ?_
  refine Gd.rm ?_ rfl
  refine Gd.nw ?_
  refine Gd.rm ?_ rfl
  refine Gd.nw ?_
  refine Gd.rm ?_ rfl
  refine Gd.nw ?_
  refine Gd.rm ?_ rfl
  refine Gd.nw ?_
  refine Gd.rm ?_ rfl
  refine Gd.nw ?_
  refine Gd.rm ?_ rfl
  refine Gd.nw ?_
  refine Gd.rm ?_ rfl
  refine Gd.nw ?_
  refine Gd.rm ?_ rfl
  refine Gd.nw ?_
  refine Gd.rm ?_ rfl
  refine Gd.nw ?_
  refine Gd.rm ?_ rfl
  refine Gd.nw ?_
  refine Gd.rm ?_ rfl
  refine Gd.nw ?_
  refine Gd.rm ?_ rfl
  refine Gd.nw ?_
  refine Gd.rm ?_ rfl
  refine Gd.nw ?_
  exact g
theorem gd_CC_4 {h : Hp_} (g : Gd h) : Gd (CC_4 h) := by
  unfold CC_4
  refine Gd.rm ?_ rfl
  refine Gd.nw ?_
  refine Gd.rm ?_ rfl
  refine Gd.nw ?_
  refine Gd.rm ?_ rfl
  refine Gd.nw ?_
  refine Gd.rm ?_ rfl
  refine Gd.nw ?_
  refine Gd.rm ?_ rfl
  refine Gd.nw ?_
  refine Gd.rm ?_ rfl
  refine Gd.nw ?_
  refine Gd.rm ?_ rfl
  refine Gd.nw ?_
  refine Gd.rm ?_ rfl
  refine Gd.nw ?_
  refine Gd.rm ?_ rfl
  refine Gd.nw ?_
  refine Gd.rm ?_ rfl
  refine Gd.nw ?_
  refine Gd.rm ?_ rfl
  refine Gd.nw ?_
  refine Gd.rm ?_ rfl
  refine Gd.nw ?_
  refine Gd.rm ?_ rfl
  refine Gd.nw ?_
  refine Gd.rm ?_ rfl
  refine Gd.nw ?_
  refine Gd.rm ?_ rfl
  refine Gd.nw ?_
  exact g
theorem gd_CC_5 {h : Hp_} (g : Gd h) : Gd (CC_5 h) := by
  unfold CC_5
  refine Gd.rm ?_ rfl
  refine Gd.nw ?_
  refine Gd.rm ?_ rfl
  refine Gd.nw ?_
  refine Gd.rm ?_ rfl
  refine Gd.nw ?_
  refine Gd.rm ?_ rfl
  refine Gd.nw ?_
  refine Gd.rm ?_ rfl
  refine Gd.nw ?_
  refine Gd.rm ?_ rfl
  refine Gd.nw ?_
  refine Gd.rm ?_ rfl
  refine Gd.nw ?_
  refine Gd.rm ?_ rfl
  refine Gd.nw ?_
  refine Gd.rm ?_ rfl
  refine Gd.nw ?_
  refine Gd.im ?_ (by decide +kernel) rfl
  refine Gd.rm ?_ rfl
  refine Gd.nw ?_
  refine Gd.rm ?_ rfl
  refine Gd.nw ?_
  refine Gd.rm ?_ rfl
  refine Gd.nw ?_
  refine Gd.rm ?_ rfl
  refine Gd.nw ?_
  refine Gd.rm ?_ rfl
  refine Gd.nw ?_
  exact g
theorem gd_CC_6 {h : Hp_} (g : Gd h) : Gd (CC_6 h) := by
  unfold CC_6
  refine Gd.im ?_ (by decide +kernel) rfl
  refine Gd.rm ?_ rfl
  refine Gd.nw ?_
  refine Gd.rm ?_ rfl
  refine Gd.nw ?_
  refine Gd.rm ?_ rfl
  refine Gd.nw ?_
  refine Gd.rm ?_ rfl
  refine Gd.nw ?_
  refine Gd.rm ?_ rfl
  refine Gd.nw ?_
  refine Gd.rm ?_ rfl
  refine Gd.nw ?_
  refine Gd.rm ?_ rfl
  refine Gd.nw ?_
  refine Gd.rm ?_ rfl
  refine Gd.nw ?_
  refine Gd.rm ?_ rfl
  refine Gd.nw ?_
  refine Gd.rm ?_ rfl
  refine Gd.nw ?_
  refine Gd.rm ?_ rfl
  refine Gd.nw ?_
  exact g
theorem gd_CH_1 {h : Hp_} (g : Gd h) : Gd (CH_1 h) := by
  unfold CH_1
  refine Gd.im ?_ (by decide +kernel) rfl
  refine Gd.im ?_ (by decide +kernel) rfl
  refine Gd.im ?_ (by decide +kernel) rfl
  refine Gd.im ?_ (by decide +kernel) rfl
  refine Gd.im ?_ (by decide +kernel) rfl
  refine Gd.im ?_ (by decide +kernel) rfl
  refine Gd.im ?_ (by decide +kernel) rfl
  refine Gd.im ?_ (by decide +kernel) rfl
  exact gd_CC_6 (gd_CC_5 (gd_CC_4 (gd_CC_3 (gd_CC_2 (gd_CC_1 (gd_CC_0 g))))))
theorem gd_G0 : Gd G0 := Gd.nw gd_E
theorem gd_G1 : Gd G1 := Gd.nw gd_G0
theorem gd_G2 : Gd G2 := gd_CH_10 gd_G1
theorem gd_G3 : Gd G3 := Gd.rm gd_G2 rfl
theorem gd_G4 : Gd G4 := Gd.nw gd_G3
theorem gd_G5 : Gd G5 := gd_CH_11 gd_G4
theorem gd_G6 : Gd G6 := Gd.rm gd_G5 rfl
theorem gd_G7 : Gd G7 := Gd.nw gd_G6
theorem gd_G8 : Gd G8 := gd_CH_12 gd_G7
theorem gd_G9 : Gd G9 := Gd.rm gd_G8 rfl
theorem gd_G10 : Gd G10 := Gd.nw gd_G9
theorem gd_G11 : Gd G11 := gd_CH_13 gd_G10
theorem gd_G12 : Gd G12 := Gd.rm gd_G11 rfl
theorem gd_G13 : Gd G13 := Gd.nw gd_G12
theorem gd_G14 : Gd G14 := gd_CH_14 gd_G13
theorem gd_G15 : Gd G15 := Gd.rm gd_G14 rfl
theorem gd_G16 : Gd G16 := Gd.nw gd_G15
theorem gd_G17 : Gd G17 := Gd.rm gd_G16 rfl
theorem gd_G18 : Gd G18 := Gd.nw gd_G17
theorem gd_G19 : Gd G19 := gd_CH_16 gd_G18
theorem gd_G20 : Gd G20 := Gd.rm gd_G19 rfl
theorem gd_G21 : Gd G21 := Gd.nw gd_G20
theorem gd_G22 : Gd G22 := gd_CH_17 gd_G21
theorem gd_G23 : Gd G23 := Gd.rm gd_G22 rfl
theorem gd_G24 : Gd G24 := Gd.nw gd_G23
theorem gd_G25 : Gd G25 := gd_CH_18 gd_G24
theorem gd_G26 : Gd G26 := Gd.rm gd_G25 rfl
theorem gd_G27 : Gd G27 := Gd.nw gd_G26
theorem gd_G28 : Gd G28 := gd_CH_19 gd_G27
theorem gd_G29 : Gd G29 := Gd.rm gd_G28 rfl
theorem gd_G30 : Gd G30 := Gd.nw gd_G29
theorem gd_G31 : Gd G31 := gd_CH_20 gd_G30
theorem gd_G32 : Gd G32 := Gd.rm gd_G31 rfl
theorem gd_G33 : Gd G33 := Gd.nw gd_G32
theorem gd_G34 : Gd G34 := gd_CH_21 gd_G33
theorem gd_G35 : Gd G35 := Gd.rm gd_G34 rfl
theorem gd_G36 : Gd G36 := Gd.nw gd_G35
theorem gd_G37 : Gd G37 := Gd.rm gd_G36 rfl
theorem gd_F : Gd HF := Gd.nw (gd_CH_1 (Gd.nw (a := 1) (t := 22) (n := 131) gd_G37))
theorem hf_0_0 : h_i HF 0 0 = 0 := by decide +kernel
theorem hf_1_7 : h_i HF 1 7 = 0 := by decide +kernel
theorem hf_11_4 : h_r HF 11 4 = some 1000 := by decide +kernel
theorem hf_0_15 : h_r HF 0 15 = some 400 := by decide +kernel
theorem hf_400 : h_sh HF 400 = some (3, 0) := by decide +kernel
theorem hf_2 : h_sh HF 2 = some (3, 1) := by decide +kernel
theorem hf_free : (List.range 599).all (fun i => decide (h_sh HF (401 + i) = none)) = true := by decide +kernel
theorem hf_no {a : Nat} (h1 : 401 ≤ a) (h2 : a < 1000) : h_sh HF a = none := by
  have t := of_decide_eq_true (List.all_eq_true.mp hf_free (a - 401) (List.mem_range.mpr (by omega)))
  rw [show 401 + (a - 401) = a by omega] at t
  exact t
theorem iv_F : Iv HF := by
  refine ⟨wHF, gd_F.1, fun k => Or.inl (gd_F.2.1 k), ⟨0, by decide, hf_11_4⟩, ⟨400, 0, hf_0_15, hf_400, by decide, by rw [hf_0_0]; decide⟩, fun k _ => ?_, fun j hj _ => hf_no (by omega) (by omega), fun c N _ _ => ⟨0, by decide, Or.inl rfl, fun a h1 h2 => hf_no (by omega) h2⟩, fun t ht => ⟨0, ?_⟩⟩
  · rw [gd_F.2.2 229 rfl]; exact ⟨by decide, by decide⟩
  · show 560 * t = 560 * t + (h_i HF 232 t).toNatClampNeg
    rw [gd_F.2.2 232 rfl]; simp
theorem j2_F : J2 HF := fun c hc hm => by
  rw [hf_1_7] at hm
  have z : (0 : Int32).toInt = 0 := rfl
  omega
/-- what the law's loop keeps: the account, the men's account, the law's row, the history's length -/
def Li0 (N : Nat) (h : Hp_) : Prop := Iv h ∧ J2 h ∧ h_sh h 2 = some (3, 1) ∧ ∃ c, h_r h 0 15 = some c ∧ h_sh h c = some (3, N)
theorem li0_F : Li0 0 HF := ⟨iv_F, j2_F, hf_2, 400, hf_0_15, hf_400⟩
theorem Li0.fr {N : Nat} {ws : List Nat} {h h' : Hp_} (L : Li0 N h) (I : Iv h') (f : Fr ws h h') (o : (jso ws && !inw ws 0 15) = true) : Li0 N h' := by
  rw [Bool.and_eq_true, Bool.not_eq_true'] at o
  obtain ⟨c, a, b⟩ := L.2.2.2
  exact ⟨I, J2_s (Js.fr f o.1) L.2.1, by rw [f.1]; exact L.2.2.1, c, by rw [(f.2 0 15 o.2).2.2]; exact a, by rw [f.1]; exact b⟩
theorem Li0.sn {N : Nat} {h h' : Hp_} (L : Li0 N h) (I : Iv h') (J : J2 h') (s : Sn h h') : Li0 N h' := by
  obtain ⟨c, a, b⟩ := L.2.2.2
  exact ⟨I, J, by rw [s.1]; exact L.2.2.1, c, by rw [(s.2 0 15 (by decide +kernel)).2.2]; exact a, by rw [s.1]; exact b⟩
theorem Li0.st {N : Nat} {h h' : Hp_} (L : Li0 N h) (I : Iv h') (J : J2 h') (s : Fr wsT h h') : Li0 N h' := by
  obtain ⟨c, a, b⟩ := L.2.2.2
  exact ⟨I, J, by rw [s.1]; exact L.2.2.1, c, by rw [(s.2 0 15 (by decide +kernel)).2.2]; exact a, by rw [s.1]; exact b⟩
theorem Li0.tick {N N' : Nat} {h h' : Hp_} {x r : Int32} (L : Li0 N h) (k : Iv h' ∧ Mf wsX h h' ∧ (∃ c', h_r h' 0 15 = some c' ∧ h_sh h' c' = some (3, N')) ∧ otk (h_i h 0 0) x r (h_i h' 0 0)) : Li0 N' h' := ⟨k.1, J2_s k.2.1.js L.2.1, by rw [k.2.1.2.2.1]; exact L.2.2.1, k.2.2.1⟩
theorem Li0.con {N : Nat} {h h' : Hp_} (L : Li0 N h) (x : Cx h h') : Li0 N h' := by
  obtain ⟨c, a, b⟩ := L.2.2.2
  exact ⟨x.1, J2_s x.2.1.js L.2.1, by rw [x.2.1.2.2.1]; exact L.2.2.1, c, by rw [x.2.2.1]; exact a, x.2.2.2 c N a b⟩
/-! the numbers that class and reference keep alike -/
def Rlf (rl : List ((Nat × Nat) × Nat)) (h : Hp_) : Prop := ∀ q ∈ rl, h_i h q.1.1 q.1.2 = h_i h 1 q.2
theorem Rlf.fr {rl : List ((Nat × Nat) × Nat)} {ws : List Nat} {h h' : Hp_} (R : Rlf rl h) (f : Fr ws h h') (o : rl.all (fun q => !inw ws q.1.1 q.1.2 && !inw ws 1 q.2) = true) : Rlf rl h' := fun q hq => by
  have z := List.all_eq_true.mp o q hq
  rw [Bool.and_eq_true, Bool.not_eq_true', Bool.not_eq_true'] at z
  rw [(f.2 _ _ z.1).1, (f.2 _ _ z.2).1]
  exact R q hq
theorem Rlf.mf {rl : List ((Nat × Nat) × Nat)} {W : List Nat} {h h' : Hp_} (R : Rlf rl h) (f : Mf W h h') (o : rl.all (fun q => Nat.ble q.1.1 199 && !inw W q.1.1 q.1.2) = true) : Rlf rl h' := fun q hq => by
  have z := List.all_eq_true.mp o q hq
  rw [Bool.and_eq_true, Bool.not_eq_true', Nat.ble_eq] at z
  rw [(f.2.2.2 _ _ (Or.inl (by omega)) z.2).1, f.1 q.2]
  exact R q hq
