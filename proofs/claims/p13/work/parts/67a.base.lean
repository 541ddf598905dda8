/-! p1: words for the walks on a fresh object -/
section PB
variable {M : Mc_} {kc ks pc : Nat} {lv : List (Nat × Value)} {st : List Value} {h : Hp_} {K : Option Value → Hp_ → Prop}
end PB
theorem Wf_rm {h : Hp_} {a k : Nat} {x : Option Nat} (w : Wf h) (hf : rfL.all (fun q => !(q.1 == a && q.2.1 == k)) = true) : Wf (h_rm h a k x) := by
  refine ⟨w.1, fun q hq => ?_⟩
  rw [h_r_rm, if_neg]
  · exact w.2 q hq
  · intro z
    have h1 := List.all_eq_true.mp hf q hq
    rw [z.1, z.2] at h1
    simp at h1
theorem i32_lt {x y : Int32} (h : x < y) : x.toInt < y.toInt := Int32.lt_iff_toInt_lt.mp h
theorem i32_le {x y : Int32} (h : x ≤ y) : x.toInt ≤ y.toInt := Int32.le_iff_toInt_le.mp h
theorem i32_nlt {x y : Int32} (h : ¬ x < y) : y.toInt ≤ x.toInt := Int32.le_iff_toInt_le.mp (Int32.not_lt.mp h)
theorem i32_nle {x y : Int32} (h : ¬ x ≤ y) : y.toInt < x.toInt := Int32.lt_iff_toInt_lt.mp (Int32.not_le.mp h)
theorem i32_ne {x y : Int32} (h : ¬ x = y) : x.toInt ≠ y.toInt := fun z => h (Int32.toInt_inj.mp z)
theorem vin_of {x lo hi : Int32} {n : Nat} (h : lo ≤ x ∧ x ≤ hi) (h0 : (0 : Int) ≤ lo.toInt) (h1 : hi.toInt < (n : Int)) : vp_in x n := by
  unfold vp_in
  have a1 := i32_le h.1
  have a2 := i32_le h.2
  rintro (z | z)
  · have := i32_lt z
    rw [show (0 : Int32).toInt = 0 from by decide] at this
    omega
  · unfold Int32.toNatClampNeg at z
    omega
theorem vin_lt {x : Int32} {n : Nat} (h : vp_in x n) : x.toNatClampNeg < n := by
  unfold vp_in at h
  omega
theorem rr1 {y' y : MethodName} {cc' cc : ByteArray} {nL' nL : Nat} {ret' ret : Option FieldType} {d h' H mc ms mc' ms' kc ks : Nat} (h1 : h' + 1 ≤ H) (h2 : nL' ≤ 81) (h3 : kc + mc' ≤ mc) (h4 : ks + ms' ≤ ms) : rr_ (fun _ _ _ => True, y', cc', nL', ret', { frames := d + h', cells := mc', slots := ms', locals := 100 * (d + h') }) (fun _ _ _ => True, y, cc, nL, ret, { frames := d + H, cells := mc, slots := ms, locals := 100 * (d + H) }) kc ks :=
  ⟨⟨(show d + h' + 1 ≤ d + H by omega), (show 8 + (nL' + 11) + 100 * (d + h') ≤ 100 * (d + H) by omega)⟩, h3, h4⟩
/-- the first i places of a row are told anew -/
def fl_ (f g : Nat → Int32) (i : Nat) : Nat → Int32 := fun k => if k < i then f k else g k
theorem fl_0 (f g : Nat → Int32) : fl_ f g 0 = g := by funext k; unfold fl_; rw [if_neg (by omega)]
theorem iw_id (h : Hp_) (a : Nat) : h_iw h a (h_i h a) = h := by
  unfold h_iw
  have e : va_up h.2.1 a (h_i h a) = h.2.1 := by
    funext b
    by_cases z : b = a
    · subst z; rw [va_up_at]; rfl
    · rw [va_up_off _ _ z]
  rw [e]
theorem iw_0 (h : Hp_) (a : Nat) (f : Nat → Int32) : h_iw h a (fl_ f (h_i h a) 0) = h := by rw [fl_0, iw_id]
theorem iw_iw (h : Hp_) (a : Nat) (f g : Nat → Int32) : h_iw (h_iw h a f) a g = h_iw h a g := by
  unfold h_iw
  have e : va_up (va_up h.2.1 a f) a g = va_up h.2.1 a g := by
    funext b
    by_cases z : b = a
    · subst z; rw [va_up_at, va_up_at]
    · rw [va_up_off _ _ z, va_up_off _ _ z, va_up_off _ _ z]
  rw [e]
theorem iw_st (h : Hp_) (a i : Nat) (f g : Nat → Int32) : h_im (h_iw h a (fl_ f g i)) a i (f i) = h_iw h a (fl_ f g (i + 1)) := by
  rw [h_im_iw, iw_iw]
  congr 1
  funext k
  rw [h_i_iw, if_pos rfl]
  show (if k = i then f i else fl_ f g i k) = fl_ f g (i + 1) k
  unfold fl_
  by_cases z : k = i
  · subst z; rw [if_pos rfl, if_pos (by omega)]
  · rw [if_neg z]
    by_cases y : k < i
    · rw [if_pos y, if_pos (by omega)]
    · rw [if_neg y, if_neg (by omega)]
/-- a counter of a loop, as an int -/
theorem on_nat {i : Nat} (h : i < 2147483648) : (Int32.ofNat i).toNatClampNeg = i := by
  unfold Int32.toNatClampNeg
  rw [Int32.toInt_ofNat_of_lt h]
  omega
theorem on_int {i : Nat} (h : i < 2147483648) : (Int32.ofNat i).toInt = (i : Int) := Int32.toInt_ofNat_of_lt h
theorem on_suc (i : Nat) : Int32.ofNat i + 1 = Int32.ofNat (i + 1) := (Int32.ofNat_add i 1).symm
theorem on_inp {i n : Nat} (h : i < n) (hn : n < 2147483648) : vp_in (Int32.ofNat i) n := by
  unfold vp_in
  rintro (z | z)
  · have z1 := i32_lt z
    rw [on_int (by omega), show (0 : Int32).toInt = 0 from by decide] at z1
    omega
  · rw [on_nat (by omega)] at z
    omega
theorem on_le {i j : Nat} (hi : i < 2147483648) (hj : j < 2147483648) : Int32.ofNat i ≤ Int32.ofNat j ↔ i ≤ j := by
  rw [Int32.le_iff_toInt_le, on_int hi, on_int hj]
  omega
theorem on_lt {i j : Nat} (hi : i < 2147483648) (hj : j < 2147483648) : Int32.ofNat i < Int32.ofNat j ↔ i < j := by
  rw [Int32.lt_iff_toInt_lt, on_int hi, on_int hj]
  omega
theorem nn_step {h : Hp_} {k hi t n c s : Nat} {r : Option Nat} (hn : ∀ a, k ≤ a → a < hi → h_sh h a = none) : ∀ a, k + 1 ≤ a → a < hi → h_sh (h_rm (h_nw h k t n) c s r) a = none := fun a h1 h2 => by
  rw [h_sh_rm, h_sh_nw, if_neg (by omega)]
  exact hn a (by omega) h2
theorem ss_step {h : Hp_} {k t n c c' s : Nat} {r : Option Nat} {x : Option (Nat × Nat)} (hs : h_sh h c = x) (hk : c ≠ k) : h_sh (h_rm (h_nw h k t n) c' s r) c = x := by
  rw [h_sh_rm, h_sh_nw, if_neg hk]
  exact hs
theorem s_J7_fill (d : Nat) (h : Hp_) (a n : Nat) (v : Int32) (hs : h_sh h a = some (0, n)) (hn : n < 2147483648) : Cv (m_J7_fill_53178 (d + 0) 0 0) [.ref a, .int v] h (fun h' => h' = h_iw h a (fl_ (fun _ => v) (h_i h a) n)) := by
  refine Ct.of (fun _ _ _ => trivial) rfl (Nat.le_of_ble_eq_true rfl) ?_
  show AW (m_J7_fill_53178 (d + 0) 0 0) 0 0 0 [(0, .ref a), (1, .int v)] [] h (kV _)
  refine aw_iconst (v := 0) d_J7_fill_53178_0 ic_0 ?_
  refine aw_istore_n (i := 2) rfl [(0, .ref a), (1, .int v), (2, .int 0)] d_J7_fill_53178_1 (Nat.le_of_ble_eq_true rfl) rfl rfl ?_
  refine aw_aload_n (i := 0) rfl d_J7_fill_53178_2 0 rfl ?_
  refine aw_alen (v := Int32.ofNat n) hs (Nat.le_of_ble_eq_true rfl) rfl d_J7_fill_53178_3 ?_
  refine aw_istore_n (i := 3) rfl [(0, .ref a), (1, .int v), (2, .int 0), (3, .int (Int32.ofNat n))] d_J7_fill_53178_4 (Nat.le_of_ble_eq_true rfl) rfl rfl ?_
  have key : ∀ r i : Nat, r + i = n → AW (m_J7_fill_53178 (d + 0) 0 0) 0 0 5 [(0, .ref a), (1, .int v), (2, .int (Int32.ofNat i)), (3, .int (Int32.ofNat n))] [] (h_iw h a (fl_ (fun _ => v) (h_i h a) i)) (kV (fun h' => h' = h_iw h a (fl_ (fun _ => v) (h_i h a) n))) := by
    intro r
    induction r with
    | zero =>
      intro i hi
      have e : i = n := by omega
      subst e
      refine aw_iload_n (i := 2) rfl d_J7_fill_53178_5 2 rfl ?_
      refine aw_iload_n (i := 3) rfl d_J7_fill_53178_6 3 rfl ?_
      refine aw_icmp_ge (tgt := 20) d_J7_fill_53178_7 rfl (fun _ => ?_) (fun c => absurd (Int32.le_refl _) c)
      exact aw_vret rfl d_J7_fill_53178_20 ⟨Nat.le_refl _, Nat.le_refl _⟩ ⟨rfl, rfl⟩
    | succ r ih =>
      intro i hi
      refine aw_iload_n (i := 2) rfl d_J7_fill_53178_5 2 rfl ?_
      refine aw_iload_n (i := 3) rfl d_J7_fill_53178_6 3 rfl ?_
      refine aw_icmp_ge (tgt := 20) d_J7_fill_53178_7 rfl (fun c => absurd ((on_le hn (by omega)).mp c) (by omega)) (fun _ => ?_)
      refine aw_aload_n (i := 0) rfl d_J7_fill_53178_10 0 rfl ?_
      refine aw_iload_n (i := 2) rfl d_J7_fill_53178_11 2 rfl ?_
      refine aw_iload_n (i := 1) rfl d_J7_fill_53178_12 1 rfl ?_
      refine aw_iast hs (on_inp (by omega) hn) d_J7_fill_53178_13 ?_
      refine aw_iinc (v := Int32.ofNat (i + 1)) [(0, .ref a), (1, .int v), (2, .int (Int32.ofNat (i + 1))), (3, .int (Int32.ofNat n))] d_J7_fill_53178_14 2 rfl (on_suc i) (Nat.le_of_ble_eq_true rfl) rfl rfl ?_
      refine aw_goto (tgt := 5) d_J7_fill_53178_17 rfl ?_
      rw [on_nat (by omega), iw_st h a i (fun _ => v) (h_i h a)]
      exact ih (i + 1) (by omega)
  have k := key n 0 (by omega)
  rw [iw_0] at k
  exact k
theorem vin_c {x : Int32} {n : Nat} (h : ¬ (x < 0 ∨ n ≤ x.toNatClampNeg)) : vp_in x n := h
