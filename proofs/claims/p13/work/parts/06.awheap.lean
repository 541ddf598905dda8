/-! fields and rows -/
def h_dv : Nat → Value
  | 0 => .int 0
  | 1 => .long 0
  | _ => .null
def kc_ (ci : Nat) (C : String) (T : u_T) (N : Nat) : Prop := kl_[ci]? = some (C, T, N) ∧ (∀ w ∈ u_ws C T N, w ∈ lw_g) ∧ (∀ k, k < N → parseFieldDescriptor (T k).2.2.1 = some (h_tyc ci k)) ∧ (∀ a, a < N → ∀ b, b < N → a ≠ b → (T a).2.1 ≠ (T b).2.1) ∧ ∀ k, k < N → defaultValue (h_tyc ci k) = h_dv (h_kd (h_tyc ci k))
theorem kc_0 : kc_ 0 RX0 TX0 4 := ⟨rfl, iX0, tyX0_ok, nmX0, by decide +kernel⟩
theorem kc_1 : kc_ 1 RX1 TX1 16 := ⟨rfl, iX1, tyX1_ok, nmX1, by decide +kernel⟩
theorem kc_2 : kc_ 2 RX2 TX2 17 := ⟨rfl, iX2, tyX2_ok, nmX2, by decide +kernel⟩
theorem kc_3 : kc_ 3 RX3 TX3 11 := ⟨rfl, iX3, tyX3_ok, nmX3, by decide +kernel⟩
theorem kc_4 : kc_ 4 RX4 TX4 17 := ⟨rfl, iX4, tyX4_ok, nmX4, by decide +kernel⟩
theorem kc_5 : kc_ 5 RX5 TX5 16 := ⟨rfl, iX5, tyX5_ok, nmX5, by decide +kernel⟩
theorem kc_6 : kc_ 6 RX6 TX6 20 := ⟨rfl, iX6, tyX6_ok, nmX6, by decide +kernel⟩
theorem kc_7 : kc_ 7 RX7 TX7 12 := ⟨rfl, iX7, tyX7_ok, nmX7, by decide +kernel⟩
theorem kc_8 : kc_ 8 RX8 TX8 10 := ⟨rfl, iX8, tyX8_ok, nmX8, by decide +kernel⟩
theorem kc_9 : kc_ 9 RX9 TX9 2 := ⟨rfl, iX9, tyX9_ok, nmX9, by decide +kernel⟩
theorem kc_10 : kc_ 10 RX10 TX10 6 := ⟨rfl, iX10, tyX10_ok, nmX10, by decide +kernel⟩
theorem kc_11 : kc_ 11 RX11 TX11 16 := ⟨rfl, iX11, tyX11_ok, nmX11, by decide +kernel⟩
theorem kc_12 : kc_ 12 RX12 TX12 131 := ⟨rfl, iX12, tyX12_ok, nmX12, by decide +kernel⟩
section AWH
variable {M : Mc_} {kc ks pc : Nat} {lv : List (Nat × Value)} {st : List Value} {h : Hp_} {K : Option Value → Hp_ → Prop}
theorem wd_in {dC : Nat → ClassId} {dI : Nat → Nat → Nat} {cy : Nat → ClassId} {A : Nat → Prop} {ad : Nat → Nat} {dom : List Nat} {h : Hp_} {H : Heap} {a : Nat} {x : Nat × Nat} (hW : wd_ dC dI cy A ad dom h H) (hs : h_sh h a = some x) : a ∈ dom := (hW.1.2.1 a).mp (by rw [hs]; exact fun z => by cases z)
theorem fv_i {ad : Nat → Nat} {h : Hp_} {a ci k : Nat} (ht : h_kd (h_tyc ci k) = 0) : h_fv ad h a ci k = .int (h_i h a k) := by unfold h_fv; rw [ht]; rfl
theorem fv_l {ad : Nat → Nat} {h : Hp_} {a ci k : Nat} (ht : h_kd (h_tyc ci k) = 1) : h_fv ad h a ci k = .long (h_l h a k) := by unfold h_fv; rw [ht]; rfl
theorem fv_r {ad : Nat → Nat} {h : Hp_} {a ci k : Nat} (ht : h_kd (h_tyc ci k) = 2) : h_fv ad h a ci k = va_rf ((h_r h a k).map ad) := by unfold h_fv; rw [ht]; rfl
theorem ce_iw {cy : Nat → ClassId} {ad : Nat → Nat} {h : Hp_} {a t n : Nat} {f : Nat → Int32} (hs : h_sh h a = some (t, n)) (ht : t < 3) : h_ce cy ad (h_iw h a f) a = .inl (cy t, n, .inl f) := by
  have e : h_i (h_iw h a f) a = f := by rw [h_i_iw, if_pos rfl]
  rw [h_ce_arr (h := h_iw h a f) hs (by omega)]
  match t, ht with
  | 0, _ => unfold h_ar; rw [e]; rfl
  | 1, _ => unfold h_ar; rw [e]; rfl
  | 2, _ => unfold h_ar; rw [e]; rfl
theorem ce_lw {cy : Nat → ClassId} {ad : Nat → Nat} {h : Hp_} {a n : Nat} {f : Nat → Int64} (hs : h_sh h a = some (3, n)) : h_ce cy ad (h_lw h a f) a = .inl (cy 3, n, .inr (.inl f)) := by
  have e : h_l (h_lw h a f) a = f := by rw [h_l_lw, if_pos rfl]
  rw [h_ce_arr (h := h_lw h a f) hs (by omega)]
  unfold h_ar
  rw [e]; rfl
theorem aw_geti {ci : Nat} {C : String} {T : u_T} {N k0 idx a : Nat}  (hc : kc_ ci C T N) (hs0 : h_sh h a = some (ci + 10, N)) (hk : k0 < N) (hlk : Cond.fieldLink (mY M).cls idx (T k0).1 (T k0).2.1 (T k0).2.2.1 ∈ lw_g) (hd : decode (mC M) pc = .ok (.getfield idx, 3)) (ht : h_kd (h_tyc ci k0) = 0)  (k : AW M kc ks (pc + 3) lv (.int (h_i h a k0) :: st) h K) : AW M kc ks pc lv (.ref a :: st) h K := by
  intro l p e s m args below meth c dC dI cy A ad0 adV ad dom0 dom H locs ls hf hX hT hE hW hS hl ho hs
  obtain ⟨q, hq, hw⟩ := h_W_get (cy := cy) (ad := ad) (h := h) (wd_in hW hs0)
  rw [h_ce_obj hs0] at hw
  have ev := fv_i (ad := ad) (h := h) (a := a) ht
  have e1 := h_fs_at (ad := ad) (h := h) (a := a) (ci := ci) hk
  rw [ev] at e1
  exact va_get hf.1 hf.2.1 hf.2.2.2.2.2.2.2.1 hc.2.1 hf.2.2.2.2.2.1 hf.2.2.2.2.2.2.2.2.1.1 hW.2.1 q hw hc.1 _ hk (hf.2.2.2.2.2.2.2.1 _ hlk) (fun _ h9 => h9) e1 hd (k l p e s m args below meth c dC dI cy A ad0 adV ad dom0 dom H locs ls hf hX hT hE hW hS hl ho (ok_c ok_i (ok_t hs)))
theorem aw_getl {ci : Nat} {C : String} {T : u_T} {N k0 idx a : Nat}  (hc : kc_ ci C T N) (hs0 : h_sh h a = some (ci + 10, N)) (hk : k0 < N) (hlk : Cond.fieldLink (mY M).cls idx (T k0).1 (T k0).2.1 (T k0).2.2.1 ∈ lw_g) (hd : decode (mC M) pc = .ok (.getfield idx, 3)) (ht : h_kd (h_tyc ci k0) = 1)  (k : AW M kc ks (pc + 3) lv (.long (h_l h a k0) :: st) h K) : AW M kc ks pc lv (.ref a :: st) h K := by
  intro l p e s m args below meth c dC dI cy A ad0 adV ad dom0 dom H locs ls hf hX hT hE hW hS hl ho hs
  obtain ⟨q, hq, hw⟩ := h_W_get (cy := cy) (ad := ad) (h := h) (wd_in hW hs0)
  rw [h_ce_obj hs0] at hw
  have ev := fv_l (ad := ad) (h := h) (a := a) ht
  have e1 := h_fs_at (ad := ad) (h := h) (a := a) (ci := ci) hk
  rw [ev] at e1
  exact va_get hf.1 hf.2.1 hf.2.2.2.2.2.2.2.1 hc.2.1 hf.2.2.2.2.2.1 hf.2.2.2.2.2.2.2.2.1.1 hW.2.1 q hw hc.1 _ hk (hf.2.2.2.2.2.2.2.1 _ hlk) (fun _ h9 => h9) e1 hd (k l p e s m args below meth c dC dI cy A ad0 adV ad dom0 dom H locs ls hf hX hT hE hW hS hl ho (ok_c ok_l (ok_t hs)))
theorem aw_getr {ci : Nat} {C : String} {T : u_T} {N k0 idx a : Nat} {b : Nat} (hc : kc_ ci C T N) (hs0 : h_sh h a = some (ci + 10, N)) (hk : k0 < N) (hlk : Cond.fieldLink (mY M).cls idx (T k0).1 (T k0).2.1 (T k0).2.2.1 ∈ lw_g) (hd : decode (mC M) pc = .ok (.getfield idx, 3)) (ht : h_kd (h_tyc ci k0) = 2) (hr : h_r h a k0 = some b) (k : AW M kc ks (pc + 3) lv (.ref b :: st) h K) : AW M kc ks pc lv (.ref a :: st) h K := by
  intro l p e s m args below meth c dC dI cy A ad0 adV ad dom0 dom H locs ls hf hX hT hE hW hS hl ho hs
  obtain ⟨q, hq, hw⟩ := h_W_get (cy := cy) (ad := ad) (h := h) (wd_in hW hs0)
  rw [h_ce_obj hs0] at hw
  have ev := (fv_r (ad := ad) (h := h) (a := a) ht).trans (show va_rf ((h_r h a _).map ad) = .ref (ad b) by rw [hr]; rfl)
  have e1 := h_fs_at (ad := ad) (h := h) (a := a) (ci := ci) hk
  rw [ev] at e1
  exact va_get hf.1 hf.2.1 hf.2.2.2.2.2.2.2.1 hc.2.1 hf.2.2.2.2.2.1 hf.2.2.2.2.2.2.2.2.1.1 hW.2.1 q hw hc.1 _ hk (hf.2.2.2.2.2.2.2.1 _ hlk) (fun _ h9 => h9) e1 hd (k l p e s m args below meth c dC dI cy A ad0 adV ad dom0 dom H locs ls hf hX hT hE hW hS hl ho (ok_c (fun z hz => by cases hz; exact hW.1.2.2.2 _ _ _ hr) (ok_t hs)))
theorem aw_getn {ci : Nat} {C : String} {T : u_T} {N k0 idx a : Nat}  (hc : kc_ ci C T N) (hs0 : h_sh h a = some (ci + 10, N)) (hk : k0 < N) (hlk : Cond.fieldLink (mY M).cls idx (T k0).1 (T k0).2.1 (T k0).2.2.1 ∈ lw_g) (hd : decode (mC M) pc = .ok (.getfield idx, 3)) (ht : h_kd (h_tyc ci k0) = 2) (hr : h_r h a k0 = none) (k : AW M kc ks (pc + 3) lv (.null :: st) h K) : AW M kc ks pc lv (.ref a :: st) h K := by
  intro l p e s m args below meth c dC dI cy A ad0 adV ad dom0 dom H locs ls hf hX hT hE hW hS hl ho hs
  obtain ⟨q, hq, hw⟩ := h_W_get (cy := cy) (ad := ad) (h := h) (wd_in hW hs0)
  rw [h_ce_obj hs0] at hw
  have ev := (fv_r (ad := ad) (h := h) (a := a) ht).trans (show va_rf ((h_r h a _).map ad) = .null by rw [hr]; rfl)
  have e1 := h_fs_at (ad := ad) (h := h) (a := a) (ci := ci) hk
  rw [ev] at e1
  exact va_get hf.1 hf.2.1 hf.2.2.2.2.2.2.2.1 hc.2.1 hf.2.2.2.2.2.1 hf.2.2.2.2.2.2.2.2.1.1 hW.2.1 q hw hc.1 _ hk (hf.2.2.2.2.2.2.2.1 _ hlk) (fun _ h9 => h9) e1 hd (k l p e s m args below meth c dC dI cy A ad0 adV ad dom0 dom H locs ls hf hX hT hE hW hS hl ho (ok_c ok_n (ok_t hs)))
theorem wd_i {dC : Nat → ClassId} {dI : Nat → Nat → Nat} {cy : Nat → ClassId} {A : Nat → Prop} {ad : Nat → Nat} {dom : List Nat} {h : Hp_} {H H1 : Heap} {f : Nat → Int32} {q a : Nat} {e : va_E} (hW : wd_ dC dI cy A ad dom h H) (hq : dom[q]? = some a) (he : h_ce cy ad (h_iw h a f) a = e) (h1 : va_P (dC, dI) kl_ ((h_W cy ad h dom).set q (ad a, e)) H1) (h2 : va_D A ((h_W cy ad h dom).set q (ad a, e))) : wd_ dC dI cy A ad dom (h_iw h a f) H1 := by
  rw [h_W_set hW.1.1 hq he (fun b hb => h_ce_i hb)] at h1 h2
  exact ⟨hW.1, h1, h2⟩
theorem wd_l {dC : Nat → ClassId} {dI : Nat → Nat → Nat} {cy : Nat → ClassId} {A : Nat → Prop} {ad : Nat → Nat} {dom : List Nat} {h : Hp_} {H H1 : Heap} {f : Nat → Int64} {q a : Nat} {e : va_E} (hW : wd_ dC dI cy A ad dom h H) (hq : dom[q]? = some a) (he : h_ce cy ad (h_lw h a f) a = e) (h1 : va_P (dC, dI) kl_ ((h_W cy ad h dom).set q (ad a, e)) H1) (h2 : va_D A ((h_W cy ad h dom).set q (ad a, e))) : wd_ dC dI cy A ad dom (h_lw h a f) H1 := by
  rw [h_W_set hW.1.1 hq he (fun b hb => h_ce_l hb)] at h1 h2
  exact ⟨hW.1, h1, h2⟩
theorem wd_r {dC : Nat → ClassId} {dI : Nat → Nat → Nat} {cy : Nat → ClassId} {A : Nat → Prop} {ad : Nat → Nat} {dom : List Nat} {h : Hp_} {H H1 : Heap} {x : Option Nat} {q a i : Nat} {e : va_E} (hW : wd_ dC dI cy A ad dom h H) (hx : ∀ c, x = some c → c ∈ dom ∨ 1000 ≤ c) (hq : dom[q]? = some a) (he : h_ce cy ad (h_rm h a i x) a = e) (h1 : va_P (dC, dI) kl_ ((h_W cy ad h dom).set q (ad a, e)) H1) (h2 : va_D A ((h_W cy ad h dom).set q (ad a, e))) : wd_ dC dI cy A ad dom (h_rm h a i x) H1 := by
  rw [h_W_set hW.1.1 hq he (fun b hb => h_ce_r hb)] at h1 h2
  refine ⟨⟨hW.1.1, hW.1.2.1, hW.1.2.2.1, fun b k c hr => ?_⟩, h1, h2⟩
  rw [h_r_rm] at hr
  split at hr
  · exact hx c hr
  · exact hW.1.2.2.2 b k c hr
theorem nf_r {ty : FieldType} {b : Nat} (h : h_kd ty = 2) : narrow ty (.ref b) = .ref b ∧ fits ty (.ref b) = true := by cases ty <;> first | (exact ⟨rfl, rfl⟩) | (simp [h_kd] at h)
theorem nf_n {ty : FieldType} (h : h_kd ty = 2) : narrow ty .null = .null ∧ fits ty .null = true := by cases ty <;> first | (exact ⟨rfl, rfl⟩) | (simp [h_kd] at h)
theorem nf_l {ty : FieldType} {x : Int64} (h : h_kd ty = 1) : narrow ty (.long x) = .long x ∧ fits ty (.long x) = true := by cases ty <;> first | (exact ⟨rfl, rfl⟩) | (simp [h_kd] at h)
theorem nf_i {x : Int32} : narrow .int (.int x) = .int x ∧ fits .int (.int x) = true := ⟨rfl, rfl⟩
theorem fv_up_i {ad : Nat → Nat} {h : Hp_} {a ci k : Nat} {x : Int32} (ht : h_kd (h_tyc ci k) = 0) : h_fv ad (h_im h a k x) a ci k = .int x := by rw [fv_i ht, h_i_im, if_pos ⟨rfl, rfl⟩]
theorem fv_up_in {ad : Nat → Nat} {h : Hp_} {a ci k : Nat} {x : Int32} (j : Nat) (hj : j ≠ k) : h_fv ad (h_im h a k x) a ci j = h_fv ad h a ci j := by
  unfold h_fv
  rw [h_i_im, if_neg (fun z => hj z.2), h_l_im, h_r_im]
theorem fv_up_l {ad : Nat → Nat} {h : Hp_} {a ci k : Nat} {x : Int64} (ht : h_kd (h_tyc ci k) = 1) : h_fv ad (h_lm h a k x) a ci k = .long x := by rw [fv_l ht, h_l_lm, if_pos ⟨rfl, rfl⟩]
theorem fv_up_ln {ad : Nat → Nat} {h : Hp_} {a ci k : Nat} {x : Int64} (j : Nat) (hj : j ≠ k) : h_fv ad (h_lm h a k x) a ci j = h_fv ad h a ci j := by
  unfold h_fv
  rw [h_l_lm, if_neg (fun z => hj z.2), h_i_lm, h_r_lm]
theorem fv_up_r {ad : Nat → Nat} {h : Hp_} {a ci k : Nat} {x : Option Nat} (ht : h_kd (h_tyc ci k) = 2) : h_fv ad (h_rm h a k x) a ci k = va_rf (x.map ad) := by rw [fv_r ht, h_r_rm, if_pos ⟨rfl, rfl⟩]
theorem fv_up_rn {ad : Nat → Nat} {h : Hp_} {a ci k : Nat} {x : Option Nat} (j : Nat) (hj : j ≠ k) : h_fv ad (h_rm h a k x) a ci j = h_fv ad h a ci j := by
  unfold h_fv
  rw [h_r_rm, if_neg (fun z => hj z.2), h_i_rm, h_l_rm]
theorem aw_puti {ci : Nat} {C : String} {T : u_T} {N k0 idx a : Nat} {x : Int32} (hc : kc_ ci C T N) (hs0 : h_sh h a = some (ci + 10, N)) (hk : k0 < N) (hlk : Cond.fieldLink (mY M).cls idx (T k0).1 (T k0).2.1 (T k0).2.2.1 ∈ lw_g) (hd : decode (mC M) pc = .ok (.putfield idx, 3)) (ht : h_kd (h_tyc ci k0) = 0) (hfin : (T k0).2.2.2 = false) (hnf : narrow (h_tyc ci k0) (.int x) = .int x ∧ fits (h_tyc ci k0) (.int x) = true) (k : AW M kc ks (pc + 3) lv st (h_im h a k0 x) K) : AW M kc ks pc lv (.int x :: .ref a :: st) h K := by
  intro l p e s m args below meth c dC dI cy A ad0 adV ad dom0 dom H locs ls hf hX hT hE hW hS hl ho hs
  obtain ⟨q, hq, hw⟩ := h_W_get (cy := cy) (ad := ad) (h := h) (wd_in hW hs0)
  rw [h_ce_obj hs0] at hw
  have hce : h_ce cy ad (h_im h a k0 x) a = .inr (ci, ((List.range N).map (h_fv ad h a ci)).set k0 (.int x)) := by
    have e2 := h_fs_set (n := N) (ad := ad) (h := h) (h' := h_im h a k0 x) (a := a) (ci := ci) (k := k0) (v := .int x) (fv_up_i ht) (fun j hj => fv_up_in j hj)
    rw [e2]
    exact h_ce_obj hs0
  refine va_put (ty := h_tyc ci k0) hf.1 hf.2.1 hf.2.2.2.2.2.2.2.1 hc.2.1 (h_tyc ci) hc.2.2.1 hc.2.2.2.1 hf.2.2.2.2.2.1 hf.2.2.2.2.2.2.2.2.1.1 hW.2.1 hW.2.2 hS q hw hc.1 k0 hk (hf.2.2.2.2.2.2.2.1 _ hlk) (fun _ h9 => h9) hfin (hc.2.2.1 k0 hk) hnf.1 hnf.2 (by simpa using hk) hd (fun H1 locs1 h1 h2 hS1 => ?_)
  exact k l p e s m args below meth c dC dI cy A ad0 adV ad dom0 dom H1 locs1 ls hf hX hT hE (wd_i hW hq hce h1 h2) hS1 hl ho (ok_t (ok_t hs))
theorem aw_putl {ci : Nat} {C : String} {T : u_T} {N k0 idx a : Nat} {x : Int64} (hc : kc_ ci C T N) (hs0 : h_sh h a = some (ci + 10, N)) (hk : k0 < N) (hlk : Cond.fieldLink (mY M).cls idx (T k0).1 (T k0).2.1 (T k0).2.2.1 ∈ lw_g) (hd : decode (mC M) pc = .ok (.putfield idx, 3)) (ht : h_kd (h_tyc ci k0) = 1) (hfin : (T k0).2.2.2 = false)  (k : AW M kc ks (pc + 3) lv st (h_lm h a k0 x) K) : AW M kc ks pc lv (.long x :: .ref a :: st) h K := by
  intro l p e s m args below meth c dC dI cy A ad0 adV ad dom0 dom H locs ls hf hX hT hE hW hS hl ho hs
  obtain ⟨q, hq, hw⟩ := h_W_get (cy := cy) (ad := ad) (h := h) (wd_in hW hs0)
  rw [h_ce_obj hs0] at hw
  have hce : h_ce cy ad (h_lm h a k0 x) a = .inr (ci, ((List.range N).map (h_fv ad h a ci)).set k0 (.long x)) := by
    have e2 := h_fs_set (n := N) (ad := ad) (h := h) (h' := h_lm h a k0 x) (a := a) (ci := ci) (k := k0) (v := .long x) (fv_up_l ht) (fun j hj => fv_up_ln j hj)
    rw [e2]
    exact h_ce_obj hs0
  refine va_put (ty := h_tyc ci k0) hf.1 hf.2.1 hf.2.2.2.2.2.2.2.1 hc.2.1 (h_tyc ci) hc.2.2.1 hc.2.2.2.1 hf.2.2.2.2.2.1 hf.2.2.2.2.2.2.2.2.1.1 hW.2.1 hW.2.2 hS q hw hc.1 k0 hk (hf.2.2.2.2.2.2.2.1 _ hlk) (fun _ h9 => h9) hfin (hc.2.2.1 k0 hk) (nf_l ht).1 (nf_l ht).2 (by simpa using hk) hd (fun H1 locs1 h1 h2 hS1 => ?_)
  exact k l p e s m args below meth c dC dI cy A ad0 adV ad dom0 dom H1 locs1 ls hf hX hT hE (wd_l hW hq hce h1 h2) hS1 hl ho (ok_t (ok_t hs))
theorem aw_putr {ci : Nat} {C : String} {T : u_T} {N k0 idx a : Nat} {b : Nat} (hc : kc_ ci C T N) (hs0 : h_sh h a = some (ci + 10, N)) (hk : k0 < N) (hlk : Cond.fieldLink (mY M).cls idx (T k0).1 (T k0).2.1 (T k0).2.2.1 ∈ lw_g) (hd : decode (mC M) pc = .ok (.putfield idx, 3)) (ht : h_kd (h_tyc ci k0) = 2) (hfin : (T k0).2.2.2 = false)  (k : AW M kc ks (pc + 3) lv st (h_rm h a k0 (some b)) K) : AW M kc ks pc lv (.ref b :: .ref a :: st) h K := by
  intro l p e s m args below meth c dC dI cy A ad0 adV ad dom0 dom H locs ls hf hX hT hE hW hS hl ho hs
  obtain ⟨q, hq, hw⟩ := h_W_get (cy := cy) (ad := ad) (h := h) (wd_in hW hs0)
  rw [h_ce_obj hs0] at hw
  have hce : h_ce cy ad (h_rm h a k0 (some b)) a = .inr (ci, ((List.range N).map (h_fv ad h a ci)).set k0 (.ref (ad b))) := by
    have e2 := h_fs_set (n := N) (ad := ad) (h := h) (h' := h_rm h a k0 (some b)) (a := a) (ci := ci) (k := k0) (v := .ref (ad b)) (fv_up_r ht) (fun j hj => fv_up_rn j hj)
    rw [e2]
    exact h_ce_obj hs0
  refine va_put (ty := h_tyc ci k0) hf.1 hf.2.1 hf.2.2.2.2.2.2.2.1 hc.2.1 (h_tyc ci) hc.2.2.1 hc.2.2.2.1 hf.2.2.2.2.2.1 hf.2.2.2.2.2.2.2.2.1.1 hW.2.1 hW.2.2 hS q hw hc.1 k0 hk (hf.2.2.2.2.2.2.2.1 _ hlk) (fun _ h9 => h9) hfin (hc.2.2.1 k0 hk) (nf_r ht).1 (nf_r ht).2 (by simpa using hk) hd (fun H1 locs1 h1 h2 hS1 => ?_)
  exact k l p e s m args below meth c dC dI cy A ad0 adV ad dom0 dom H1 locs1 ls hf hX hT hE (wd_r hW (fun z hz => by cases hz; exact ok_h hs _ rfl) hq hce h1 h2) hS1 hl ho (ok_t (ok_t hs))
theorem aw_putn {ci : Nat} {C : String} {T : u_T} {N k0 idx a : Nat}  (hc : kc_ ci C T N) (hs0 : h_sh h a = some (ci + 10, N)) (hk : k0 < N) (hlk : Cond.fieldLink (mY M).cls idx (T k0).1 (T k0).2.1 (T k0).2.2.1 ∈ lw_g) (hd : decode (mC M) pc = .ok (.putfield idx, 3)) (ht : h_kd (h_tyc ci k0) = 2) (hfin : (T k0).2.2.2 = false)  (k : AW M kc ks (pc + 3) lv st (h_rm h a k0 none) K) : AW M kc ks pc lv (.null :: .ref a :: st) h K := by
  intro l p e s m args below meth c dC dI cy A ad0 adV ad dom0 dom H locs ls hf hX hT hE hW hS hl ho hs
  obtain ⟨q, hq, hw⟩ := h_W_get (cy := cy) (ad := ad) (h := h) (wd_in hW hs0)
  rw [h_ce_obj hs0] at hw
  have hce : h_ce cy ad (h_rm h a k0 none) a = .inr (ci, ((List.range N).map (h_fv ad h a ci)).set k0 (.null)) := by
    have e2 := h_fs_set (n := N) (ad := ad) (h := h) (h' := h_rm h a k0 none) (a := a) (ci := ci) (k := k0) (v := .null) (fv_up_r ht) (fun j hj => fv_up_rn j hj)
    rw [e2]
    exact h_ce_obj hs0
  refine va_put (ty := h_tyc ci k0) hf.1 hf.2.1 hf.2.2.2.2.2.2.2.1 hc.2.1 (h_tyc ci) hc.2.2.1 hc.2.2.2.1 hf.2.2.2.2.2.1 hf.2.2.2.2.2.2.2.2.1.1 hW.2.1 hW.2.2 hS q hw hc.1 k0 hk (hf.2.2.2.2.2.2.2.1 _ hlk) (fun _ h9 => h9) hfin (hc.2.2.1 k0 hk) (nf_n ht).1 (nf_n ht).2 (by simpa using hk) hd (fun H1 locs1 h1 h2 hS1 => ?_)
  exact k l p e s m args below meth c dC dI cy A ad0 adV ad dom0 dom H1 locs1 ls hf hX hT hE (wd_r hW (fun z hz => by cases hz) hq hce h1 h2) hS1 hl ho (ok_t (ok_t hs))
theorem aw_putiF {ci : Nat} {C : String} {T : u_T} {N k0 idx a : Nat} {x : Int32} (hc : kc_ ci C T N) (hs0 : h_sh h a = some (ci + 10, N)) (hk : k0 < N) (hlk : Cond.fieldLink (mY M).cls idx (T k0).1 (T k0).2.1 (T k0).2.2.1 ∈ lw_g) (hd : decode (mC M) pc = .ok (.putfield idx, 3)) (ht : h_kd (h_tyc ci k0) = 0) (hfin : (T k0).2.2.2 = true) (hini : (mY M).name = "<init>") (hdc : (T k0).1 = (mY M).cls) (hnf : narrow (h_tyc ci k0) (.int x) = .int x ∧ fits (h_tyc ci k0) (.int x) = true) (k : AW M kc ks (pc + 3) lv st (h_im h a k0 x) K) : AW M kc ks pc lv (.int x :: .ref a :: st) h K := by
  intro l p e s m args below meth c dC dI cy A ad0 adV ad dom0 dom H locs ls hf hX hT hE hW hS hl ho hs
  obtain ⟨q, hq, hw⟩ := h_W_get (cy := cy) (ad := ad) (h := h) (wd_in hW hs0)
  rw [h_ce_obj hs0] at hw
  have hce : h_ce cy ad (h_im h a k0 x) a = .inr (ci, ((List.range N).map (h_fv ad h a ci)).set k0 (.int x)) := by
    have e2 := h_fs_set (n := N) (ad := ad) (h := h) (h' := h_im h a k0 x) (a := a) (ci := ci) (k := k0) (v := .int x) (fv_up_i ht) (fun j hj => fv_up_in j hj)
    rw [e2]
    exact h_ce_obj hs0
  refine va_putF (ty := h_tyc ci k0) hf.1 hf.2.1 hf.2.2.2.2.2.2.2.1 hc.2.1 (h_tyc ci) hc.2.2.1 hc.2.2.2.1 hf.2.2.2.2.2.1 hf.2.2.2.2.2.2.2.2.1.1 hW.2.1 hW.2.2 hS q hw hc.1 k0 hk (hf.2.2.2.2.2.2.2.1 _ hlk) (fun _ h9 => h9) hfin (hf.2.2.2.2.2.2.1.trans hini) hdc (hc.2.2.1 k0 hk) hnf.1 hnf.2 (by simpa using hk) hd (fun H1 locs1 h1 h2 hS1 => ?_)
  exact k l p e s m args below meth c dC dI cy A ad0 adV ad dom0 dom H1 locs1 ls hf hX hT hE (wd_i hW hq hce h1 h2) hS1 hl ho (ok_t (ok_t hs))
theorem aw_putlF {ci : Nat} {C : String} {T : u_T} {N k0 idx a : Nat} {x : Int64} (hc : kc_ ci C T N) (hs0 : h_sh h a = some (ci + 10, N)) (hk : k0 < N) (hlk : Cond.fieldLink (mY M).cls idx (T k0).1 (T k0).2.1 (T k0).2.2.1 ∈ lw_g) (hd : decode (mC M) pc = .ok (.putfield idx, 3)) (ht : h_kd (h_tyc ci k0) = 1) (hfin : (T k0).2.2.2 = true) (hini : (mY M).name = "<init>") (hdc : (T k0).1 = (mY M).cls)  (k : AW M kc ks (pc + 3) lv st (h_lm h a k0 x) K) : AW M kc ks pc lv (.long x :: .ref a :: st) h K := by
  intro l p e s m args below meth c dC dI cy A ad0 adV ad dom0 dom H locs ls hf hX hT hE hW hS hl ho hs
  obtain ⟨q, hq, hw⟩ := h_W_get (cy := cy) (ad := ad) (h := h) (wd_in hW hs0)
  rw [h_ce_obj hs0] at hw
  have hce : h_ce cy ad (h_lm h a k0 x) a = .inr (ci, ((List.range N).map (h_fv ad h a ci)).set k0 (.long x)) := by
    have e2 := h_fs_set (n := N) (ad := ad) (h := h) (h' := h_lm h a k0 x) (a := a) (ci := ci) (k := k0) (v := .long x) (fv_up_l ht) (fun j hj => fv_up_ln j hj)
    rw [e2]
    exact h_ce_obj hs0
  refine va_putF (ty := h_tyc ci k0) hf.1 hf.2.1 hf.2.2.2.2.2.2.2.1 hc.2.1 (h_tyc ci) hc.2.2.1 hc.2.2.2.1 hf.2.2.2.2.2.1 hf.2.2.2.2.2.2.2.2.1.1 hW.2.1 hW.2.2 hS q hw hc.1 k0 hk (hf.2.2.2.2.2.2.2.1 _ hlk) (fun _ h9 => h9) hfin (hf.2.2.2.2.2.2.1.trans hini) hdc (hc.2.2.1 k0 hk) (nf_l ht).1 (nf_l ht).2 (by simpa using hk) hd (fun H1 locs1 h1 h2 hS1 => ?_)
  exact k l p e s m args below meth c dC dI cy A ad0 adV ad dom0 dom H1 locs1 ls hf hX hT hE (wd_l hW hq hce h1 h2) hS1 hl ho (ok_t (ok_t hs))
theorem aw_putrF {ci : Nat} {C : String} {T : u_T} {N k0 idx a : Nat} {b : Nat} (hc : kc_ ci C T N) (hs0 : h_sh h a = some (ci + 10, N)) (hk : k0 < N) (hlk : Cond.fieldLink (mY M).cls idx (T k0).1 (T k0).2.1 (T k0).2.2.1 ∈ lw_g) (hd : decode (mC M) pc = .ok (.putfield idx, 3)) (ht : h_kd (h_tyc ci k0) = 2) (hfin : (T k0).2.2.2 = true) (hini : (mY M).name = "<init>") (hdc : (T k0).1 = (mY M).cls)  (k : AW M kc ks (pc + 3) lv st (h_rm h a k0 (some b)) K) : AW M kc ks pc lv (.ref b :: .ref a :: st) h K := by
  intro l p e s m args below meth c dC dI cy A ad0 adV ad dom0 dom H locs ls hf hX hT hE hW hS hl ho hs
  obtain ⟨q, hq, hw⟩ := h_W_get (cy := cy) (ad := ad) (h := h) (wd_in hW hs0)
  rw [h_ce_obj hs0] at hw
  have hce : h_ce cy ad (h_rm h a k0 (some b)) a = .inr (ci, ((List.range N).map (h_fv ad h a ci)).set k0 (.ref (ad b))) := by
    have e2 := h_fs_set (n := N) (ad := ad) (h := h) (h' := h_rm h a k0 (some b)) (a := a) (ci := ci) (k := k0) (v := .ref (ad b)) (fv_up_r ht) (fun j hj => fv_up_rn j hj)
    rw [e2]
    exact h_ce_obj hs0
  refine va_putF (ty := h_tyc ci k0) hf.1 hf.2.1 hf.2.2.2.2.2.2.2.1 hc.2.1 (h_tyc ci) hc.2.2.1 hc.2.2.2.1 hf.2.2.2.2.2.1 hf.2.2.2.2.2.2.2.2.1.1 hW.2.1 hW.2.2 hS q hw hc.1 k0 hk (hf.2.2.2.2.2.2.2.1 _ hlk) (fun _ h9 => h9) hfin (hf.2.2.2.2.2.2.1.trans hini) hdc (hc.2.2.1 k0 hk) (nf_r ht).1 (nf_r ht).2 (by simpa using hk) hd (fun H1 locs1 h1 h2 hS1 => ?_)
  exact k l p e s m args below meth c dC dI cy A ad0 adV ad dom0 dom H1 locs1 ls hf hX hT hE (wd_r hW (fun z hz => by cases hz; exact ok_h hs _ rfl) hq hce h1 h2) hS1 hl ho (ok_t (ok_t hs))
theorem aw_putnF {ci : Nat} {C : String} {T : u_T} {N k0 idx a : Nat}  (hc : kc_ ci C T N) (hs0 : h_sh h a = some (ci + 10, N)) (hk : k0 < N) (hlk : Cond.fieldLink (mY M).cls idx (T k0).1 (T k0).2.1 (T k0).2.2.1 ∈ lw_g) (hd : decode (mC M) pc = .ok (.putfield idx, 3)) (ht : h_kd (h_tyc ci k0) = 2) (hfin : (T k0).2.2.2 = true) (hini : (mY M).name = "<init>") (hdc : (T k0).1 = (mY M).cls)  (k : AW M kc ks (pc + 3) lv st (h_rm h a k0 none) K) : AW M kc ks pc lv (.null :: .ref a :: st) h K := by
  intro l p e s m args below meth c dC dI cy A ad0 adV ad dom0 dom H locs ls hf hX hT hE hW hS hl ho hs
  obtain ⟨q, hq, hw⟩ := h_W_get (cy := cy) (ad := ad) (h := h) (wd_in hW hs0)
  rw [h_ce_obj hs0] at hw
  have hce : h_ce cy ad (h_rm h a k0 none) a = .inr (ci, ((List.range N).map (h_fv ad h a ci)).set k0 (.null)) := by
    have e2 := h_fs_set (n := N) (ad := ad) (h := h) (h' := h_rm h a k0 none) (a := a) (ci := ci) (k := k0) (v := .null) (fv_up_r ht) (fun j hj => fv_up_rn j hj)
    rw [e2]
    exact h_ce_obj hs0
  refine va_putF (ty := h_tyc ci k0) hf.1 hf.2.1 hf.2.2.2.2.2.2.2.1 hc.2.1 (h_tyc ci) hc.2.2.1 hc.2.2.2.1 hf.2.2.2.2.2.1 hf.2.2.2.2.2.2.2.2.1.1 hW.2.1 hW.2.2 hS q hw hc.1 k0 hk (hf.2.2.2.2.2.2.2.1 _ hlk) (fun _ h9 => h9) hfin (hf.2.2.2.2.2.2.1.trans hini) hdc (hc.2.2.1 k0 hk) (nf_n ht).1 (nf_n ht).2 (by simpa using hk) hd (fun H1 locs1 h1 h2 hS1 => ?_)
  exact k l p e s m args below meth c dC dI cy A ad0 adV ad dom0 dom H1 locs1 ls hf hX hT hE (wd_r hW (fun z hz => by cases hz) hq hce h1 h2) hS1 hl ho (ok_t (ok_t hs))
theorem aw_iald {a n : Nat} {i : Int32} (hs0 : h_sh h a = some (0, n)) (hin : vp_in i n) (hd : decode (mC M) pc = .ok (.iaload, 1)) (k : AW M kc ks (pc + 1) lv (.int (h_i h a i.toNatClampNeg) :: st) h K) : AW M kc ks pc lv (.int i :: .ref a :: st) h K := by
  intro l p e s m args below meth c dC dI cy A ad0 adV ad dom0 dom H locs ls hf hX hT hE hW hS hl ho hs
  obtain ⟨q, hq, hw⟩ := h_W_get (cy := cy) (ad := ad) (h := h) (wd_in hW hs0)
  rw [h_ce_arr hs0 (by decide)] at hw
  exact va_iald hf.1 hf.2.1 hf.2.2.2.2.2.2.2.2.1.1 hW.2.1 q 0 hw rfl hin hd (k l p e s m args below meth c dC dI cy A ad0 adV ad dom0 dom H locs ls hf hX hT hE hW hS hl ho (ok_c ok_i (ok_t (ok_t hs))))
theorem aw_zald {a n : Nat} {i : Int32} (hs0 : h_sh h a = some (1, n)) (hin : vp_in i n) (hd : decode (mC M) pc = .ok (.baload, 1)) (k : AW M kc ks (pc + 1) lv (.int (h_i h a i.toNatClampNeg) :: st) h K) : AW M kc ks pc lv (.int i :: .ref a :: st) h K := by
  intro l p e s m args below meth c dC dI cy A ad0 adV ad dom0 dom H locs ls hf hX hT hE hW hS hl ho hs
  obtain ⟨q, hq, hw⟩ := h_W_get (cy := cy) (ad := ad) (h := h) (wd_in hW hs0)
  rw [h_ce_arr hs0 (by decide)] at hw
  exact va_zald hf.1 hf.2.1 hf.2.2.2.2.2.2.2.2.1.1 hW.2.1 q 1 hw rfl hin hd (k l p e s m args below meth c dC dI cy A ad0 adV ad dom0 dom H locs ls hf hX hT hE hW hS hl ho (ok_c ok_i (ok_t (ok_t hs))))
theorem aw_bald {a n : Nat} {i : Int32} (hs0 : h_sh h a = some (2, n)) (hin : vp_in i n) (hd : decode (mC M) pc = .ok (.baload, 1)) (k : AW M kc ks (pc + 1) lv (.int (h_i h a i.toNatClampNeg) :: st) h K) : AW M kc ks pc lv (.int i :: .ref a :: st) h K := by
  intro l p e s m args below meth c dC dI cy A ad0 adV ad dom0 dom H locs ls hf hX hT hE hW hS hl ho hs
  obtain ⟨q, hq, hw⟩ := h_W_get (cy := cy) (ad := ad) (h := h) (wd_in hW hs0)
  rw [h_ce_arr hs0 (by decide)] at hw
  exact va_bald hf.1 hf.2.1 hf.2.2.2.2.2.2.2.2.1.1 hW.2.1 q 2 hw rfl hin hd (k l p e s m args below meth c dC dI cy A ad0 adV ad dom0 dom H locs ls hf hX hT hE hW hS hl ho (ok_c ok_i (ok_t (ok_t hs))))
theorem aw_lald {a n : Nat} {i : Int32} (hs0 : h_sh h a = some (3, n)) (hin : vp_in i n) (hd : decode (mC M) pc = .ok (.laload, 1)) (k : AW M kc ks (pc + 1) lv (.long (h_l h a i.toNatClampNeg) :: st) h K) : AW M kc ks pc lv (.int i :: .ref a :: st) h K := by
  intro l p e s m args below meth c dC dI cy A ad0 adV ad dom0 dom H locs ls hf hX hT hE hW hS hl ho hs
  obtain ⟨q, hq, hw⟩ := h_W_get (cy := cy) (ad := ad) (h := h) (wd_in hW hs0)
  rw [h_ce_arr hs0 (by decide)] at hw
  exact va_lald hf.1 hf.2.1 hf.2.2.2.2.2.2.2.2.1.1 hW.2.1 q 3 hw rfl hin hd (k l p e s m args below meth c dC dI cy A ad0 adV ad dom0 dom H locs ls hf hX hT hE hW hS hl ho (ok_c ok_l (ok_t (ok_t hs))))
theorem aw_iast {a n : Nat} {i : Int32} {x : Int32} (hs0 : h_sh h a = some (0, n)) (hin : vp_in i n) (hd : decode (mC M) pc = .ok (.iastore, 1)) (k : AW M kc ks (pc + 1) lv st (h_im h a i.toNatClampNeg x) K) : AW M kc ks pc lv (.int x :: .int i :: .ref a :: st) h K := by
  intro l p e s m args below meth c dC dI cy A ad0 adV ad dom0 dom H locs ls hf hX hT hE hW hS hl ho hs
  obtain ⟨q, hq, hw⟩ := h_W_get (cy := cy) (ad := ad) (h := h) (wd_in hW hs0)
  rw [h_ce_arr hs0 (by decide)] at hw
  refine va_iast hf.1 hf.2.1 hf.2.2.2.2.2.2.2.2.1.1 hW.2.1 hW.2.2 hS q 0 hw rfl hin hd (fun H1 locs1 h1 h2 hS1 => ?_)
  exact k l p e s m args below meth c dC dI cy A ad0 adV ad dom0 dom H1 locs1 ls hf hX hT hE (wd_i hW hq (ce_iw hs0 (by decide)) h1 h2) hS1 hl ho (ok_t (ok_t (ok_t hs)))
theorem aw_zast {a n : Nat} {i : Int32} {x : Int32} (hs0 : h_sh h a = some (1, n)) (hin : vp_in i n) (hd : decode (mC M) pc = .ok (.bastore, 1)) (k : AW M kc ks (pc + 1) lv st (h_im h a i.toNatClampNeg (vp_nar .boolean x)) K) : AW M kc ks pc lv (.int x :: .int i :: .ref a :: st) h K := by
  intro l p e s m args below meth c dC dI cy A ad0 adV ad dom0 dom H locs ls hf hX hT hE hW hS hl ho hs
  obtain ⟨q, hq, hw⟩ := h_W_get (cy := cy) (ad := ad) (h := h) (wd_in hW hs0)
  rw [h_ce_arr hs0 (by decide)] at hw
  refine va_zast hf.1 hf.2.1 hf.2.2.2.2.2.2.2.2.1.1 hW.2.1 hW.2.2 hS q 1 hw rfl hin hd (fun H1 locs1 h1 h2 hS1 => ?_)
  exact k l p e s m args below meth c dC dI cy A ad0 adV ad dom0 dom H1 locs1 ls hf hX hT hE (wd_i hW hq (ce_iw hs0 (by decide)) h1 h2) hS1 hl ho (ok_t (ok_t (ok_t hs)))
theorem aw_bast {a n : Nat} {i : Int32} {x : Int32} (hs0 : h_sh h a = some (2, n)) (hin : vp_in i n) (hd : decode (mC M) pc = .ok (.bastore, 1)) (k : AW M kc ks (pc + 1) lv st (h_im h a i.toNatClampNeg (vp_nar .byte x)) K) : AW M kc ks pc lv (.int x :: .int i :: .ref a :: st) h K := by
  intro l p e s m args below meth c dC dI cy A ad0 adV ad dom0 dom H locs ls hf hX hT hE hW hS hl ho hs
  obtain ⟨q, hq, hw⟩ := h_W_get (cy := cy) (ad := ad) (h := h) (wd_in hW hs0)
  rw [h_ce_arr hs0 (by decide)] at hw
  refine va_bast hf.1 hf.2.1 hf.2.2.2.2.2.2.2.2.1.1 hW.2.1 hW.2.2 hS q 2 hw rfl hin hd (fun H1 locs1 h1 h2 hS1 => ?_)
  exact k l p e s m args below meth c dC dI cy A ad0 adV ad dom0 dom H1 locs1 ls hf hX hT hE (wd_i hW hq (ce_iw hs0 (by decide)) h1 h2) hS1 hl ho (ok_t (ok_t (ok_t hs)))
theorem aw_last {a n : Nat} {i : Int32} {x : Int64} (hs0 : h_sh h a = some (3, n)) (hin : vp_in i n) (hd : decode (mC M) pc = .ok (.lastore, 1)) (k : AW M kc ks (pc + 1) lv st (h_lm h a i.toNatClampNeg x) K) : AW M kc ks pc lv (.long x :: .int i :: .ref a :: st) h K := by
  intro l p e s m args below meth c dC dI cy A ad0 adV ad dom0 dom H locs ls hf hX hT hE hW hS hl ho hs
  obtain ⟨q, hq, hw⟩ := h_W_get (cy := cy) (ad := ad) (h := h) (wd_in hW hs0)
  rw [h_ce_arr hs0 (by decide)] at hw
  refine va_last hf.1 hf.2.1 hf.2.2.2.2.2.2.2.2.1.1 hW.2.1 hW.2.2 hS q 3 hw rfl hin hd (fun H1 locs1 h1 h2 hS1 => ?_)
  exact k l p e s m args below meth c dC dI cy A ad0 adV ad dom0 dom H1 locs1 ls hf hX hT hE (wd_l hW hq (ce_lw hs0) h1 h2) hS1 hl ho (ok_t (ok_t (ok_t hs)))
theorem aw_aaldr {a n : Nat} {i : Int32} {b : Nat} (hs0 : h_sh h a = some (4, n)) (hin : vp_in i n) (hr : h_r h a i.toNatClampNeg = some b) (hd : decode (mC M) pc = .ok (.aaload, 1)) (k : AW M kc ks (pc + 1) lv (.ref b :: st) h K) : AW M kc ks pc lv (.int i :: .ref a :: st) h K := by
  intro l p e s m args below meth c dC dI cy A ad0 adV ad dom0 dom H locs ls hf hX hT hE hW hS hl ho hs
  obtain ⟨q, hq, hw⟩ := h_W_get (cy := cy) (ad := ad) (h := h) (wd_in hW hs0)
  rw [h_ce_arr hs0 (by decide)] at hw
  refine va_aldq hf.1 hf.2.1 hf.2.2.2.2.2.2.2.2.1.1 hW.2.1 q 4 hw rfl hin hd ?_
  show W _ _ _ _ _ _ _ _ _ _ _ _ _ _ _ (F0 m (pc + 1) ls (va_rf ((h_r h a i.toNatClampNeg).map ad) :: _))
  rw [hr]
  exact k l p e s m args below meth c dC dI cy A ad0 adV ad dom0 dom H locs ls hf hX hT hE hW hS hl ho (ok_c (fun z hz => by cases hz; exact hW.1.2.2.2 _ _ _ hr) (ok_t (ok_t hs)))
theorem aw_aaldn {a n : Nat} {i : Int32}  (hs0 : h_sh h a = some (4, n)) (hin : vp_in i n) (hr : h_r h a i.toNatClampNeg = none) (hd : decode (mC M) pc = .ok (.aaload, 1)) (k : AW M kc ks (pc + 1) lv (.null :: st) h K) : AW M kc ks pc lv (.int i :: .ref a :: st) h K := by
  intro l p e s m args below meth c dC dI cy A ad0 adV ad dom0 dom H locs ls hf hX hT hE hW hS hl ho hs
  obtain ⟨q, hq, hw⟩ := h_W_get (cy := cy) (ad := ad) (h := h) (wd_in hW hs0)
  rw [h_ce_arr hs0 (by decide)] at hw
  refine va_aldq hf.1 hf.2.1 hf.2.2.2.2.2.2.2.2.1.1 hW.2.1 q 4 hw rfl hin hd ?_
  show W _ _ _ _ _ _ _ _ _ _ _ _ _ _ _ (F0 m (pc + 1) ls (va_rf ((h_r h a i.toNatClampNeg).map ad) :: _))
  rw [hr]
  exact k l p e s m args below meth c dC dI cy A ad0 adV ad dom0 dom H locs ls hf hX hT hE hW hS hl ho (ok_c ok_n (ok_t (ok_t hs)))
theorem aw_aast {a n b : Nat} {i : Int32} (hs0 : h_sh h a = some (4, n)) (hin : vp_in i n) (hs1 : h_sh h b = some (12, 17)) (hd : decode (mC M) pc = .ok (.aastore, 1)) (k : AW M kc ks (pc + 1) lv st (h_rm h a i.toNatClampNeg (some b)) K) : AW M kc ks pc lv (.ref b :: .int i :: .ref a :: st) h K := by
  intro l p e s m args below meth c dC dI cy A ad0 adV ad dom0 dom H locs ls hf hX hT hE hW hS hl ho hs
  obtain ⟨q, hq, hw⟩ := h_W_get (cy := cy) (ad := ad) (h := h) (wd_in hW hs0)
  obtain ⟨q1, hq1, hw1⟩ := h_W_get (cy := cy) (ad := ad) (h := h) (wd_in hW hs1)
  rw [h_ce_arr hs0 (by decide)] at hw
  rw [h_ce_obj (ci := 2) hs1] at hw1
  refine va_astq (r := (RX2, TX2, 17)) hf.1 hf.2.1 hf.2.2.2.2.2.2.2.2.1.1 hW.2.1 hW.2.2 hS q 4 q1 2 hw rfl hw1 rfl hin hd (fun H1 locs1 h1 h2 hS1 => ?_)
  refine k l p e s m args below meth c dC dI cy A ad0 adV ad dom0 dom H1 locs1 ls hf hX hT hE (wd_r hW (fun z hz => by cases hz; exact Or.inl (wd_in hW hs1)) hq ?_ h1 h2) hS1 hl ho (ok_t (ok_t (ok_t hs)))
  rw [h_ce_arr (h := h_rm h a i.toNatClampNeg (some b)) hs0 (by decide)]
  have e1 : (fun k => (h_r (h_rm h a i.toNatClampNeg (some b)) a k).map ad) = va_up (fun k => (h_r h a k).map ad) i.toNatClampNeg (some (ad b)) := by
    funext j
    rw [h_r_rm]
    unfold va_up
    by_cases hj : j = i.toNatClampNeg
    · rw [if_pos ⟨rfl, hj⟩, if_pos hj]; rfl
    · rw [if_neg (fun z => hj z.2), if_neg hj]
  show Sum.inl (cy 4, n, Sum.inr (Sum.inr (Sum.inr (Sum.inr (fun k => (h_r (h_rm h a i.toNatClampNeg (some b)) a k).map ad))))) = _
  rw [e1]
theorem aw_alen {a t n : Nat} {v : Int32} (hs0 : h_sh h a = some (t, n)) (ht : t < 5) (hv : Int32.ofNat n = v) (hd : decode (mC M) pc = .ok (.arraylength, 1)) (k : AW M kc ks (pc + 1) lv (.int v :: st) h K) : AW M kc ks pc lv (.ref a :: st) h K := by
  intro l p e s m args below meth c dC dI cy A ad0 adV ad dom0 dom H locs ls hf hX hT hE hW hS hl ho hs
  obtain ⟨q, hq, hw⟩ := h_W_get (cy := cy) (ad := ad) (h := h) (wd_in hW hs0)
  rw [h_ce_arr hs0 (by omega)] at hw
  have hty : ∃ ty, (h_tys cy)[t]? = some (cy t, ty) := by
    match t, ht with
    | 0, _ => exact ⟨_, rfl⟩
    | 1, _ => exact ⟨_, rfl⟩
    | 2, _ => exact ⟨_, rfl⟩
    | 3, _ => exact ⟨_, rfl⟩
    | 4, _ => exact ⟨_, rfl⟩
  obtain ⟨ty, hty⟩ := hty
  exact va_alen hf.1 hf.2.1 hf.2.2.2.2.2.2.2.2.1.1 hW.2.1 q t hw hty hv hd (k l p e s m args below meth c dC dI cy A ad0 adV ad dom0 dom H locs ls hf hX hT hE hW hS hl ho (ok_c ok_i (ok_t hs)))
end AWH
