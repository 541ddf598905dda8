/-! THE HEAP AS THE PROOFS SEE IT: cells by number; shapes, ints, longs, references. Tags: 0 int[], 1 boolean[], 2 byte[], 3 long[], 4 Constable[]; 10 + ci: an object of class ci of kl_ -/
abbrev Hp_ : Type := (Nat → Option (Nat × Nat)) × (Nat → Nat → Int32) × (Nat → Nat → Int64) × (Nat → Nat → Option Nat)
def h_sh (h : Hp_) (a : Nat) : Option (Nat × Nat) := h.1 a
def h_i (h : Hp_) (a k : Nat) : Int32 := h.2.1 a k
def h_l (h : Hp_) (a k : Nat) : Int64 := h.2.2.1 a k
def h_r (h : Hp_) (a k : Nat) : Option Nat := h.2.2.2 a k
def h_im (h : Hp_) (a k : Nat) (x : Int32) : Hp_ := (h.1, va_up h.2.1 a (upd (h.2.1 a) k x), h.2.2.1, h.2.2.2)
def h_lm (h : Hp_) (a k : Nat) (x : Int64) : Hp_ := (h.1, h.2.1, va_up h.2.2.1 a (vp_updL (h.2.2.1 a) k x), h.2.2.2)
def h_rm (h : Hp_) (a k : Nat) (x : Option Nat) : Hp_ := (h.1, h.2.1, h.2.2.1, va_up h.2.2.2 a (va_up (h.2.2.2 a) k x))
/-- a whole int row at once -/
def h_iw (h : Hp_) (a : Nat) (f : Nat → Int32) : Hp_ := (h.1, va_up h.2.1 a f, h.2.2.1, h.2.2.2)
def h_lw (h : Hp_) (a : Nat) (f : Nat → Int64) : Hp_ := (h.1, h.2.1, va_up h.2.2.1 a f, h.2.2.2)
def h_nw (h : Hp_) (a t n : Nat) : Hp_ := (va_up h.1 a (some (t, n)), va_up h.2.1 a (fun _ => 0), va_up h.2.2.1 a (fun _ => 0), va_up h.2.2.2 a (fun _ => none))
def h_cv (ad : Nat → Nat) : Value → Value
  | .ref a => .ref (ad a)
  | v => v
def h_ok (dom : List Nat) (v : Value) : Prop := ∀ c, v = .ref c → c ∈ dom ∨ 1000 ≤ c
def h_tyc : Nat → Nat → FieldType
  | 0 => tyX0 | 1 => tyX1 | 2 => tyX2 | 3 => tyX3 | 4 => tyX4 | 5 => tyX5 | 6 => tyX6 | 7 => tyX7 | 8 => tyX8 | 9 => tyX9 | 10 => tyX10 | 11 => tyX11 | _ => tyX12
def h_kd : FieldType → Nat
  | .long => 1
  | .array _ => 2
  | .object _ => 2
  | _ => 0
def h_fv (ad : Nat → Nat) (h : Hp_) (a ci k : Nat) : Value := match h_kd (h_tyc ci k) with
  | 0 => .int (h_i h a k)
  | 1 => .long (h_l h a k)
  | _ => va_rf ((h_r h a k).map ad)
def h_ar (ad : Nat → Nat) (h : Hp_) (a t : Nat) : (Nat → Int32) ⊕ (Nat → Int64) ⊕ (Nat → UInt32) ⊕ (Nat → UInt64) ⊕ (Nat → Option Nat) :=
  match t with
  | 3 => .inr (.inl (h_l h a))
  | 4 => .inr (.inr (.inr (.inr (fun k => (h_r h a k).map ad))))
  | _ => .inl (h_i h a)
def h_ce (cy : Nat → ClassId) (ad : Nat → Nat) (h : Hp_) (a : Nat) : va_E := match h_sh h a with
  | some (t, n) => if t < 10 then .inl (cy t, n, h_ar ad h a t) else .inr (t - 10, (List.range n).map (h_fv ad h a (t - 10)))
  | none => .inr (0, [])
def h_W (cy : Nat → ClassId) (ad : Nat → Nat) (h : Hp_) (dom : List Nat) : va_W := dom.map (fun a => (ad a, h_ce cy ad h a))
theorem h_W_get {cy : Nat → ClassId} {ad : Nat → Nat} {h : Hp_} {dom : List Nat} {a : Nat} (ha : a ∈ dom) : ∃ q : Nat, dom[q]? = some a ∧ (h_W cy ad h dom)[q]? = some (ad a, h_ce cy ad h a) := by
  obtain ⟨q, hq⟩ := List.getElem?_of_mem ha
  exact ⟨q, hq, by simp [h_W, hq]⟩
theorem h_W_at {cy : Nat → ClassId} {ad : Nat → Nat} {h : Hp_} {dom : List Nat} {q a : Nat} (hq : dom[q]? = some a) : (h_W cy ad h dom)[q]? = some (ad a, h_ce cy ad h a) := by simp [h_W, hq]
theorem h_nd {dom : List Nat} (hn : dom.Nodup) {i j a : Nat} (hi : dom[i]? = some a) (hj : dom[j]? = some a) : i = j := by
  obtain ⟨l1, e1⟩ := List.getElem?_eq_some_iff.mp hi
  obtain ⟨l2, e2⟩ := List.getElem?_eq_some_iff.mp hj
  have hp := List.pairwise_iff_getElem.mp hn
  rcases Nat.lt_trichotomy i j with z | z | z
  · exact absurd (e1.trans e2.symm) (hp i j l1 l2 z)
  · exact z
  · exact absurd (e2.trans e1.symm) (hp j i l2 l1 z)
theorem h_W_set {cy : Nat → ClassId} {ad : Nat → Nat} {h h' : Hp_} {dom : List Nat} {q a : Nat} {e : va_E} (hn : dom.Nodup) (hq : dom[q]? = some a) (he : h_ce cy ad h' a = e) (ho : ∀ b, b ≠ a → h_ce cy ad h' b = h_ce cy ad h b) : (h_W cy ad h dom).set q (ad a, e) = h_W cy ad h' dom := by
  apply List.ext_getElem?
  intro k
  by_cases hk : k = q
  · subst hk
    have hl : k < (h_W cy ad h dom).length := by rw [h_W, List.length_map]; exact (List.getElem?_eq_some_iff.mp hq).1
    rw [List.getElem?_set_self hl, h_W_at hq, he]
  · rw [List.getElem?_set_ne (Ne.symm hk)]
    simp only [h_W, List.getElem?_map]
    cases hb : dom[k]? with
    | none => rfl
    | some b =>
      have hba : b ≠ a := fun z => hk (h_nd hn (by rw [hb, z]) hq)
      simp only [Option.map_some, ho b hba]
theorem h_W_new {cy : Nat → ClassId} {ad ad' : Nat → Nat} {h h' : Hp_} {dom : List Nat} {a q : Nat} {e : va_E} (ha : ad' a = q) (he : h_ce cy ad' h' a = e) (ho : ∀ b ∈ dom, ad' b = ad b ∧ h_ce cy ad' h' b = h_ce cy ad h b) : h_W cy ad h dom ++ [(q, e)] = h_W cy ad' h' (dom ++ [a]) := by
  simp only [h_W, List.map_append, List.map_cons, List.map_nil, ha, he]
  congr 1
  apply List.map_congr_left
  intro b hb
  rw [(ho b hb).1, (ho b hb).2]
/-- what a field holds: by its slot -/
theorem h_fs_at {ad : Nat → Nat} {h : Hp_} {a ci n k : Nat} (hk : k < n) : ((List.range n).map (h_fv ad h a ci))[k]? = some (h_fv ad h a ci k) := by simp [hk]
theorem h_fs_set {ad : Nat → Nat} {h h' : Hp_} {a ci n k : Nat} {v : Value} (hv : h_fv ad h' a ci k = v) (ho : ∀ j, j ≠ k → h_fv ad h' a ci j = h_fv ad h a ci j) : ((List.range n).map (h_fv ad h a ci)).set k v = (List.range n).map (h_fv ad h' a ci) := by
  apply List.ext_getElem?
  intro j
  by_cases hj : j = k
  · subst hj
    by_cases hl : j < n
    · rw [List.getElem?_set_self (by simpa using hl), h_fs_at hl, hv]
    · rw [List.getElem?_eq_none (by simpa using hl), List.getElem?_eq_none (by simpa using hl)]
  · rw [List.getElem?_set_ne (Ne.symm hj)]
    by_cases hl : j < n
    · rw [h_fs_at hl, h_fs_at hl, ho j hj]
    · rw [List.getElem?_eq_none (by simpa using hl), List.getElem?_eq_none (by simpa using hl)]
theorem h_sh_im {h : Hp_} {a k : Nat} {x : Int32} : h_sh (h_im h a k x) = h_sh h := rfl
theorem h_sh_lm {h : Hp_} {a k : Nat} {x : Int64} : h_sh (h_lm h a k x) = h_sh h := rfl
theorem h_sh_rm {h : Hp_} {a k : Nat} {x : Option Nat} : h_sh (h_rm h a k x) = h_sh h := rfl
theorem h_sh_iw {h : Hp_} {a : Nat} {f : Nat → Int32} : h_sh (h_iw h a f) = h_sh h := rfl
theorem h_sh_lw {h : Hp_} {a : Nat} {f : Nat → Int64} : h_sh (h_lw h a f) = h_sh h := rfl
theorem h_i_im {h : Hp_} {a k b j : Nat} {x : Int32} : h_i (h_im h a k x) b j = if b = a ∧ j = k then x else h_i h b j := by
  show (if b = a then upd (h.2.1 a) k x else h.2.1 b) j = _
  by_cases h1 : b = a
  · subst h1
    rw [if_pos rfl]
    show (if j = k then x else h.2.1 b j) = _
    by_cases h2 : j = k
    · rw [if_pos h2, if_pos ⟨rfl, h2⟩]
    · rw [if_neg h2, if_neg (fun z => h2 z.2)]; rfl
  · rw [if_neg h1, if_neg (fun z => h1 z.1)]; rfl
theorem h_l_lm {h : Hp_} {a k b j : Nat} {x : Int64} : h_l (h_lm h a k x) b j = if b = a ∧ j = k then x else h_l h b j := by
  show (if b = a then vp_updL (h.2.2.1 a) k x else h.2.2.1 b) j = _
  by_cases h1 : b = a
  · subst h1
    rw [if_pos rfl]
    show (if j = k then x else h.2.2.1 b j) = _
    by_cases h2 : j = k
    · rw [if_pos h2, if_pos ⟨rfl, h2⟩]
    · rw [if_neg h2, if_neg (fun z => h2 z.2)]; rfl
  · rw [if_neg h1, if_neg (fun z => h1 z.1)]; rfl
theorem h_r_rm {h : Hp_} {a k b j : Nat} {x : Option Nat} : h_r (h_rm h a k x) b j = if b = a ∧ j = k then x else h_r h b j := by
  show (if b = a then va_up (h.2.2.2 a) k x else h.2.2.2 b) j = _
  by_cases h1 : b = a
  · subst h1
    rw [if_pos rfl]
    show (if j = k then x else h.2.2.2 b j) = _
    by_cases h2 : j = k
    · rw [if_pos h2, if_pos ⟨rfl, h2⟩]
    · rw [if_neg h2, if_neg (fun z => h2 z.2)]; rfl
  · rw [if_neg h1, if_neg (fun z => h1 z.1)]; rfl
theorem h_i_lm {h : Hp_} {a k : Nat} {x : Int64} : h_i (h_lm h a k x) = h_i h := rfl
theorem h_i_rm {h : Hp_} {a k : Nat} {x : Option Nat} : h_i (h_rm h a k x) = h_i h := rfl
theorem h_l_im {h : Hp_} {a k : Nat} {x : Int32} : h_l (h_im h a k x) = h_l h := rfl
theorem h_l_rm {h : Hp_} {a k : Nat} {x : Option Nat} : h_l (h_rm h a k x) = h_l h := rfl
theorem h_r_im {h : Hp_} {a k : Nat} {x : Int32} : h_r (h_im h a k x) = h_r h := rfl
theorem h_r_lm {h : Hp_} {a k : Nat} {x : Int64} : h_r (h_lm h a k x) = h_r h := rfl
theorem h_i_iw {h : Hp_} {a b : Nat} {f : Nat → Int32} : h_i (h_iw h a f) b = if b = a then f else h_i h b := rfl
/-- cells that a store leaves alone -/
theorem h_ce_i {cy : Nat → ClassId} {ad : Nat → Nat} {h : Hp_} {a b : Nat} {f : Nat → Int32} (hb : b ≠ a) : h_ce cy ad (h_iw h a f) b = h_ce cy ad h b := by
  have e : ∀ k, h_i (h_iw h a f) b k = h_i h b k := fun k => by rw [h_i_iw, if_neg hb]
  have e2 : h_i (h_iw h a f) b = h_i h b := funext e
  unfold h_ce
  rw [h_sh_iw]
  split
  · rename_i t n _
    have f1 : h_ar ad (h_iw h a f) b t = h_ar ad h b t := by unfold h_ar; rw [e2]; rfl
    have f2 : h_fv ad (h_iw h a f) b (t - 10) = h_fv ad h b (t - 10) := by funext k; unfold h_fv; rw [e k]; rfl
    rw [f1, f2]
  · rfl
theorem h_im_iw (h : Hp_) (a k : Nat) (x : Int32) : h_im h a k x = h_iw h a (upd (h_i h a) k x) := rfl
theorem h_lm_lw (h : Hp_) (a k : Nat) (x : Int64) : h_lm h a k x = h_lw h a (vp_updL (h_l h a) k x) := rfl
theorem h_l_lw {h : Hp_} {a b : Nat} {f : Nat → Int64} : h_l (h_lw h a f) b = if b = a then f else h_l h b := rfl
theorem h_ce_l {cy : Nat → ClassId} {ad : Nat → Nat} {h : Hp_} {a b : Nat} {f : Nat → Int64} (hb : b ≠ a) : h_ce cy ad (h_lw h a f) b = h_ce cy ad h b := by
  have e : ∀ k, h_l (h_lw h a f) b k = h_l h b k := fun k => by rw [h_l_lw, if_neg hb]
  have e2 : h_l (h_lw h a f) b = h_l h b := funext e
  unfold h_ce
  rw [h_sh_lw]
  split
  · rename_i t n _
    have f1 : h_ar ad (h_lw h a f) b t = h_ar ad h b t := by unfold h_ar; rw [e2]; rfl
    have f2 : h_fv ad (h_lw h a f) b (t - 10) = h_fv ad h b (t - 10) := by funext k; unfold h_fv; rw [e k]; rfl
    rw [f1, f2]
  · rfl
theorem h_ce_r {cy : Nat → ClassId} {ad : Nat → Nat} {h : Hp_} {a b k : Nat} {x : Option Nat} (hb : b ≠ a) : h_ce cy ad (h_rm h a k x) b = h_ce cy ad h b := by
  have e : ∀ j, h_r (h_rm h a k x) b j = h_r h b j := fun j => by rw [h_r_rm, if_neg (fun z => hb z.1)]
  have e2 : h_r (h_rm h a k x) b = h_r h b := funext e
  unfold h_ce
  rw [h_sh_rm]
  split
  · rename_i t n _
    have f1 : h_ar ad (h_rm h a k x) b t = h_ar ad h b t := by unfold h_ar; rw [e2]; rfl
    have f2 : h_fv ad (h_rm h a k x) b (t - 10) = h_fv ad h b (t - 10) := by funext j; unfold h_fv; rw [e j]; rfl
    rw [f1, f2]
  · rfl
theorem h_ce_arr {cy : Nat → ClassId} {ad : Nat → Nat} {h : Hp_} {a t n : Nat} (hs : h_sh h a = some (t, n)) (ht : t < 10) : h_ce cy ad h a = .inl (cy t, n, h_ar ad h a t) := by unfold h_ce; rw [hs]; simp [ht]
theorem h_ce_obj {cy : Nat → ClassId} {ad : Nat → Nat} {h : Hp_} {a ci n : Nat} (hs : h_sh h a = some (ci + 10, n)) : h_ce cy ad h a = .inr (ci, (List.range n).map (h_fv ad h a ci)) := by
  unfold h_ce
  rw [hs]
  have h1 : ¬ (ci + 10 < 10) := by omega
  simp [h1]
