section
/-! AW: from this frame, with this heap as the proofs see it, the method comes to an end with K -/
def h_tys (cy : Nat → ClassId) : List (ClassId × FieldType) := [(cy 0, .int), (cy 1, .boolean), (cy 2, .byte), (cy 3, .long), (cy 4, .object "CountyWatch$Constable")]
def h_nest : List (String × Nat × MethodName) := [("CountyWatch", 18, ⟨"CountyWatch$Reader", "<init>", "()V"⟩), ("CountyWatch", 25, ⟨"CountyWatch$Beats", "<init>", "()V"⟩), ("CountyWatch", 32, ⟨"CountyWatch$Rules", "<init>", "()V"⟩), ("CountyWatch", 48, ⟨"CountyWatch$Points", "<init>", "()V"⟩), ("CountyWatch", 55, ⟨"CountyWatch$Looks", "<init>", "()V"⟩), ("CountyWatch", 69, ⟨"CountyWatch$Goods", "<init>", "()V"⟩), ("CountyWatch", 76, ⟨"CountyWatch$Plans", "<init>", "()V"⟩), ("CountyWatch$Roads", 16, ⟨"CountyWatch", "isPlace", "(I)Z"⟩), ("CountyWatch$Reader", 43, ⟨"CountyWatch", "within", "(III)Z"⟩), ("CountyWatch$Looks", 59, ⟨"CountyWatch", "within", "(III)Z"⟩), ("CountyWatch$Payroll", 69, ⟨"CountyWatch", "within", "(III)Z"⟩), ("CountyWatch$Rules", 45, ⟨"CountyWatch", "within", "(III)Z"⟩), ("CountyWatch$Cases", 71, ⟨"CountyWatch", "within", "(III)Z"⟩), ("CountyWatch$Beats", 50, ⟨"CountyWatch", "within", "(III)Z"⟩), ("CountyWatch$Plans", 79, ⟨"CountyWatch", "within", "(III)Z"⟩)]
def cx_ (dC : Nat → ClassId) (dI : Nat → Nat → Nat) (cy : Nat → ClassId) (U : State) : Prop :=
  va_K (dC, dI) kl_ (h_tys cy) U ∧ (∀ w ∈ h_nest, va_Nw (.methodLinkNest w.1 w.2.1 w.2.2 "CountyWatch") U) ∧ va_AO "CountyWatch$Constable" U
/-- the texts: 0 "", 1 "kwphdcnet", 2 "cymxta", 3 "xnrt"; who names them, by which entry -/
def h_strs : List (String × Nat × String × Nat) := [("CountyWatch$Reader", 15, "", 0), ("CountyWatch$Reader", 108, "kwphdcnet", 1), ("CountyWatch$Reader", 110, "cymxta", 2), ("CountyWatch$Reader", 124, "xnrt", 3), ("CountyWatch", 376, "kwphdcnet", 1), ("CountyWatchModel", 565, "kwphdcnet", 1)]
def tx_ (ad adV : Nat → Nat) (A : Nat → Prop) (U : State) (H : Heap) : Prop :=
  vk_S 4 [0, 9, 6, 4] [[], [107, 119, 112, 104, 100, 99, 110, 101, 116], [99, 121, 109, 120, 116, 97], [120, 110, 114, 116]] (fun i => ad (1000 + i)) adV A U H ∧ (∀ i : Nat, ad (2000 + i) = adV i) ∧ va_Z "java/lang/String" "COMPACT_STRINGS" "Z" (.int 1) A U H ∧ (va_Z "jdk/internal/util/Preconditions" "SIOOBE_FORMATTER" "Ljava/util/function/BiFunction;" .null A U H ∨ va_Z "jdk/internal/util/Preconditions" "SIOOBE_FORMATTER" "Ljava/util/function/BiFunction;" (.ref (ad 2100)) A U H)
theorem tx_.moved {ad adV : Nat → Nat} {A : Nat → Prop} {u U : State} {H : Heap} (hvm : u.vm.Alike U.vm) (h : tx_ ad adV A u H) : tx_ ad adV A U H :=
  ⟨vk_S.moved hvm h.1, h.2.1, va_Z.moved hvm h.2.2.1, h.2.2.2.imp (va_Z.moved hvm) (va_Z.moved hvm)⟩
theorem tx_.kept {ad adV : Nat → Nat} {A : Nat → Prop} {U : State} {H H1 : Heap} (h : tx_ ad adV A U H) (hq : ∀ a : Nat, a < H.size → ¬ A a → H1[a]? = H[a]?) : tx_ ad adV A U H1 :=
  ⟨vk_S.kept h.1 hq, h.2.1, va_Z.kept h.2.2.1 hq, h.2.2.2.imp (fun z => va_Z.kept z hq) (fun z => va_Z.kept z hq)⟩
theorem tx_.narrow {ad adV : Nat → Nat} {A B : Nat → Prop} {U : State} {H : Heap} (h : tx_ ad adV A U H) (hAB : ∀ q, B q → A q) : tx_ ad adV B U H :=
  ⟨vk_S.narrow h.1 hAB, h.2.1, va_Z.narrow h.2.2.1 hAB, h.2.2.2.imp (fun z => va_Z.narrow z hAB) (fun z => va_Z.narrow z hAB)⟩
def st_ (ad adV : Nat → Nat) (A : Nat → Prop) (U : State) : Prop :=
  tx_ ad adV A U U.heap ∧ ∀ r ∈ h_strs, vk_R r.1 r.2.1 r.2.2.1 (ad (1000 + r.2.2.2)) U
/-- the world: numbers of cells that there are, their addresses, what they hold -/
def wd_ (dC : Nat → ClassId) (dI : Nat → Nat → Nat) (cy : Nat → ClassId) (A : Nat → Prop) (ad : Nat → Nat) (dom : List Nat) (h : Hp_) (H : Heap) : Prop :=
  (dom.Nodup ∧ (∀ a, h_sh h a ≠ none ↔ a ∈ dom) ∧ (∀ a ∈ dom, a < 1000) ∧ ∀ b k c, h_r h b k = some c → c ∈ dom ∨ 1000 ≤ c) ∧ va_P (dC, dI) kl_ (h_W cy ad h dom) H ∧ va_D A (h_W cy ad h dom)
/-- a later world has the earlier one's cells, at their addresses -/
def ex_ (ad0 ad : Nat → Nat) (dom0 dom : List Nat) : Prop := (∀ a, a ∈ dom0 ∨ 1000 ≤ a → ad a = ad0 a) ∧ ∀ a ∈ dom0, a ∈ dom
def qq_ (K : Option Value → Hp_ → Prop) (dC : Nat → ClassId) (dI : Nat → Nat → Nat) (cy : Nat → ClassId) (A : Nat → Prop) (ad0 : Nat → Nat) (dom0 : List Nat) : Array Value → State → Outcome → State → Prop := fun _ s o t =>
  (∃ (v : Option Value) (h : Hp_) (ad : Nat → Nat) (dom : List Nat), o = .returned (v.map (h_cv ad)) ∧ K v h ∧ wd_ dC dI cy A ad dom h t.heap ∧ (∀ x, v = some x → h_ok dom x) ∧ ex_ ad0 ad dom0 dom) ∧ va_F A s t
/-- what stands while a method runs: the machine, the code, the words; extra facts X of the place (the law's script) -/
def fr_ (y : MethodName) (cc : ByteArray) (nL : Nat) (ret : Option FieldType) (p : Program) (s : State) (m : MethodId) (args : Array Value) (meth : Method) (c : Code) (dC : Nat → ClassId) (dI : Nat → Nat → Nat) (cy : Nat → ClassId) (A : Nat → Prop) : Prop :=
  p.tables.exec = Jvm.exec ∧ c.code = cc ∧ c.maxLocals = nL ∧ meth.sig.returnType = ret ∧ meth.locks = false ∧ s.vm.findClass y.cls = some m.cls ∧ meth.name = y.name ∧ (∀ w ∈ lw_g, w.before args s = true) ∧ cx_ dC dI cy s ∧ ∀ q, s.heap.size ≤ q → A q
/-- a method as it runs: extra facts of the place, its name, its bytes, its locals, what it answers, its room -/
abbrev Mc_ : Type := ((Nat → Nat) → (Nat → Prop) → State → Prop) × MethodName × ByteArray × Nat × Option FieldType × Room
abbrev mX (M : Mc_) := M.1
abbrev mY (M : Mc_) := M.2.1
abbrev mC (M : Mc_) := M.2.2.1
abbrev mN (M : Mc_) := M.2.2.2.1
abbrev mT (M : Mc_) := M.2.2.2.2.1
abbrev mR (M : Mc_) := M.2.2.2.2.2
/-- launches without stack traces -/
abbrev Ln_ : Type := { l : Launch // l.stackTraces = false }
def AW (M : Mc_) (kc ks : Nat) (pc : Nat) (lv : List (Nat × Value)) (st : List Value) (h : Hp_) (K : Option Value → Hp_ → Prop) : Prop :=
  ∀ (l : Ln_) (p : Program) (e : Env) (s : State) (m : MethodId) (args : Array Value) (below : List Frame) (meth : Method) (c : Code) (dC : Nat → ClassId) (dI : Nat → Nat → Nat) (cy : Nat → ClassId) (A : Nat → Prop) (ad0 adV ad : Nat → Nat) (dom0 dom : List Nat) (H : Heap) (locs : List Loc) (ls : Array Slot),
    fr_ (mY M) (mC M) (mN M) (mT M) p s m args meth c dC dI cy A → mX M ad A s → st_ ad adV A s → ex_ ad0 ad dom0 dom → wd_ dC dI cy A ad dom h H → va_S A s.heap H locs → lv_has ls (mN M) (lv.map (fun q => (q.1, h_cv ad q.2))) → (∀ q ∈ lv, h_ok dom q.2) → (∀ v ∈ st, h_ok dom v) →
    W p l.1 e (mR M) s m args below meth c H locs kc ks (MQ below (qq_ K dC dI cy A ad0 dom0) args s (mR M).cells (mR M).slots A) (F0 m pc ls (st.map (h_cv ad)))
section AWR
variable {M : Mc_} {kc ks pc : Nat} {lv : List (Nat × Value)} {st : List Value} {h : Hp_} {K : Option Value → Hp_ → Prop}
theorem ok_i {dom : List Nat} {x : Int32} : h_ok dom (.int x) := fun c h => by cases h
theorem ok_l {dom : List Nat} {x : Int64} : h_ok dom (.long x) := fun c h => by cases h
theorem ok_n {dom : List Nat} : h_ok dom .null := fun c h => by cases h
theorem ok_c {dom : List Nat} {v : Value} {st : List Value} (h : h_ok dom v) (hs : ∀ v ∈ st, h_ok dom v) : ∀ w ∈ v :: st, h_ok dom w := List.forall_mem_cons.mpr ⟨h, hs⟩
theorem ok_t {dom : List Nat} {v : Value} {st : List Value} (hs : ∀ w ∈ v :: st, h_ok dom w) : ∀ w ∈ st, h_ok dom w := (List.forall_mem_cons.mp hs).2
theorem ok_h {dom : List Nat} {v : Value} {st : List Value} (hs : ∀ w ∈ v :: st, h_ok dom w) : h_ok dom v := (List.forall_mem_cons.mp hs).1
theorem lv_fnd {lv : List (Nat × Value)} {i : Nat} {v : Value} (hq : (i, v) ∈ lv) {ad : Nat → Nat} {ls : Array Slot} {nL : Nat} (hl : lv_has ls nL (lv.map (fun q => (q.1, h_cv ad q.2)))) : ls[i]? = some (.val (h_cv ad v)) := hl.2.2 (i, h_cv ad v) (List.mem_map.mpr ⟨(i, v), hq, rfl⟩)
/-- a place to store to: the list by rising places -/
def lv_put (i : Nat) (v : Value) : List (Nat × Value) → List (Nat × Value)
  | [] => [(i, v)]
  | q :: t => if q.1 = i then (i, v) :: t else if i < q.1 then (i, v) :: q :: t else q :: lv_put i v t
theorem lv_put_mem {i : Nat} {v : Value} : ∀ {lv : List (Nat × Value)} {q : Nat × Value}, q ∈ lv_put i v lv → q = (i, v) ∨ q ∈ lv
  | [], q, h => by simp [lv_put] at h; exact Or.inl h
  | p :: t, q, h => by
    unfold lv_put at h
    split at h
    · rcases List.mem_cons.mp h with h | h
      · exact Or.inl h
      · exact Or.inr (List.mem_cons_of_mem _ h)
    · split at h
      · rcases List.mem_cons.mp h with h | h
        · exact Or.inl h
        · exact Or.inr h
      · rcases List.mem_cons.mp h with h | h
        · exact Or.inr (by rw [h]; exact List.mem_cons_self)
        · rcases lv_put_mem h with h | h
          · exact Or.inl h
          · exact Or.inr (List.mem_cons_of_mem _ h)
/-- places rise, nothing wide ahead of the place: then what is left of the old list is as the store leaves it -/
def lv_fit (i : Nat) (lv : List (Nat × Value)) : Bool := lv.all (fun q => !(q.1 + 1 == i && q.2.category == 2))
def lv_rise : List (Nat × Value) → Bool
  | [] => true
  | q :: t => t.all (fun r => decide (q.1 < r.1)) && lv_rise t
theorem lv_put_ne {i : Nat} {v : Value} : ∀ {lv : List (Nat × Value)}, lv_rise lv = true → ∀ {q : Nat × Value}, q ∈ lv_put i v lv → q = (i, v) ∨ (q ∈ lv ∧ q.1 ≠ i)
  | [], _, q, h => by simp [lv_put] at h; exact Or.inl h
  | p :: t, hr, q, h => by
    simp only [lv_rise, Bool.and_eq_true, List.all_eq_true, decide_eq_true_eq] at hr
    unfold lv_put at h
    split at h
    · rename_i hp
      rcases List.mem_cons.mp h with h | h
      · exact Or.inl h
      · exact Or.inr ⟨List.mem_cons_of_mem _ h, by have := hr.1 q h; omega⟩
    · rename_i hp
      split at h
      · rename_i hlt
        rcases List.mem_cons.mp h with h | h
        · exact Or.inl h
        · refine Or.inr ⟨h, ?_⟩
          rcases List.mem_cons.mp h with h | h
          · rw [h]; omega
          · have := hr.1 q h; omega
      · rcases List.mem_cons.mp h with h | h
        · exact Or.inr ⟨by rw [h]; exact List.mem_cons_self, by rw [h]; exact hp⟩
        · rcases lv_put_ne hr.2 h with h | h
          · exact Or.inl h
          · exact Or.inr ⟨List.mem_cons_of_mem _ h.1, h.2⟩
theorem cv_cat (ad : Nat → Nat) (v : Value) : (h_cv ad v).category = v.category := by cases v <;> rfl
theorem lv_put_has {i nL : Nat} {v : Value} {lv : List (Nat × Value)} {ad : Nat → Nat} {ls' : Array Slot} (hr : lv_rise lv = true) (hfit : lv_fit i lv = true)
    (h : lv_has ls' nL ((i, h_cv ad v) :: (lv.map (fun q => (q.1, h_cv ad q.2))).filter (fun q => !(q.1 == i) && !(q.1 + 1 == i && q.2.category == 2)))) : lv_has ls' nL ((lv_put i v lv).map (fun q => (q.1, h_cv ad q.2))) := by
  refine ⟨h.1, h.2.1, fun q hq => h.2.2 q ?_⟩
  obtain ⟨r, h1, rfl⟩ := List.mem_map.mp hq
  rcases lv_put_ne hr h1 with h2 | ⟨h2, h3⟩
  · subst h2; exact List.mem_cons_self
  · refine List.mem_cons_of_mem _ (List.mem_filter.mpr ⟨List.mem_map.mpr ⟨r, h2, rfl⟩, ?_⟩)
    have h4 := List.all_eq_true.mp hfit r h2
    simp only [cv_cat]
    simp only [Bool.and_eq_true, h4, and_true]
    simpa using h3
theorem aw_iconst {n : Int} {v : Int32} (hd : decode (mC M) pc = .ok (.iconst n, 1)) (hv : Int32.ofInt n = v) (k : AW M kc ks (pc + 1) lv (.int v :: st) h K) : AW M kc ks pc lv st h K := by
  intro l p e s m args below meth c dC dI cy A ad0 adV ad dom0 dom H locs ls hf hX hT hE hW hS hl ho hs
  exact lv_iconst hf.1 hf.2.1 hd hv (k l p e s m args below meth c dC dI cy A ad0 adV ad dom0 dom H locs ls hf hX hT hE hW hS hl ho (ok_c ok_i hs))
theorem aw_bipush {n : Int} {v : Int32} (hd : decode (mC M) pc = .ok (.bipush n, 2)) (hv : (Int8.ofInt n).toInt32 = v) (k : AW M kc ks (pc + 2) lv (.int v :: st) h K) : AW M kc ks pc lv st h K := by
  intro l p e s m args below meth c dC dI cy A ad0 adV ad dom0 dom H locs ls hf hX hT hE hW hS hl ho hs
  exact lv_bipush hf.1 hf.2.1 hd hv (k l p e s m args below meth c dC dI cy A ad0 adV ad dom0 dom H locs ls hf hX hT hE hW hS hl ho (ok_c ok_i hs))
theorem aw_sipush {n : Int} {v : Int32} (hd : decode (mC M) pc = .ok (.sipush n, 3)) (hv : (Int16.ofInt n).toInt32 = v) (k : AW M kc ks (pc + 3) lv (.int v :: st) h K) : AW M kc ks pc lv st h K := by
  intro l p e s m args below meth c dC dI cy A ad0 adV ad dom0 dom H locs ls hf hX hT hE hW hS hl ho hs
  exact lv_sipush hf.1 hf.2.1 hd hv (k l p e s m args below meth c dC dI cy A ad0 adV ad dom0 dom H locs ls hf hX hT hE hW hS hl ho (ok_c ok_i hs))
theorem aw_lconst {n : Fin 2} {v : Int64} (hd : decode (mC M) pc = .ok (.lconst n, 1)) (hv : Int64.ofNat (n : Nat) = v) (k : AW M kc ks (pc + 1) lv (.long v :: st) h K) : AW M kc ks pc lv st h K := by
  intro l p e s m args below meth c dC dI cy A ad0 adV ad dom0 dom H locs ls hf hX hT hE hW hS hl ho hs
  exact lv_lconst hf.1 hf.2.1 hd hv (k l p e s m args below meth c dC dI cy A ad0 adV ad dom0 dom H locs ls hf hX hT hE hW hS hl ho (ok_c ok_l hs))
theorem aw_null  (hd : decode (mC M) pc = .ok (.aconst_null, 1)) (k : AW M kc ks (pc + 1) lv (.null :: st) h K) : AW M kc ks pc lv st h K := by
  intro l p e s m args below meth c dC dI cy A ad0 adV ad dom0 dom H locs ls hf hX hT hE hW hS hl ho hs
  exact lv_null hf.1 hf.2.1 hd (k l p e s m args below meth c dC dI cy A ad0 adV ad dom0 dom H locs ls hf hX hT hE hW hS hl ho (ok_c ok_n hs))
theorem aw_ldc {i : Nat} {v : Int32} (hd : decode (mC M) pc = .ok (.ldc i, 2)) (hw : Cond.constant (mY M).cls i v ∈ lw_g) (k : AW M kc ks (pc + 2) lv (.int v :: st) h K) : AW M kc ks pc lv st h K := by
  intro l p e s m args below meth c dC dI cy A ad0 adV ad dom0 dom H locs ls hf hX hT hE hW hS hl ho hs
  exact lv_ldc hf.1 hf.2.1 hf.2.2.2.2.2.1 (hf.2.2.2.2.2.2.2.1 _ hw) hd (k l p e s m args below meth c dC dI cy A ad0 adV ad dom0 dom H locs ls hf hX hT hE hW hS hl ho (ok_c ok_i hs))
theorem aw_ldcw {i : Nat} {v : Int32} (hd : decode (mC M) pc = .ok (.ldc_w i, 3)) (hw : Cond.constant (mY M).cls i v ∈ lw_g) (k : AW M kc ks (pc + 3) lv (.int v :: st) h K) : AW M kc ks pc lv st h K := by
  intro l p e s m args below meth c dC dI cy A ad0 adV ad dom0 dom H locs ls hf hX hT hE hW hS hl ho hs
  exact lv_ldcw hf.1 hf.2.1 hf.2.2.2.2.2.1 (hf.2.2.2.2.2.2.2.1 _ hw) hd (k l p e s m args below meth c dC dI cy A ad0 adV ad dom0 dom H locs ls hf hX hT hE hW hS hl ho (ok_c ok_i hs))
theorem aw_ldc2 {i : Nat} {v : Int64} (hd : decode (mC M) pc = .ok (.ldc2_w i, 3)) (hw : Cond.constantLong (mY M).cls i v ∈ lw_g) (k : AW M kc ks (pc + 3) lv (.long v :: st) h K) : AW M kc ks pc lv st h K := by
  intro l p e s m args below meth c dC dI cy A ad0 adV ad dom0 dom H locs ls hf hX hT hE hW hS hl ho hs
  exact lv_ldc2 hf.1 hf.2.1 hf.2.2.2.2.2.1 (hf.2.2.2.2.2.2.2.1 _ hw) hd (k l p e s m args below meth c dC dI cy A ad0 adV ad dom0 dom H locs ls hf hX hT hE hW hS hl ho (ok_c ok_l hs))
theorem aw_iload {i : Nat} {x : Int32}  (hd : decode (mC M) pc = .ok (.iload i, 2)) (j : Nat) (hj : lv[j]? = some (i, .int x)) (k : AW M kc ks (pc + 2) lv (.int x :: st) h K) : AW M kc ks pc lv st h K := by
  intro l p e s m args below meth c dC dI cy A ad0 adV ad dom0 dom H locs ls hf hX hT hE hW hS hl ho hs
  exact lv_iload hf.1 hf.2.1 hd  (lv_fnd (List.mem_of_getElem? hj) hl) (k l p e s m args below meth c dC dI cy A ad0 adV ad dom0 dom H locs ls hf hX hT hE hW hS hl ho (ok_c ok_i hs))
theorem aw_iload_n {i : Nat} {x : Int32} {z : Fin 4} (hz : (z : Nat) = i) (hd : decode (mC M) pc = .ok (.iload_n z, 1)) (j : Nat) (hj : lv[j]? = some (i, .int x)) (k : AW M kc ks (pc + 1) lv (.int x :: st) h K) : AW M kc ks pc lv st h K := by
  intro l p e s m args below meth c dC dI cy A ad0 adV ad dom0 dom H locs ls hf hX hT hE hW hS hl ho hs
  exact lv_iload_n hf.1 hf.2.1 hd hz (lv_fnd (List.mem_of_getElem? hj) hl) (k l p e s m args below meth c dC dI cy A ad0 adV ad dom0 dom H locs ls hf hX hT hE hW hS hl ho (ok_c ok_i hs))
theorem aw_lload {i : Nat} {x : Int64}  (hd : decode (mC M) pc = .ok (.lload i, 2)) (j : Nat) (hj : lv[j]? = some (i, .long x)) (k : AW M kc ks (pc + 2) lv (.long x :: st) h K) : AW M kc ks pc lv st h K := by
  intro l p e s m args below meth c dC dI cy A ad0 adV ad dom0 dom H locs ls hf hX hT hE hW hS hl ho hs
  exact lv_lload hf.1 hf.2.1 hd  (lv_fnd (List.mem_of_getElem? hj) hl) (k l p e s m args below meth c dC dI cy A ad0 adV ad dom0 dom H locs ls hf hX hT hE hW hS hl ho (ok_c ok_l hs))
theorem aw_lload_n {i : Nat} {x : Int64} {z : Fin 4} (hz : (z : Nat) = i) (hd : decode (mC M) pc = .ok (.lload_n z, 1)) (j : Nat) (hj : lv[j]? = some (i, .long x)) (k : AW M kc ks (pc + 1) lv (.long x :: st) h K) : AW M kc ks pc lv st h K := by
  intro l p e s m args below meth c dC dI cy A ad0 adV ad dom0 dom H locs ls hf hX hT hE hW hS hl ho hs
  exact lv_lload_n hf.1 hf.2.1 hd hz (lv_fnd (List.mem_of_getElem? hj) hl) (k l p e s m args below meth c dC dI cy A ad0 adV ad dom0 dom H locs ls hf hX hT hE hW hS hl ho (ok_c ok_l hs))
theorem aw_aload {i : Nat} {x : Nat}  (hd : decode (mC M) pc = .ok (.aload i, 2)) (j : Nat) (hj : lv[j]? = some (i, .ref x)) (k : AW M kc ks (pc + 2) lv (.ref x :: st) h K) : AW M kc ks pc lv st h K := by
  intro l p e s m args below meth c dC dI cy A ad0 adV ad dom0 dom H locs ls hf hX hT hE hW hS hl ho hs
  exact lv_aload hf.1 hf.2.1 hd  (lv_fnd (List.mem_of_getElem? hj) hl) (k l p e s m args below meth c dC dI cy A ad0 adV ad dom0 dom H locs ls hf hX hT hE hW hS hl ho (ok_c (ho _ (List.mem_of_getElem? hj)) hs))
theorem aw_aloadN {i : Nat}  (hd : decode (mC M) pc = .ok (.aload i, 2)) (j : Nat) (hj : lv[j]? = some (i, .null)) (k : AW M kc ks (pc + 2) lv (.null :: st) h K) : AW M kc ks pc lv st h K := by
  intro l p e s m args below meth c dC dI cy A ad0 adV ad dom0 dom H locs ls hf hX hT hE hW hS hl ho hs
  exact lv_aloadN hf.1 hf.2.1 hd  (lv_fnd (List.mem_of_getElem? hj) hl) (k l p e s m args below meth c dC dI cy A ad0 adV ad dom0 dom H locs ls hf hX hT hE hW hS hl ho (ok_c ok_n hs))
theorem aw_aload_n {i : Nat} {x : Nat} {z : Fin 4} (hz : (z : Nat) = i) (hd : decode (mC M) pc = .ok (.aload_n z, 1)) (j : Nat) (hj : lv[j]? = some (i, .ref x)) (k : AW M kc ks (pc + 1) lv (.ref x :: st) h K) : AW M kc ks pc lv st h K := by
  intro l p e s m args below meth c dC dI cy A ad0 adV ad dom0 dom H locs ls hf hX hT hE hW hS hl ho hs
  exact lv_aload_n hf.1 hf.2.1 hd hz (lv_fnd (List.mem_of_getElem? hj) hl) (k l p e s m args below meth c dC dI cy A ad0 adV ad dom0 dom H locs ls hf hX hT hE hW hS hl ho (ok_c (ho _ (List.mem_of_getElem? hj)) hs))
theorem aw_aload_nN {i : Nat} {z : Fin 4} (hz : (z : Nat) = i) (hd : decode (mC M) pc = .ok (.aload_n z, 1)) (j : Nat) (hj : lv[j]? = some (i, .null)) (k : AW M kc ks (pc + 1) lv (.null :: st) h K) : AW M kc ks pc lv st h K := by
  intro l p e s m args below meth c dC dI cy A ad0 adV ad dom0 dom H locs ls hf hX hT hE hW hS hl ho hs
  exact lv_aload_nN hf.1 hf.2.1 hd hz (lv_fnd (List.mem_of_getElem? hj) hl) (k l p e s m args below meth c dC dI cy A ad0 adV ad dom0 dom H locs ls hf hX hT hE hW hS hl ho (ok_c ok_n hs))
theorem aw_istore {i : Nat} {x : Int32}  (lv' : List (Nat × Value)) (hd : decode (mC M) pc = .ok (.istore i, 2)) (hn : i < mN M) (hr : (lv_rise lv && lv_fit i lv) = true) (hp : lv_put i (.int x) lv = lv') (k : AW M kc ks (pc + 2) lv' st h K) : AW M kc ks pc lv (.int x :: st) h K := by
  intro l p e s m args below meth c dC dI cy A ad0 adV ad dom0 dom H locs ls hf hX hT hE hW hS hl ho hs
  rw [Bool.and_eq_true] at hr
  subst hp
  refine lv_istore hf.1 hf.2.1 hd  hl hn rfl (fun ls' hl' => ?_)
  refine k l p e s m args below meth c dC dI cy A ad0 adV ad dom0 dom H locs ls' hf hX hT hE hW hS (lv_put_has (v := .int x) hr.1 hr.2 hl') (fun q hq => ?_) (ok_t hs)
  rcases lv_put_mem hq with h1 | h1
  · rw [h1]; exact ok_i
  · exact ho q h1
theorem aw_istore_n {i : Nat} {x : Int32} {z : Fin 4} (hz : (z : Nat) = i) (lv' : List (Nat × Value)) (hd : decode (mC M) pc = .ok (.istore_n z, 1)) (hn : i < mN M) (hr : (lv_rise lv && lv_fit i lv) = true) (hp : lv_put i (.int x) lv = lv') (k : AW M kc ks (pc + 1) lv' st h K) : AW M kc ks pc lv (.int x :: st) h K := by
  intro l p e s m args below meth c dC dI cy A ad0 adV ad dom0 dom H locs ls hf hX hT hE hW hS hl ho hs
  rw [Bool.and_eq_true] at hr
  subst hp
  refine lv_istore_n hf.1 hf.2.1 hd hz hl hn rfl (fun ls' hl' => ?_)
  refine k l p e s m args below meth c dC dI cy A ad0 adV ad dom0 dom H locs ls' hf hX hT hE hW hS (lv_put_has (v := .int x) hr.1 hr.2 hl') (fun q hq => ?_) (ok_t hs)
  rcases lv_put_mem hq with h1 | h1
  · rw [h1]; exact ok_i
  · exact ho q h1
theorem aw_astore {i : Nat} {x : Nat}  (lv' : List (Nat × Value)) (hd : decode (mC M) pc = .ok (.astore i, 2)) (hn : i < mN M) (hr : (lv_rise lv && lv_fit i lv) = true) (hp : lv_put i (.ref x) lv = lv') (k : AW M kc ks (pc + 2) lv' st h K) : AW M kc ks pc lv (.ref x :: st) h K := by
  intro l p e s m args below meth c dC dI cy A ad0 adV ad dom0 dom H locs ls hf hX hT hE hW hS hl ho hs
  rw [Bool.and_eq_true] at hr
  subst hp
  refine lv_astore hf.1 hf.2.1 hd  hl hn rfl (fun ls' hl' => ?_)
  refine k l p e s m args below meth c dC dI cy A ad0 adV ad dom0 dom H locs ls' hf hX hT hE hW hS (lv_put_has (v := .ref x) hr.1 hr.2 hl') (fun q hq => ?_) (ok_t hs)
  rcases lv_put_mem hq with h1 | h1
  · rw [h1]; exact ok_h hs
  · exact ho q h1
theorem aw_astore_n {i : Nat} {x : Nat} {z : Fin 4} (hz : (z : Nat) = i) (lv' : List (Nat × Value)) (hd : decode (mC M) pc = .ok (.astore_n z, 1)) (hn : i < mN M) (hr : (lv_rise lv && lv_fit i lv) = true) (hp : lv_put i (.ref x) lv = lv') (k : AW M kc ks (pc + 1) lv' st h K) : AW M kc ks pc lv (.ref x :: st) h K := by
  intro l p e s m args below meth c dC dI cy A ad0 adV ad dom0 dom H locs ls hf hX hT hE hW hS hl ho hs
  rw [Bool.and_eq_true] at hr
  subst hp
  refine lv_astore_n hf.1 hf.2.1 hd hz hl hn rfl (fun ls' hl' => ?_)
  refine k l p e s m args below meth c dC dI cy A ad0 adV ad dom0 dom H locs ls' hf hX hT hE hW hS (lv_put_has (v := .ref x) hr.1 hr.2 hl') (fun q hq => ?_) (ok_t hs)
  rcases lv_put_mem hq with h1 | h1
  · rw [h1]; exact ok_h hs
  · exact ho q h1
theorem aw_astoreN {i : Nat}   (lv' : List (Nat × Value)) (hd : decode (mC M) pc = .ok (.astore i, 2)) (hn : i < mN M) (hr : (lv_rise lv && lv_fit i lv) = true) (hp : lv_put i (.null) lv = lv') (k : AW M kc ks (pc + 2) lv' st h K) : AW M kc ks pc lv (.null :: st) h K := by
  intro l p e s m args below meth c dC dI cy A ad0 adV ad dom0 dom H locs ls hf hX hT hE hW hS hl ho hs
  rw [Bool.and_eq_true] at hr
  subst hp
  refine lv_astoreN hf.1 hf.2.1 hd  hl hn rfl (fun ls' hl' => ?_)
  refine k l p e s m args below meth c dC dI cy A ad0 adV ad dom0 dom H locs ls' hf hX hT hE hW hS (lv_put_has (v := .null) hr.1 hr.2 hl') (fun q hq => ?_) (ok_t hs)
  rcases lv_put_mem hq with h1 | h1
  · rw [h1]; exact ok_n
  · exact ho q h1
theorem aw_astore_nN {i : Nat}  {z : Fin 4} (hz : (z : Nat) = i) (lv' : List (Nat × Value)) (hd : decode (mC M) pc = .ok (.astore_n z, 1)) (hn : i < mN M) (hr : (lv_rise lv && lv_fit i lv) = true) (hp : lv_put i (.null) lv = lv') (k : AW M kc ks (pc + 1) lv' st h K) : AW M kc ks pc lv (.null :: st) h K := by
  intro l p e s m args below meth c dC dI cy A ad0 adV ad dom0 dom H locs ls hf hX hT hE hW hS hl ho hs
  rw [Bool.and_eq_true] at hr
  subst hp
  refine lv_astore_nN hf.1 hf.2.1 hd hz hl hn rfl (fun ls' hl' => ?_)
  refine k l p e s m args below meth c dC dI cy A ad0 adV ad dom0 dom H locs ls' hf hX hT hE hW hS (lv_put_has (v := .null) hr.1 hr.2 hl') (fun q hq => ?_) (ok_t hs)
  rcases lv_put_mem hq with h1 | h1
  · rw [h1]; exact ok_n
  · exact ho q h1
theorem lv_put_hasL {i nL : Nat} {v : Value} {lv : List (Nat × Value)} {ad : Nat → Nat} {ls' : Array Slot} (hr : lv_rise lv = true) (hfit : lv_fit i lv = true) (hfit2 : lv.all (fun q => !(q.1 == i + 1)) = true)
    (h : lv_has ls' nL ((i, h_cv ad v) :: (lv.map (fun q => (q.1, h_cv ad q.2))).filter (fun q => !(q.1 == i) && (!(q.1 == i + 1) && !(q.1 + 1 == i && q.2.category == 2))))) : lv_has ls' nL ((lv_put i v lv).map (fun q => (q.1, h_cv ad q.2))) := by
  refine ⟨h.1, h.2.1, fun q hq => h.2.2 q ?_⟩
  obtain ⟨r, h1, rfl⟩ := List.mem_map.mp hq
  rcases lv_put_ne hr h1 with h2 | ⟨h2, h3⟩
  · subst h2; exact List.mem_cons_self
  · refine List.mem_cons_of_mem _ (List.mem_filter.mpr ⟨List.mem_map.mpr ⟨r, h2, rfl⟩, ?_⟩)
    have h4 := List.all_eq_true.mp hfit r h2
    have h5 := List.all_eq_true.mp hfit2 r h2
    simp only [cv_cat]
    simp only [Bool.and_eq_true, h4, h5, and_true]
    simpa using h3
theorem aw_lstore {i : Nat} {x : Int64}  (lv' : List (Nat × Value)) (hd : decode (mC M) pc = .ok (.lstore i, 2)) (hn : i + 1 < mN M) (hr : (lv_rise lv && lv_fit i lv && lv.all (fun q => !(q.1 == i + 1))) = true) (hp : lv_put i (.long x) lv = lv') (k : AW M kc ks (pc + 2) lv' st h K) : AW M kc ks pc lv (.long x :: st) h K := by
  intro l p e s m args below meth c dC dI cy A ad0 adV ad dom0 dom H locs ls hf hX hT hE hW hS hl ho hs
  rw [Bool.and_eq_true, Bool.and_eq_true] at hr
  subst hp
  refine lv_lstore hf.1 hf.2.1 hd  hl hn rfl (fun ls' hl' => ?_)
  refine k l p e s m args below meth c dC dI cy A ad0 adV ad dom0 dom H locs ls' hf hX hT hE hW hS (lv_put_hasL (v := .long x) hr.1.1 hr.1.2 hr.2 hl') (fun q hq => ?_) (ok_t hs)
  rcases lv_put_mem hq with h1 | h1
  · rw [h1]; exact ok_l
  · exact ho q h1
theorem aw_lstore_n {i : Nat} {x : Int64} {z : Fin 4} (hz : (z : Nat) = i) (lv' : List (Nat × Value)) (hd : decode (mC M) pc = .ok (.lstore_n z, 1)) (hn : i + 1 < mN M) (hr : (lv_rise lv && lv_fit i lv && lv.all (fun q => !(q.1 == i + 1))) = true) (hp : lv_put i (.long x) lv = lv') (k : AW M kc ks (pc + 1) lv' st h K) : AW M kc ks pc lv (.long x :: st) h K := by
  intro l p e s m args below meth c dC dI cy A ad0 adV ad dom0 dom H locs ls hf hX hT hE hW hS hl ho hs
  rw [Bool.and_eq_true, Bool.and_eq_true] at hr
  subst hp
  refine lv_lstore_n hf.1 hf.2.1 hd hz hl hn rfl (fun ls' hl' => ?_)
  refine k l p e s m args below meth c dC dI cy A ad0 adV ad dom0 dom H locs ls' hf hX hT hE hW hS (lv_put_hasL (v := .long x) hr.1.1 hr.1.2 hr.2 hl') (fun q hq => ?_) (ok_t hs)
  rcases lv_put_mem hq with h1 | h1
  · rw [h1]; exact ok_l
  · exact ho q h1
theorem aw_iinc {i : Nat} {n : Int} {x v : Int32} (lv' : List (Nat × Value)) (hd : decode (mC M) pc = .ok (.iinc i n, 3)) (j : Nat) (hj : lv[j]? = some (i, .int x)) (hv : x + Int32.ofInt n = v) (hn : i < mN M) (hr : (lv_rise lv && lv_fit i lv) = true) (hp : lv_put i (.int v) lv = lv') (k : AW M kc ks (pc + 3) lv' st h K) : AW M kc ks pc lv st h K := by
  intro l p e s m args below meth c dC dI cy A ad0 adV ad dom0 dom H locs ls hf hX hT hE hW hS hl ho hs
  rw [Bool.and_eq_true] at hr
  subst hp
  refine lv_iinc (k := j) (x := x) hf.1 hf.2.1 hd hl (by rw [List.getElem?_map, hj]; rfl) hv hn rfl (fun ls' hl' => ?_)
  refine k l p e s m args below meth c dC dI cy A ad0 adV ad dom0 dom H locs ls' hf hX hT hE hW hS (lv_put_has (v := .int v) hr.1 hr.2 hl') (fun q hq => ?_) hs
  rcases lv_put_mem hq with h1 | h1
  · rw [h1]; exact ok_i
  · exact ho q h1
/-- fewer locals are told of, in another order -/
theorem aw_lv (lv' : List (Nat × Value)) (hm : ∀ q ∈ lv', q ∈ lv) (k : AW M kc ks pc lv' st h K) : AW M kc ks pc lv st h K := by
  intro l p e s m args below meth c dC dI cy A ad0 adV ad dom0 dom H locs ls hf hX hT hE hW hS hl ho hs
  refine k l p e s m args below meth c dC dI cy A ad0 adV ad dom0 dom H locs ls hf hX hT hE hW hS ⟨hl.1, hl.2.1, fun q hq => hl.2.2 q ?_⟩ (fun q hq => ho q (hm q hq)) hs
  obtain ⟨r, h1, rfl⟩ := List.mem_map.mp hq
  exact List.mem_map.mpr ⟨r, hm r h1, rfl⟩
theorem aw_iadd {a b : Int32} (hd : decode (mC M) pc = .ok (.iadd, 1)) (k : AW M kc ks (pc + 1) lv (.int (a + b) :: st) h K) : AW M kc ks pc lv (.int b :: .int a :: st) h K := by
  intro l p e s m args below meth c dC dI cy A ad0 adV ad dom0 dom H locs ls hf hX hT hE hW hS hl ho hs
  exact lv_iadd hf.1 hf.2.1 hd (k l p e s m args below meth c dC dI cy A ad0 adV ad dom0 dom H locs ls hf hX hT hE hW hS hl ho (ok_c ok_i (ok_t (ok_t hs))))
theorem aw_isub {a b : Int32} (hd : decode (mC M) pc = .ok (.isub, 1)) (k : AW M kc ks (pc + 1) lv (.int (a - b) :: st) h K) : AW M kc ks pc lv (.int b :: .int a :: st) h K := by
  intro l p e s m args below meth c dC dI cy A ad0 adV ad dom0 dom H locs ls hf hX hT hE hW hS hl ho hs
  exact lv_isub hf.1 hf.2.1 hd (k l p e s m args below meth c dC dI cy A ad0 adV ad dom0 dom H locs ls hf hX hT hE hW hS hl ho (ok_c ok_i (ok_t (ok_t hs))))
theorem aw_imul {a b : Int32} (hd : decode (mC M) pc = .ok (.imul, 1)) (k : AW M kc ks (pc + 1) lv (.int (a * b) :: st) h K) : AW M kc ks pc lv (.int b :: .int a :: st) h K := by
  intro l p e s m args below meth c dC dI cy A ad0 adV ad dom0 dom H locs ls hf hX hT hE hW hS hl ho hs
  exact lv_imul hf.1 hf.2.1 hd (k l p e s m args below meth c dC dI cy A ad0 adV ad dom0 dom H locs ls hf hX hT hE hW hS hl ho (ok_c ok_i (ok_t (ok_t hs))))
theorem aw_iand {a b : Int32} (hd : decode (mC M) pc = .ok (.iand, 1)) (k : AW M kc ks (pc + 1) lv (.int (a &&& b) :: st) h K) : AW M kc ks pc lv (.int b :: .int a :: st) h K := by
  intro l p e s m args below meth c dC dI cy A ad0 adV ad dom0 dom H locs ls hf hX hT hE hW hS hl ho hs
  exact lv_iand hf.1 hf.2.1 hd (k l p e s m args below meth c dC dI cy A ad0 adV ad dom0 dom H locs ls hf hX hT hE hW hS hl ho (ok_c ok_i (ok_t (ok_t hs))))
theorem aw_ior {a b : Int32} (hd : decode (mC M) pc = .ok (.ior, 1)) (k : AW M kc ks (pc + 1) lv (.int (a ||| b) :: st) h K) : AW M kc ks pc lv (.int b :: .int a :: st) h K := by
  intro l p e s m args below meth c dC dI cy A ad0 adV ad dom0 dom H locs ls hf hX hT hE hW hS hl ho hs
  exact lv_ior hf.1 hf.2.1 hd (k l p e s m args below meth c dC dI cy A ad0 adV ad dom0 dom H locs ls hf hX hT hE hW hS hl ho (ok_c ok_i (ok_t (ok_t hs))))
theorem aw_ixor {a b : Int32} (hd : decode (mC M) pc = .ok (.ixor, 1)) (k : AW M kc ks (pc + 1) lv (.int (a ^^^ b) :: st) h K) : AW M kc ks pc lv (.int b :: .int a :: st) h K := by
  intro l p e s m args below meth c dC dI cy A ad0 adV ad dom0 dom H locs ls hf hX hT hE hW hS hl ho hs
  exact lv_ixor hf.1 hf.2.1 hd (k l p e s m args below meth c dC dI cy A ad0 adV ad dom0 dom H locs ls hf hX hT hE hW hS hl ho (ok_c ok_i (ok_t (ok_t hs))))
theorem aw_ishl {a b : Int32} (hd : decode (mC M) pc = .ok (.ishl, 1)) (k : AW M kc ks (pc + 1) lv (.int (a <<< (b &&& 31)) :: st) h K) : AW M kc ks pc lv (.int b :: .int a :: st) h K := by
  intro l p e s m args below meth c dC dI cy A ad0 adV ad dom0 dom H locs ls hf hX hT hE hW hS hl ho hs
  exact lv_ishl hf.1 hf.2.1 hd (k l p e s m args below meth c dC dI cy A ad0 adV ad dom0 dom H locs ls hf hX hT hE hW hS hl ho (ok_c ok_i (ok_t (ok_t hs))))
theorem aw_ishr {a b : Int32} (hd : decode (mC M) pc = .ok (.ishr, 1)) (k : AW M kc ks (pc + 1) lv (.int (a >>> (b &&& 31)) :: st) h K) : AW M kc ks pc lv (.int b :: .int a :: st) h K := by
  intro l p e s m args below meth c dC dI cy A ad0 adV ad dom0 dom H locs ls hf hX hT hE hW hS hl ho hs
  exact lv_ishr hf.1 hf.2.1 hd (k l p e s m args below meth c dC dI cy A ad0 adV ad dom0 dom H locs ls hf hX hT hE hW hS hl ho (ok_c ok_i (ok_t (ok_t hs))))
theorem aw_idiv {a b : Int32} (hd : decode (mC M) pc = .ok (.idiv, 1)) (hz : ¬ b = 0) (k : AW M kc ks (pc + 1) lv (.int (a / b) :: st) h K) : AW M kc ks pc lv (.int b :: .int a :: st) h K := by
  intro l p e s m args below meth c dC dI cy A ad0 adV ad dom0 dom H locs ls hf hX hT hE hW hS hl ho hs
  exact lv_idiv hf.1 hf.2.1 hd hz (k l p e s m args below meth c dC dI cy A ad0 adV ad dom0 dom H locs ls hf hX hT hE hW hS hl ho (ok_c ok_i (ok_t (ok_t hs))))
theorem aw_irem {a b : Int32} (hd : decode (mC M) pc = .ok (.irem, 1)) (hz : ¬ b = 0) (k : AW M kc ks (pc + 1) lv (.int (a - a / b * b) :: st) h K) : AW M kc ks pc lv (.int b :: .int a :: st) h K := by
  intro l p e s m args below meth c dC dI cy A ad0 adV ad dom0 dom H locs ls hf hX hT hE hW hS hl ho hs
  exact lv_irem hf.1 hf.2.1 hd hz (k l p e s m args below meth c dC dI cy A ad0 adV ad dom0 dom H locs ls hf hX hT hE hW hS hl ho (ok_c ok_i (ok_t (ok_t hs))))
theorem aw_ineg {a : Int32} (hd : decode (mC M) pc = .ok (.ineg, 1)) (k : AW M kc ks (pc + 1) lv (.int (-a) :: st) h K) : AW M kc ks pc lv (.int a :: st) h K := by
  intro l p e s m args below meth c dC dI cy A ad0 adV ad dom0 dom H locs ls hf hX hT hE hW hS hl ho hs
  exact lv_ineg hf.1 hf.2.1 hd (k l p e s m args below meth c dC dI cy A ad0 adV ad dom0 dom H locs ls hf hX hT hE hW hS hl ho (ok_c ok_i (ok_t hs)))
theorem aw_iushr {a b : Int32} (hd : decode (mC M) pc = .ok (.iushr, 1)) (k : AW M kc ks (pc + 1) lv (.int ((a.toUInt32 >>> (b.toUInt32 &&& Int32.toUInt32 31)).toInt32) :: st) h K) : AW M kc ks pc lv (.int b :: .int a :: st) h K := by
  intro l p e s m args below meth c dC dI cy A ad0 adV ad dom0 dom H locs ls hf hX hT hE hW hS hl ho hs
  exact lv_iushr hf.1 hf.2.1 hd rfl (k l p e s m args below meth c dC dI cy A ad0 adV ad dom0 dom H locs ls hf hX hT hE hW hS hl ho (ok_c ok_i (ok_t (ok_t hs))))
theorem aw_ladd {a b : Int64} (hd : decode (mC M) pc = .ok (.ladd, 1)) (k : AW M kc ks (pc + 1) lv (.long (a + b) :: st) h K) : AW M kc ks pc lv (.long b :: .long a :: st) h K := by
  intro l p e s m args below meth c dC dI cy A ad0 adV ad dom0 dom H locs ls hf hX hT hE hW hS hl ho hs
  exact lv_ladd hf.1 hf.2.1 hd (k l p e s m args below meth c dC dI cy A ad0 adV ad dom0 dom H locs ls hf hX hT hE hW hS hl ho (ok_c ok_l (ok_t (ok_t hs))))
theorem aw_lsub {a b : Int64} (hd : decode (mC M) pc = .ok (.lsub, 1)) (k : AW M kc ks (pc + 1) lv (.long (a - b) :: st) h K) : AW M kc ks pc lv (.long b :: .long a :: st) h K := by
  intro l p e s m args below meth c dC dI cy A ad0 adV ad dom0 dom H locs ls hf hX hT hE hW hS hl ho hs
  exact lv_lsub hf.1 hf.2.1 hd (k l p e s m args below meth c dC dI cy A ad0 adV ad dom0 dom H locs ls hf hX hT hE hW hS hl ho (ok_c ok_l (ok_t (ok_t hs))))
theorem aw_lmul {a b : Int64} (hd : decode (mC M) pc = .ok (.lmul, 1)) (k : AW M kc ks (pc + 1) lv (.long (a * b) :: st) h K) : AW M kc ks pc lv (.long b :: .long a :: st) h K := by
  intro l p e s m args below meth c dC dI cy A ad0 adV ad dom0 dom H locs ls hf hX hT hE hW hS hl ho hs
  exact lv_lmul hf.1 hf.2.1 hd (k l p e s m args below meth c dC dI cy A ad0 adV ad dom0 dom H locs ls hf hX hT hE hW hS hl ho (ok_c ok_l (ok_t (ok_t hs))))
theorem aw_land {a b : Int64} (hd : decode (mC M) pc = .ok (.land, 1)) (k : AW M kc ks (pc + 1) lv (.long (a &&& b) :: st) h K) : AW M kc ks pc lv (.long b :: .long a :: st) h K := by
  intro l p e s m args below meth c dC dI cy A ad0 adV ad dom0 dom H locs ls hf hX hT hE hW hS hl ho hs
  exact lv_land hf.1 hf.2.1 hd (k l p e s m args below meth c dC dI cy A ad0 adV ad dom0 dom H locs ls hf hX hT hE hW hS hl ho (ok_c ok_l (ok_t (ok_t hs))))
theorem aw_lor {a b : Int64} (hd : decode (mC M) pc = .ok (.lor, 1)) (k : AW M kc ks (pc + 1) lv (.long (a ||| b) :: st) h K) : AW M kc ks pc lv (.long b :: .long a :: st) h K := by
  intro l p e s m args below meth c dC dI cy A ad0 adV ad dom0 dom H locs ls hf hX hT hE hW hS hl ho hs
  exact lv_lor hf.1 hf.2.1 hd (k l p e s m args below meth c dC dI cy A ad0 adV ad dom0 dom H locs ls hf hX hT hE hW hS hl ho (ok_c ok_l (ok_t (ok_t hs))))
theorem aw_lxor {a b : Int64} (hd : decode (mC M) pc = .ok (.lxor, 1)) (k : AW M kc ks (pc + 1) lv (.long (a ^^^ b) :: st) h K) : AW M kc ks pc lv (.long b :: .long a :: st) h K := by
  intro l p e s m args below meth c dC dI cy A ad0 adV ad dom0 dom H locs ls hf hX hT hE hW hS hl ho hs
  exact lv_lxor hf.1 hf.2.1 hd (k l p e s m args below meth c dC dI cy A ad0 adV ad dom0 dom H locs ls hf hX hT hE hW hS hl ho (ok_c ok_l (ok_t (ok_t hs))))
theorem aw_lshl {a : Int64} {b : Int32} (hd : decode (mC M) pc = .ok (.lshl, 1)) (k : AW M kc ks (pc + 1) lv (.long (a <<< (b.toInt64 &&& 63)) :: st) h K) : AW M kc ks pc lv (.int b :: .long a :: st) h K := by
  intro l p e s m args below meth c dC dI cy A ad0 adV ad dom0 dom H locs ls hf hX hT hE hW hS hl ho hs
  exact lv_lshl hf.1 hf.2.1 hd rfl (k l p e s m args below meth c dC dI cy A ad0 adV ad dom0 dom H locs ls hf hX hT hE hW hS hl ho (ok_c ok_l (ok_t (ok_t hs))))
theorem aw_lshr {a : Int64} {b : Int32} (hd : decode (mC M) pc = .ok (.lshr, 1)) (k : AW M kc ks (pc + 1) lv (.long (a >>> (b.toInt64 &&& 63)) :: st) h K) : AW M kc ks pc lv (.int b :: .long a :: st) h K := by
  intro l p e s m args below meth c dC dI cy A ad0 adV ad dom0 dom H locs ls hf hX hT hE hW hS hl ho hs
  exact lv_lshr hf.1 hf.2.1 hd rfl (k l p e s m args below meth c dC dI cy A ad0 adV ad dom0 dom H locs ls hf hX hT hE hW hS hl ho (ok_c ok_l (ok_t (ok_t hs))))
theorem aw_lcmp {a b : Int64} (hd : decode (mC M) pc = .ok (.lcmp, 1)) (k : AW M kc ks (pc + 1) lv (.int (lg_cmp a b) :: st) h K) : AW M kc ks pc lv (.long b :: .long a :: st) h K := by
  intro l p e s m args below meth c dC dI cy A ad0 adV ad dom0 dom H locs ls hf hX hT hE hW hS hl ho hs
  exact W.lcmp hf.1 hf.2.1 hd (k l p e s m args below meth c dC dI cy A ad0 adV ad dom0 dom H locs ls hf hX hT hE hW hS hl ho (ok_c ok_i (ok_t (ok_t hs))))
theorem aw_i2l {a : Int32} (hd : decode (mC M) pc = .ok (.i2l, 1)) (k : AW M kc ks (pc + 1) lv (.long a.toInt64 :: st) h K) : AW M kc ks pc lv (.int a :: st) h K := by
  intro l p e s m args below meth c dC dI cy A ad0 adV ad dom0 dom H locs ls hf hX hT hE hW hS hl ho hs
  exact lv_i2l hf.1 hf.2.1 hd rfl (k l p e s m args below meth c dC dI cy A ad0 adV ad dom0 dom H locs ls hf hX hT hE hW hS hl ho (ok_c ok_l (ok_t hs)))
theorem aw_l2i {a : Int64} (hd : decode (mC M) pc = .ok (.l2i, 1)) (k : AW M kc ks (pc + 1) lv (.int a.toInt32 :: st) h K) : AW M kc ks pc lv (.long a :: st) h K := by
  intro l p e s m args below meth c dC dI cy A ad0 adV ad dom0 dom H locs ls hf hX hT hE hW hS hl ho hs
  exact lv_l2i hf.1 hf.2.1 hd rfl (k l p e s m args below meth c dC dI cy A ad0 adV ad dom0 dom H locs ls hf hX hT hE hW hS hl ho (ok_c ok_i (ok_t hs)))
theorem aw_i2b {a : Int32} (hd : decode (mC M) pc = .ok (.i2b, 1)) (k : AW M kc ks (pc + 1) lv (.int a.toInt8.toInt32 :: st) h K) : AW M kc ks pc lv (.int a :: st) h K := by
  intro l p e s m args below meth c dC dI cy A ad0 adV ad dom0 dom H locs ls hf hX hT hE hW hS hl ho hs
  exact lv_i2b hf.1 hf.2.1 hd rfl (k l p e s m args below meth c dC dI cy A ad0 adV ad dom0 dom H locs ls hf hX hT hE hW hS hl ho (ok_c ok_i (ok_t hs)))
theorem aw_i2c {a : Int32} (hd : decode (mC M) pc = .ok (.i2c, 1)) (k : AW M kc ks (pc + 1) lv (.int (a.toUInt32 % 65536).toInt32 :: st) h K) : AW M kc ks pc lv (.int a :: st) h K := by
  intro l p e s m args below meth c dC dI cy A ad0 adV ad dom0 dom H locs ls hf hX hT hE hW hS hl ho hs
  exact lv_i2c hf.1 hf.2.1 hd rfl (k l p e s m args below meth c dC dI cy A ad0 adV ad dom0 dom H locs ls hf hX hT hE hW hS hl ho (ok_c ok_i (ok_t hs)))
theorem aw_dup {v : Value} (hd : decode (mC M) pc = .ok (.dup, 1)) (hc : v.category = 1) (k : AW M kc ks (pc + 1) lv (v :: v :: st) h K) : AW M kc ks pc lv (v :: st) h K := by
  intro l p e s m args below meth c dC dI cy A ad0 adV ad dom0 dom H locs ls hf hX hT hE hW hS hl ho hs
  exact lv_dup hf.1 hf.2.1 hd (by rw [cv_cat]; exact hc) (k l p e s m args below meth c dC dI cy A ad0 adV ad dom0 dom H locs ls hf hX hT hE hW hS hl ho (ok_c (ok_h hs) hs))
theorem aw_pop {v : Value} (hd : decode (mC M) pc = .ok (.pop, 1)) (hc : v.category = 1) (k : AW M kc ks (pc + 1) lv st h K) : AW M kc ks pc lv (v :: st) h K := by
  intro l p e s m args below meth c dC dI cy A ad0 adV ad dom0 dom H locs ls hf hX hT hE hW hS hl ho hs
  exact lv_pop hf.1 hf.2.1 hd (by rw [cv_cat]; exact hc) (k l p e s m args below meth c dC dI cy A ad0 adV ad dom0 dom H locs ls hf hX hT hE hW hS hl ho (ok_t hs))
theorem aw_dup2 {v w : Value} (hd : decode (mC M) pc = .ok (.dup2, 1)) (hc : v.category = 1 ∧ w.category = 1) (k : AW M kc ks (pc + 1) lv (v :: w :: v :: w :: st) h K) : AW M kc ks pc lv (v :: w :: st) h K := by
  intro l p e s m args below meth c dC dI cy A ad0 adV ad dom0 dom H locs ls hf hX hT hE hW hS hl ho hs
  exact lv_dup2_11 hf.1 hf.2.1 hd (by rw [cv_cat]; exact hc.1) (by rw [cv_cat]; exact hc.2) (k l p e s m args below meth c dC dI cy A ad0 adV ad dom0 dom H locs ls hf hX hT hE hW hS hl ho (ok_c (ok_h hs) (ok_c (ok_h (ok_t hs)) hs)))
theorem aw_dup_x1 {v w : Value} (hd : decode (mC M) pc = .ok (.dup_x1, 1)) (hc : v.category = 1 ∧ w.category = 1) (k : AW M kc ks (pc + 1) lv (v :: w :: v :: st) h K) : AW M kc ks pc lv (v :: w :: st) h K := by
  intro l p e s m args below meth c dC dI cy A ad0 adV ad dom0 dom H locs ls hf hX hT hE hW hS hl ho hs
  exact lv_dup_x1 hf.1 hf.2.1 hd (by rw [cv_cat]; exact hc.1) (by rw [cv_cat]; exact hc.2) (k l p e s m args below meth c dC dI cy A ad0 adV ad dom0 dom H locs ls hf hX hT hE hW hS hl ho (ok_c (ok_h hs) (ok_c (ok_h (ok_t hs)) (ok_c (ok_h hs) (ok_t (ok_t hs))))))
theorem aw_icmp_eq {a b : Int32} {off : Int} {tgt : Nat} (hd : decode (mC M) pc = .ok (.if_icmp .eq off, 3)) (ht : (pc : Int) + off = (tgt : Int)) (k1 : a = b → AW M kc ks tgt lv st h K) (k2 : ¬ a = b → AW M kc ks (pc + 3) lv st h K) : AW M kc ks pc lv (.int b :: .int a :: st) h K := by
  intro l p e s m args below meth c dC dI cy A ad0 adV ad dom0 dom H locs ls hf hX hT hE hW hS hl ho hs
  exact lv_icmp_eq hf.1 hf.2.1 hd ht (fun hc => (k1 hc l p e s m args below meth c dC dI cy A ad0 adV ad dom0 dom H locs ls hf hX hT hE hW hS hl ho (ok_t (ok_t hs)))) (fun hc => (k2 hc l p e s m args below meth c dC dI cy A ad0 adV ad dom0 dom H locs ls hf hX hT hE hW hS hl ho (ok_t (ok_t hs))))
theorem aw_icmp_ne {a b : Int32} {off : Int} {tgt : Nat} (hd : decode (mC M) pc = .ok (.if_icmp .ne off, 3)) (ht : (pc : Int) + off = (tgt : Int)) (k1 : ¬ a = b → AW M kc ks tgt lv st h K) (k2 : a = b → AW M kc ks (pc + 3) lv st h K) : AW M kc ks pc lv (.int b :: .int a :: st) h K := by
  intro l p e s m args below meth c dC dI cy A ad0 adV ad dom0 dom H locs ls hf hX hT hE hW hS hl ho hs
  exact lv_icmp_ne hf.1 hf.2.1 hd ht (fun hc => (k1 hc l p e s m args below meth c dC dI cy A ad0 adV ad dom0 dom H locs ls hf hX hT hE hW hS hl ho (ok_t (ok_t hs)))) (fun hc => (k2 hc l p e s m args below meth c dC dI cy A ad0 adV ad dom0 dom H locs ls hf hX hT hE hW hS hl ho (ok_t (ok_t hs))))
theorem aw_icmp_lt {a b : Int32} {off : Int} {tgt : Nat} (hd : decode (mC M) pc = .ok (.if_icmp .lt off, 3)) (ht : (pc : Int) + off = (tgt : Int)) (k1 : a < b → AW M kc ks tgt lv st h K) (k2 : ¬ a < b → AW M kc ks (pc + 3) lv st h K) : AW M kc ks pc lv (.int b :: .int a :: st) h K := by
  intro l p e s m args below meth c dC dI cy A ad0 adV ad dom0 dom H locs ls hf hX hT hE hW hS hl ho hs
  exact lv_icmp_lt hf.1 hf.2.1 hd ht (fun hc => (k1 hc l p e s m args below meth c dC dI cy A ad0 adV ad dom0 dom H locs ls hf hX hT hE hW hS hl ho (ok_t (ok_t hs)))) (fun hc => (k2 hc l p e s m args below meth c dC dI cy A ad0 adV ad dom0 dom H locs ls hf hX hT hE hW hS hl ho (ok_t (ok_t hs))))
theorem aw_icmp_ge {a b : Int32} {off : Int} {tgt : Nat} (hd : decode (mC M) pc = .ok (.if_icmp .ge off, 3)) (ht : (pc : Int) + off = (tgt : Int)) (k1 : b ≤ a → AW M kc ks tgt lv st h K) (k2 : ¬ b ≤ a → AW M kc ks (pc + 3) lv st h K) : AW M kc ks pc lv (.int b :: .int a :: st) h K := by
  intro l p e s m args below meth c dC dI cy A ad0 adV ad dom0 dom H locs ls hf hX hT hE hW hS hl ho hs
  exact lv_icmp_ge hf.1 hf.2.1 hd ht (fun hc => (k1 hc l p e s m args below meth c dC dI cy A ad0 adV ad dom0 dom H locs ls hf hX hT hE hW hS hl ho (ok_t (ok_t hs)))) (fun hc => (k2 hc l p e s m args below meth c dC dI cy A ad0 adV ad dom0 dom H locs ls hf hX hT hE hW hS hl ho (ok_t (ok_t hs))))
theorem aw_icmp_gt {a b : Int32} {off : Int} {tgt : Nat} (hd : decode (mC M) pc = .ok (.if_icmp .gt off, 3)) (ht : (pc : Int) + off = (tgt : Int)) (k1 : b < a → AW M kc ks tgt lv st h K) (k2 : ¬ b < a → AW M kc ks (pc + 3) lv st h K) : AW M kc ks pc lv (.int b :: .int a :: st) h K := by
  intro l p e s m args below meth c dC dI cy A ad0 adV ad dom0 dom H locs ls hf hX hT hE hW hS hl ho hs
  exact lv_icmp_gt hf.1 hf.2.1 hd ht (fun hc => (k1 hc l p e s m args below meth c dC dI cy A ad0 adV ad dom0 dom H locs ls hf hX hT hE hW hS hl ho (ok_t (ok_t hs)))) (fun hc => (k2 hc l p e s m args below meth c dC dI cy A ad0 adV ad dom0 dom H locs ls hf hX hT hE hW hS hl ho (ok_t (ok_t hs))))
theorem aw_icmp_le {a b : Int32} {off : Int} {tgt : Nat} (hd : decode (mC M) pc = .ok (.if_icmp .le off, 3)) (ht : (pc : Int) + off = (tgt : Int)) (k1 : a ≤ b → AW M kc ks tgt lv st h K) (k2 : ¬ a ≤ b → AW M kc ks (pc + 3) lv st h K) : AW M kc ks pc lv (.int b :: .int a :: st) h K := by
  intro l p e s m args below meth c dC dI cy A ad0 adV ad dom0 dom H locs ls hf hX hT hE hW hS hl ho hs
  exact lv_icmp_le hf.1 hf.2.1 hd ht (fun hc => (k1 hc l p e s m args below meth c dC dI cy A ad0 adV ad dom0 dom H locs ls hf hX hT hE hW hS hl ho (ok_t (ok_t hs)))) (fun hc => (k2 hc l p e s m args below meth c dC dI cy A ad0 adV ad dom0 dom H locs ls hf hX hT hE hW hS hl ho (ok_t (ok_t hs))))
theorem aw_if_eq {a : Int32} {off : Int} {tgt : Nat} (hd : decode (mC M) pc = .ok (.ifCond .eq off, 3)) (ht : (pc : Int) + off = (tgt : Int)) (k1 : a = 0 → AW M kc ks tgt lv st h K) (k2 : ¬ a = 0 → AW M kc ks (pc + 3) lv st h K) : AW M kc ks pc lv (.int a :: st) h K := by
  intro l p e s m args below meth c dC dI cy A ad0 adV ad dom0 dom H locs ls hf hX hT hE hW hS hl ho hs
  exact lv_if_eq hf.1 hf.2.1 hd ht (fun hc => (k1 hc l p e s m args below meth c dC dI cy A ad0 adV ad dom0 dom H locs ls hf hX hT hE hW hS hl ho (ok_t hs))) (fun hc => (k2 hc l p e s m args below meth c dC dI cy A ad0 adV ad dom0 dom H locs ls hf hX hT hE hW hS hl ho (ok_t hs)))
theorem aw_if_ne {a : Int32} {off : Int} {tgt : Nat} (hd : decode (mC M) pc = .ok (.ifCond .ne off, 3)) (ht : (pc : Int) + off = (tgt : Int)) (k1 : ¬ a = 0 → AW M kc ks tgt lv st h K) (k2 : a = 0 → AW M kc ks (pc + 3) lv st h K) : AW M kc ks pc lv (.int a :: st) h K := by
  intro l p e s m args below meth c dC dI cy A ad0 adV ad dom0 dom H locs ls hf hX hT hE hW hS hl ho hs
  exact lv_if_ne hf.1 hf.2.1 hd ht (fun hc => (k1 hc l p e s m args below meth c dC dI cy A ad0 adV ad dom0 dom H locs ls hf hX hT hE hW hS hl ho (ok_t hs))) (fun hc => (k2 hc l p e s m args below meth c dC dI cy A ad0 adV ad dom0 dom H locs ls hf hX hT hE hW hS hl ho (ok_t hs)))
theorem aw_if_lt {a : Int32} {off : Int} {tgt : Nat} (hd : decode (mC M) pc = .ok (.ifCond .lt off, 3)) (ht : (pc : Int) + off = (tgt : Int)) (k1 : a < 0 → AW M kc ks tgt lv st h K) (k2 : ¬ a < 0 → AW M kc ks (pc + 3) lv st h K) : AW M kc ks pc lv (.int a :: st) h K := by
  intro l p e s m args below meth c dC dI cy A ad0 adV ad dom0 dom H locs ls hf hX hT hE hW hS hl ho hs
  exact lv_if_lt hf.1 hf.2.1 hd ht (fun hc => (k1 hc l p e s m args below meth c dC dI cy A ad0 adV ad dom0 dom H locs ls hf hX hT hE hW hS hl ho (ok_t hs))) (fun hc => (k2 hc l p e s m args below meth c dC dI cy A ad0 adV ad dom0 dom H locs ls hf hX hT hE hW hS hl ho (ok_t hs)))
theorem aw_if_ge {a : Int32} {off : Int} {tgt : Nat} (hd : decode (mC M) pc = .ok (.ifCond .ge off, 3)) (ht : (pc : Int) + off = (tgt : Int)) (k1 : 0 ≤ a → AW M kc ks tgt lv st h K) (k2 : ¬ 0 ≤ a → AW M kc ks (pc + 3) lv st h K) : AW M kc ks pc lv (.int a :: st) h K := by
  intro l p e s m args below meth c dC dI cy A ad0 adV ad dom0 dom H locs ls hf hX hT hE hW hS hl ho hs
  exact lv_if_ge hf.1 hf.2.1 hd ht (fun hc => (k1 hc l p e s m args below meth c dC dI cy A ad0 adV ad dom0 dom H locs ls hf hX hT hE hW hS hl ho (ok_t hs))) (fun hc => (k2 hc l p e s m args below meth c dC dI cy A ad0 adV ad dom0 dom H locs ls hf hX hT hE hW hS hl ho (ok_t hs)))
theorem aw_if_gt {a : Int32} {off : Int} {tgt : Nat} (hd : decode (mC M) pc = .ok (.ifCond .gt off, 3)) (ht : (pc : Int) + off = (tgt : Int)) (k1 : 0 < a → AW M kc ks tgt lv st h K) (k2 : ¬ 0 < a → AW M kc ks (pc + 3) lv st h K) : AW M kc ks pc lv (.int a :: st) h K := by
  intro l p e s m args below meth c dC dI cy A ad0 adV ad dom0 dom H locs ls hf hX hT hE hW hS hl ho hs
  exact lv_if_gt hf.1 hf.2.1 hd ht (fun hc => (k1 hc l p e s m args below meth c dC dI cy A ad0 adV ad dom0 dom H locs ls hf hX hT hE hW hS hl ho (ok_t hs))) (fun hc => (k2 hc l p e s m args below meth c dC dI cy A ad0 adV ad dom0 dom H locs ls hf hX hT hE hW hS hl ho (ok_t hs)))
theorem aw_if_le {a : Int32} {off : Int} {tgt : Nat} (hd : decode (mC M) pc = .ok (.ifCond .le off, 3)) (ht : (pc : Int) + off = (tgt : Int)) (k1 : a ≤ 0 → AW M kc ks tgt lv st h K) (k2 : ¬ a ≤ 0 → AW M kc ks (pc + 3) lv st h K) : AW M kc ks pc lv (.int a :: st) h K := by
  intro l p e s m args below meth c dC dI cy A ad0 adV ad dom0 dom H locs ls hf hX hT hE hW hS hl ho hs
  exact lv_if_le hf.1 hf.2.1 hd ht (fun hc => (k1 hc l p e s m args below meth c dC dI cy A ad0 adV ad dom0 dom H locs ls hf hX hT hE hW hS hl ho (ok_t hs))) (fun hc => (k2 hc l p e s m args below meth c dC dI cy A ad0 adV ad dom0 dom H locs ls hf hX hT hE hW hS hl ho (ok_t hs)))
theorem aw_goto {off : Int} {tgt : Nat} (hd : decode (mC M) pc = .ok (.goto off, 3)) (ht : (pc : Int) + off = (tgt : Int)) (k : AW M kc ks tgt lv st h K) : AW M kc ks pc lv st h K := by
  intro l p e s m args below meth c dC dI cy A ad0 adV ad dom0 dom H locs ls hf hX hT hE hW hS hl ho hs
  exact lv_goto hf.1 hf.2.1 hd ht (k l p e s m args below meth c dC dI cy A ad0 adV ad dom0 dom H locs ls hf hX hT hE hW hS hl ho hs)
theorem aw_ifnull {a : Nat} {off : Int} (hd : decode (mC M) pc = .ok (.ifnull off, 3)) (k : AW M kc ks (pc + 3) lv st h K) : AW M kc ks pc lv (.ref a :: st) h K := by
  intro l p e s m args below meth c dC dI cy A ad0 adV ad dom0 dom H locs ls hf hX hT hE hW hS hl ho hs
  exact lv_ifnull hf.1 hf.2.1 hd (k l p e s m args below meth c dC dI cy A ad0 adV ad dom0 dom H locs ls hf hX hT hE hW hS hl ho (ok_t hs))
theorem aw_ifnonnull {a : Nat} {off : Int} {tgt : Nat} (hd : decode (mC M) pc = .ok (.ifnonnull off, 3)) (ht : (pc : Int) + off = (tgt : Int)) (k : AW M kc ks tgt lv st h K) : AW M kc ks pc lv (.ref a :: st) h K := by
  intro l p e s m args below meth c dC dI cy A ad0 adV ad dom0 dom H locs ls hf hX hT hE hW hS hl ho hs
  exact lv_ifnonnull hf.1 hf.2.1 hd ht (k l p e s m args below meth c dC dI cy A ad0 adV ad dom0 dom H locs ls hf hX hT hE hW hS hl ho (ok_t hs))
theorem aw_ifnullN {off : Int} {tgt : Nat} (hd : decode (mC M) pc = .ok (.ifnull off, 3)) (ht : (pc : Int) + off = (tgt : Int)) (k : AW M kc ks tgt lv st h K) : AW M kc ks pc lv (.null :: st) h K := by
  intro l p e s m args below meth c dC dI cy A ad0 adV ad dom0 dom H locs ls hf hX hT hE hW hS hl ho hs
  exact lv_ifnullN hf.1 hf.2.1 hd ht (k l p e s m args below meth c dC dI cy A ad0 adV ad dom0 dom H locs ls hf hX hT hE hW hS hl ho (ok_t hs))
theorem aw_ifnonnullN {off : Int} (hd : decode (mC M) pc = .ok (.ifnonnull off, 3)) (k : AW M kc ks (pc + 3) lv st h K) : AW M kc ks pc lv (.null :: st) h K := by
  intro l p e s m args below meth c dC dI cy A ad0 adV ad dom0 dom H locs ls hf hX hT hE hW hS hl ho hs
  exact lv_ifnonnullN hf.1 hf.2.1 hd (k l p e s m args below meth c dC dI cy A ad0 adV ad dom0 dom H locs ls hf hX hT hE hW hS hl ho (ok_t hs))
theorem aw_tableIn {dflt lo hi : Int} {offs : Array Int} {len : Nat} {x : Int32} {off : Int} {tgt : Nat} (hd : decode (mC M) pc = .ok (.tableswitch dflt lo hi offs, len)) (h1 : ¬ x.toInt < lo) (h2 : ¬ hi < x.toInt) (hoff : offs[(x.toInt - lo).toNat]? = some off) (ht : (pc : Int) + off = (tgt : Int)) (k : AW M kc ks tgt lv st h K) : AW M kc ks pc lv (.int x :: st) h K := by
  intro l p e s m args below meth c dC dI cy A ad0 adV ad dom0 dom H locs ls hf hX hT hE hW hS hl ho hs
  exact lv_tableIn hf.1 hf.2.1 hd h1 h2 hoff ht (k l p e s m args below meth c dC dI cy A ad0 adV ad dom0 dom H locs ls hf hX hT hE hW hS hl ho (ok_t hs))
theorem aw_tableOut {dflt lo hi : Int} {offs : Array Int} {len : Nat} {x : Int32} {tgt : Nat} (hd : decode (mC M) pc = .ok (.tableswitch dflt lo hi offs, len)) (h1 : x.toInt < lo ∨ hi < x.toInt) (ht : (pc : Int) + dflt = (tgt : Int)) (k : AW M kc ks tgt lv st h K) : AW M kc ks pc lv (.int x :: st) h K := by
  intro l p e s m args below meth c dC dI cy A ad0 adV ad dom0 dom H locs ls hf hX hT hE hW hS hl ho hs
  exact lv_tableOut hf.1 hf.2.1 hd h1 ht (k l p e s m args below meth c dC dI cy A ad0 adV ad dom0 dom H locs ls hf hX hT hE hW hS hl ho (ok_t hs))
theorem aw_lookup {dflt : Int} {ps : Array (Int × Int)} {len : Nat} {x : Int32} {off : Int} {tgt : Nat} (hd : decode (mC M) pc = .ok (.lookupswitch dflt ps, len)) (hp : (ps.toList.zip (ps.toList.drop 1)).all (fun (a, next) => a.1 < next.1) = true) (hoff : Op.lookupswitch.offset ps.toList dflt x.toInt = off) (ht : (pc : Int) + off = (tgt : Int)) (k : AW M kc ks tgt lv st h K) : AW M kc ks pc lv (.int x :: st) h K := by
  intro l p e s m args below meth c dC dI cy A ad0 adV ad dom0 dom H locs ls hf hX hT hE hW hS hl ho hs
  exact lv_lookup hf.1 hf.2.1 hd hp hoff ht (k l p e s m args below meth c dC dI cy A ad0 adV ad dom0 dom H locs ls hf hX hT hE hW hS hl ho (ok_t hs))
end AWR
end
section
/-! fields and rows -/
def h_dv : Nat → Value
  | 0 => .int 0
  | 1 => .long 0
  | _ => .null
def kc_ (ci : Nat) (C : String) (T : u_T) (N : Nat) : Prop := kl_[ci]? = some (C, T, N) ∧ (∀ w ∈ u_ws C T N, w ∈ lw_g) ∧ (∀ k, k < N → parseFieldDescriptor (T k).2.2.1 = some (h_tyc ci k)) ∧ (∀ a, a < N → ∀ b, b < N → a ≠ b → (T a).2.1 ≠ (T b).2.1) ∧ ∀ k, k < N → defaultValue (h_tyc ci k) = h_dv (h_kd (h_tyc ci k))
theorem kc_0 : kc_ 0 RX0 TX0 4 := ⟨rfl, iX0, tyX0_ok, nmX0, by decide +kernel⟩
theorem kc_1 : kc_ 1 RX1 TX1 16 := ⟨rfl, iX1, tyX1_ok, nmX1, by decide +kernel⟩
theorem kc_2 : kc_ 2 RX2 TX2 17 := ⟨rfl, iX2, tyX2_ok, nmX2, by decide +kernel⟩
theorem kc_3 : kc_ 3 RX3 TX3 11 := ⟨rfl, iX3, tyX3_ok, nmX3, by decide +kernel⟩
theorem kc_4 : kc_ 4 RX4 TX4 17 := ⟨rfl, iX4, tyX4_ok, nmX4, by decide +kernel⟩
theorem kc_5 : kc_ 5 RX5 TX5 16 := ⟨rfl, iX5, tyX5_ok, nmX5, by decide +kernel⟩
theorem kc_6 : kc_ 6 RX6 TX6 20 := ⟨rfl, iX6, tyX6_ok, nmX6, by decide +kernel⟩
theorem kc_7 : kc_ 7 RX7 TX7 12 := ⟨rfl, iX7, tyX7_ok, nmX7, by decide +kernel⟩
theorem kc_8 : kc_ 8 RX8 TX8 10 := ⟨rfl, iX8, tyX8_ok, nmX8, by decide +kernel⟩
theorem kc_9 : kc_ 9 RX9 TX9 2 := ⟨rfl, iX9, tyX9_ok, nmX9, by decide +kernel⟩
theorem kc_10 : kc_ 10 RX10 TX10 6 := ⟨rfl, iX10, tyX10_ok, nmX10, by decide +kernel⟩
theorem kc_11 : kc_ 11 RX11 TX11 16 := ⟨rfl, iX11, tyX11_ok, nmX11, by decide +kernel⟩
theorem kc_12 : kc_ 12 RX12 TX12 131 := ⟨rfl, iX12, tyX12_ok, nmX12, by decide +kernel⟩
section AWH
variable {M : Mc_} {kc ks pc : Nat} {lv : List (Nat × Value)} {st : List Value} {h : Hp_} {K : Option Value → Hp_ → Prop}
theorem wd_in {dC : Nat → ClassId} {dI : Nat → Nat → Nat} {cy : Nat → ClassId} {A : Nat → Prop} {ad : Nat → Nat} {dom : List Nat} {h : Hp_} {H : Heap} {a : Nat} {x : Nat × Nat} (hW : wd_ dC dI cy A ad dom h H) (hs : h_sh h a = some x) : a ∈ dom := (hW.1.2.1 a).mp (by rw [hs]; exact fun z => by cases z)
theorem fv_i {ad : Nat → Nat} {h : Hp_} {a ci k : Nat} (ht : h_kd (h_tyc ci k) = 0) : h_fv ad h a ci k = .int (h_i h a k) := by unfold h_fv; rw [ht]; rfl
theorem fv_l {ad : Nat → Nat} {h : Hp_} {a ci k : Nat} (ht : h_kd (h_tyc ci k) = 1) : h_fv ad h a ci k = .long (h_l h a k) := by unfold h_fv; rw [ht]; rfl
theorem fv_r {ad : Nat → Nat} {h : Hp_} {a ci k : Nat} (ht : h_kd (h_tyc ci k) = 2) : h_fv ad h a ci k = va_rf ((h_r h a k).map ad) := by unfold h_fv; rw [ht]; rfl
theorem ce_iw {cy : Nat → ClassId} {ad : Nat → Nat} {h : Hp_} {a t n : Nat} {f : Nat → Int32} (hs : h_sh h a = some (t, n)) (ht : t < 3) : h_ce cy ad (h_iw h a f) a = .inl (cy t, n, .inl f) := by
  have e : h_i (h_iw h a f) a = f := by rw [h_i_iw, if_pos rfl]
  rw [h_ce_arr (h := h_iw h a f) hs (by omega)]
  match t, ht with
  | 0, _ => unfold h_ar; rw [e]; rfl
  | 1, _ => unfold h_ar; rw [e]; rfl
  | 2, _ => unfold h_ar; rw [e]; rfl
theorem ce_lw {cy : Nat → ClassId} {ad : Nat → Nat} {h : Hp_} {a n : Nat} {f : Nat → Int64} (hs : h_sh h a = some (3, n)) : h_ce cy ad (h_lw h a f) a = .inl (cy 3, n, .inr (.inl f)) := by
  have e : h_l (h_lw h a f) a = f := by rw [h_l_lw, if_pos rfl]
  rw [h_ce_arr (h := h_lw h a f) hs (by omega)]
  unfold h_ar
  rw [e]; rfl
theorem aw_geti {ci : Nat} {C : String} {T : u_T} {N k0 idx a : Nat}  (hc : kc_ ci C T N) (hs0 : h_sh h a = some (ci + 10, N)) (hk : k0 < N) (hlk : Cond.fieldLink (mY M).cls idx (T k0).1 (T k0).2.1 (T k0).2.2.1 ∈ lw_g) (hd : decode (mC M) pc = .ok (.getfield idx, 3)) (ht : h_kd (h_tyc ci k0) = 0)  (k : AW M kc ks (pc + 3) lv (.int (h_i h a k0) :: st) h K) : AW M kc ks pc lv (.ref a :: st) h K := by
  intro l p e s m args below meth c dC dI cy A ad0 adV ad dom0 dom H locs ls hf hX hT hE hW hS hl ho hs
  obtain ⟨q, hq, hw⟩ := h_W_get (cy := cy) (ad := ad) (h := h) (wd_in hW hs0)
  rw [h_ce_obj hs0] at hw
  have ev := fv_i (ad := ad) (h := h) (a := a) ht
  have e1 := h_fs_at (ad := ad) (h := h) (a := a) (ci := ci) hk
  rw [ev] at e1
  exact va_get hf.1 hf.2.1 hf.2.2.2.2.2.2.2.1 hc.2.1 hf.2.2.2.2.2.1 hf.2.2.2.2.2.2.2.2.1.1 hW.2.1 q hw hc.1 _ hk (hf.2.2.2.2.2.2.2.1 _ hlk) (fun _ h9 => h9) e1 hd (k l p e s m args below meth c dC dI cy A ad0 adV ad dom0 dom H locs ls hf hX hT hE hW hS hl ho (ok_c ok_i (ok_t hs)))
theorem aw_getl {ci : Nat} {C : String} {T : u_T} {N k0 idx a : Nat}  (hc : kc_ ci C T N) (hs0 : h_sh h a = some (ci + 10, N)) (hk : k0 < N) (hlk : Cond.fieldLink (mY M).cls idx (T k0).1 (T k0).2.1 (T k0).2.2.1 ∈ lw_g) (hd : decode (mC M) pc = .ok (.getfield idx, 3)) (ht : h_kd (h_tyc ci k0) = 1)  (k : AW M kc ks (pc + 3) lv (.long (h_l h a k0) :: st) h K) : AW M kc ks pc lv (.ref a :: st) h K := by
  intro l p e s m args below meth c dC dI cy A ad0 adV ad dom0 dom H locs ls hf hX hT hE hW hS hl ho hs
  obtain ⟨q, hq, hw⟩ := h_W_get (cy := cy) (ad := ad) (h := h) (wd_in hW hs0)
  rw [h_ce_obj hs0] at hw
  have ev := fv_l (ad := ad) (h := h) (a := a) ht
  have e1 := h_fs_at (ad := ad) (h := h) (a := a) (ci := ci) hk
  rw [ev] at e1
  exact va_get hf.1 hf.2.1 hf.2.2.2.2.2.2.2.1 hc.2.1 hf.2.2.2.2.2.1 hf.2.2.2.2.2.2.2.2.1.1 hW.2.1 q hw hc.1 _ hk (hf.2.2.2.2.2.2.2.1 _ hlk) (fun _ h9 => h9) e1 hd (k l p e s m args below meth c dC dI cy A ad0 adV ad dom0 dom H locs ls hf hX hT hE hW hS hl ho (ok_c ok_l (ok_t hs)))
theorem aw_getr {ci : Nat} {C : String} {T : u_T} {N k0 idx a : Nat} {b : Nat} (hc : kc_ ci C T N) (hs0 : h_sh h a = some (ci + 10, N)) (hk : k0 < N) (hlk : Cond.fieldLink (mY M).cls idx (T k0).1 (T k0).2.1 (T k0).2.2.1 ∈ lw_g) (hd : decode (mC M) pc = .ok (.getfield idx, 3)) (ht : h_kd (h_tyc ci k0) = 2) (hr : h_r h a k0 = some b) (k : AW M kc ks (pc + 3) lv (.ref b :: st) h K) : AW M kc ks pc lv (.ref a :: st) h K := by
  intro l p e s m args below meth c dC dI cy A ad0 adV ad dom0 dom H locs ls hf hX hT hE hW hS hl ho hs
  obtain ⟨q, hq, hw⟩ := h_W_get (cy := cy) (ad := ad) (h := h) (wd_in hW hs0)
  rw [h_ce_obj hs0] at hw
  have ev := (fv_r (ad := ad) (h := h) (a := a) ht).trans (show va_rf ((h_r h a _).map ad) = .ref (ad b) by rw [hr]; rfl)
  have e1 := h_fs_at (ad := ad) (h := h) (a := a) (ci := ci) hk
  rw [ev] at e1
  exact va_get hf.1 hf.2.1 hf.2.2.2.2.2.2.2.1 hc.2.1 hf.2.2.2.2.2.1 hf.2.2.2.2.2.2.2.2.1.1 hW.2.1 q hw hc.1 _ hk (hf.2.2.2.2.2.2.2.1 _ hlk) (fun _ h9 => h9) e1 hd (k l p e s m args below meth c dC dI cy A ad0 adV ad dom0 dom H locs ls hf hX hT hE hW hS hl ho (ok_c (fun z hz => by cases hz; exact hW.1.2.2.2 _ _ _ hr) (ok_t hs)))
theorem aw_getn {ci : Nat} {C : String} {T : u_T} {N k0 idx a : Nat}  (hc : kc_ ci C T N) (hs0 : h_sh h a = some (ci + 10, N)) (hk : k0 < N) (hlk : Cond.fieldLink (mY M).cls idx (T k0).1 (T k0).2.1 (T k0).2.2.1 ∈ lw_g) (hd : decode (mC M) pc = .ok (.getfield idx, 3)) (ht : h_kd (h_tyc ci k0) = 2) (hr : h_r h a k0 = none) (k : AW M kc ks (pc + 3) lv (.null :: st) h K) : AW M kc ks pc lv (.ref a :: st) h K := by
  intro l p e s m args below meth c dC dI cy A ad0 adV ad dom0 dom H locs ls hf hX hT hE hW hS hl ho hs
  obtain ⟨q, hq, hw⟩ := h_W_get (cy := cy) (ad := ad) (h := h) (wd_in hW hs0)
  rw [h_ce_obj hs0] at hw
  have ev := (fv_r (ad := ad) (h := h) (a := a) ht).trans (show va_rf ((h_r h a _).map ad) = .null by rw [hr]; rfl)
  have e1 := h_fs_at (ad := ad) (h := h) (a := a) (ci := ci) hk
  rw [ev] at e1
  exact va_get hf.1 hf.2.1 hf.2.2.2.2.2.2.2.1 hc.2.1 hf.2.2.2.2.2.1 hf.2.2.2.2.2.2.2.2.1.1 hW.2.1 q hw hc.1 _ hk (hf.2.2.2.2.2.2.2.1 _ hlk) (fun _ h9 => h9) e1 hd (k l p e s m args below meth c dC dI cy A ad0 adV ad dom0 dom H locs ls hf hX hT hE hW hS hl ho (ok_c ok_n (ok_t hs)))
theorem wd_i {dC : Nat → ClassId} {dI : Nat → Nat → Nat} {cy : Nat → ClassId} {A : Nat → Prop} {ad : Nat → Nat} {dom : List Nat} {h : Hp_} {H H1 : Heap} {f : Nat → Int32} {q a : Nat} {e : va_E} (hW : wd_ dC dI cy A ad dom h H) (hq : dom[q]? = some a) (he : h_ce cy ad (h_iw h a f) a = e) (h1 : va_P (dC, dI) kl_ ((h_W cy ad h dom).set q (ad a, e)) H1) (h2 : va_D A ((h_W cy ad h dom).set q (ad a, e))) : wd_ dC dI cy A ad dom (h_iw h a f) H1 := by
  rw [h_W_set hW.1.1 hq he (fun b hb => h_ce_i hb)] at h1 h2
  exact ⟨hW.1, h1, h2⟩
theorem wd_l {dC : Nat → ClassId} {dI : Nat → Nat → Nat} {cy : Nat → ClassId} {A : Nat → Prop} {ad : Nat → Nat} {dom : List Nat} {h : Hp_} {H H1 : Heap} {f : Nat → Int64} {q a : Nat} {e : va_E} (hW : wd_ dC dI cy A ad dom h H) (hq : dom[q]? = some a) (he : h_ce cy ad (h_lw h a f) a = e) (h1 : va_P (dC, dI) kl_ ((h_W cy ad h dom).set q (ad a, e)) H1) (h2 : va_D A ((h_W cy ad h dom).set q (ad a, e))) : wd_ dC dI cy A ad dom (h_lw h a f) H1 := by
  rw [h_W_set hW.1.1 hq he (fun b hb => h_ce_l hb)] at h1 h2
  exact ⟨hW.1, h1, h2⟩
theorem wd_r {dC : Nat → ClassId} {dI : Nat → Nat → Nat} {cy : Nat → ClassId} {A : Nat → Prop} {ad : Nat → Nat} {dom : List Nat} {h : Hp_} {H H1 : Heap} {x : Option Nat} {q a i : Nat} {e : va_E} (hW : wd_ dC dI cy A ad dom h H) (hx : ∀ c, x = some c → c ∈ dom ∨ 1000 ≤ c) (hq : dom[q]? = some a) (he : h_ce cy ad (h_rm h a i x) a = e) (h1 : va_P (dC, dI) kl_ ((h_W cy ad h dom).set q (ad a, e)) H1) (h2 : va_D A ((h_W cy ad h dom).set q (ad a, e))) : wd_ dC dI cy A ad dom (h_rm h a i x) H1 := by
  rw [h_W_set hW.1.1 hq he (fun b hb => h_ce_r hb)] at h1 h2
  refine ⟨⟨hW.1.1, hW.1.2.1, hW.1.2.2.1, fun b k c hr => ?_⟩, h1, h2⟩
  rw [h_r_rm] at hr
  split at hr
  · exact hx c hr
  · exact hW.1.2.2.2 b k c hr
theorem nf_r {ty : FieldType} {b : Nat} (h : h_kd ty = 2) : narrow ty (.ref b) = .ref b ∧ fits ty (.ref b) = true := by cases ty <;> first | (exact ⟨rfl, rfl⟩) | (simp [h_kd] at h)
theorem nf_n {ty : FieldType} (h : h_kd ty = 2) : narrow ty .null = .null ∧ fits ty .null = true := by cases ty <;> first | (exact ⟨rfl, rfl⟩) | (simp [h_kd] at h)
theorem nf_l {ty : FieldType} {x : Int64} (h : h_kd ty = 1) : narrow ty (.long x) = .long x ∧ fits ty (.long x) = true := by cases ty <;> first | (exact ⟨rfl, rfl⟩) | (simp [h_kd] at h)
theorem nf_i {x : Int32} : narrow .int (.int x) = .int x ∧ fits .int (.int x) = true := ⟨rfl, rfl⟩
theorem fv_up_i {ad : Nat → Nat} {h : Hp_} {a ci k : Nat} {x : Int32} (ht : h_kd (h_tyc ci k) = 0) : h_fv ad (h_im h a k x) a ci k = .int x := by rw [fv_i ht, h_i_im, if_pos ⟨rfl, rfl⟩]
theorem fv_up_in {ad : Nat → Nat} {h : Hp_} {a ci k : Nat} {x : Int32} (j : Nat) (hj : j ≠ k) : h_fv ad (h_im h a k x) a ci j = h_fv ad h a ci j := by
  unfold h_fv
  rw [h_i_im, if_neg (fun z => hj z.2), h_l_im, h_r_im]
theorem fv_up_l {ad : Nat → Nat} {h : Hp_} {a ci k : Nat} {x : Int64} (ht : h_kd (h_tyc ci k) = 1) : h_fv ad (h_lm h a k x) a ci k = .long x := by rw [fv_l ht, h_l_lm, if_pos ⟨rfl, rfl⟩]
theorem fv_up_ln {ad : Nat → Nat} {h : Hp_} {a ci k : Nat} {x : Int64} (j : Nat) (hj : j ≠ k) : h_fv ad (h_lm h a k x) a ci j = h_fv ad h a ci j := by
  unfold h_fv
  rw [h_l_lm, if_neg (fun z => hj z.2), h_i_lm, h_r_lm]
theorem fv_up_r {ad : Nat → Nat} {h : Hp_} {a ci k : Nat} {x : Option Nat} (ht : h_kd (h_tyc ci k) = 2) : h_fv ad (h_rm h a k x) a ci k = va_rf (x.map ad) := by rw [fv_r ht, h_r_rm, if_pos ⟨rfl, rfl⟩]
theorem fv_up_rn {ad : Nat → Nat} {h : Hp_} {a ci k : Nat} {x : Option Nat} (j : Nat) (hj : j ≠ k) : h_fv ad (h_rm h a k x) a ci j = h_fv ad h a ci j := by
  unfold h_fv
  rw [h_r_rm, if_neg (fun z => hj z.2), h_i_rm, h_l_rm]
theorem aw_puti {ci : Nat} {C : String} {T : u_T} {N k0 idx a : Nat} {x : Int32} (hc : kc_ ci C T N) (hs0 : h_sh h a = some (ci + 10, N)) (hk : k0 < N) (hlk : Cond.fieldLink (mY M).cls idx (T k0).1 (T k0).2.1 (T k0).2.2.1 ∈ lw_g) (hd : decode (mC M) pc = .ok (.putfield idx, 3)) (ht : h_kd (h_tyc ci k0) = 0) (hfin : (T k0).2.2.2 = false) (hnf : narrow (h_tyc ci k0) (.int x) = .int x ∧ fits (h_tyc ci k0) (.int x) = true) (k : AW M kc ks (pc + 3) lv st (h_im h a k0 x) K) : AW M kc ks pc lv (.int x :: .ref a :: st) h K := by
  intro l p e s m args below meth c dC dI cy A ad0 adV ad dom0 dom H locs ls hf hX hT hE hW hS hl ho hs
  obtain ⟨q, hq, hw⟩ := h_W_get (cy := cy) (ad := ad) (h := h) (wd_in hW hs0)
  rw [h_ce_obj hs0] at hw
  have hce : h_ce cy ad (h_im h a k0 x) a = .inr (ci, ((List.range N).map (h_fv ad h a ci)).set k0 (.int x)) := by
    have e2 := h_fs_set (n := N) (ad := ad) (h := h) (h' := h_im h a k0 x) (a := a) (ci := ci) (k := k0) (v := .int x) (fv_up_i ht) (fun j hj => fv_up_in j hj)
    rw [e2]
    exact h_ce_obj hs0
  refine va_put (ty := h_tyc ci k0) hf.1 hf.2.1 hf.2.2.2.2.2.2.2.1 hc.2.1 (h_tyc ci) hc.2.2.1 hc.2.2.2.1 hf.2.2.2.2.2.1 hf.2.2.2.2.2.2.2.2.1.1 hW.2.1 hW.2.2 hS q hw hc.1 k0 hk (hf.2.2.2.2.2.2.2.1 _ hlk) (fun _ h9 => h9) hfin (hc.2.2.1 k0 hk) hnf.1 hnf.2 (by simpa using hk) hd (fun H1 locs1 h1 h2 hS1 => ?_)
  exact k l p e s m args below meth c dC dI cy A ad0 adV ad dom0 dom H1 locs1 ls hf hX hT hE (wd_i hW hq hce h1 h2) hS1 hl ho (ok_t (ok_t hs))
theorem aw_putl {ci : Nat} {C : String} {T : u_T} {N k0 idx a : Nat} {x : Int64} (hc : kc_ ci C T N) (hs0 : h_sh h a = some (ci + 10, N)) (hk : k0 < N) (hlk : Cond.fieldLink (mY M).cls idx (T k0).1 (T k0).2.1 (T k0).2.2.1 ∈ lw_g) (hd : decode (mC M) pc = .ok (.putfield idx, 3)) (ht : h_kd (h_tyc ci k0) = 1) (hfin : (T k0).2.2.2 = false)  (k : AW M kc ks (pc + 3) lv st (h_lm h a k0 x) K) : AW M kc ks pc lv (.long x :: .ref a :: st) h K := by
  intro l p e s m args below meth c dC dI cy A ad0 adV ad dom0 dom H locs ls hf hX hT hE hW hS hl ho hs
  obtain ⟨q, hq, hw⟩ := h_W_get (cy := cy) (ad := ad) (h := h) (wd_in hW hs0)
  rw [h_ce_obj hs0] at hw
  have hce : h_ce cy ad (h_lm h a k0 x) a = .inr (ci, ((List.range N).map (h_fv ad h a ci)).set k0 (.long x)) := by
    have e2 := h_fs_set (n := N) (ad := ad) (h := h) (h' := h_lm h a k0 x) (a := a) (ci := ci) (k := k0) (v := .long x) (fv_up_l ht) (fun j hj => fv_up_ln j hj)
    rw [e2]
    exact h_ce_obj hs0
  refine va_put (ty := h_tyc ci k0) hf.1 hf.2.1 hf.2.2.2.2.2.2.2.1 hc.2.1 (h_tyc ci) hc.2.2.1 hc.2.2.2.1 hf.2.2.2.2.2.1 hf.2.2.2.2.2.2.2.2.1.1 hW.2.1 hW.2.2 hS q hw hc.1 k0 hk (hf.2.2.2.2.2.2.2.1 _ hlk) (fun _ h9 => h9) hfin (hc.2.2.1 k0 hk) (nf_l ht).1 (nf_l ht).2 (by simpa using hk) hd (fun H1 locs1 h1 h2 hS1 => ?_)
  exact k l p e s m args below meth c dC dI cy A ad0 adV ad dom0 dom H1 locs1 ls hf hX hT hE (wd_l hW hq hce h1 h2) hS1 hl ho (ok_t (ok_t hs))
theorem aw_putr {ci : Nat} {C : String} {T : u_T} {N k0 idx a : Nat} {b : Nat} (hc : kc_ ci C T N) (hs0 : h_sh h a = some (ci + 10, N)) (hk : k0 < N) (hlk : Cond.fieldLink (mY M).cls idx (T k0).1 (T k0).2.1 (T k0).2.2.1 ∈ lw_g) (hd : decode (mC M) pc = .ok (.putfield idx, 3)) (ht : h_kd (h_tyc ci k0) = 2) (hfin : (T k0).2.2.2 = false)  (k : AW M kc ks (pc + 3) lv st (h_rm h a k0 (some b)) K) : AW M kc ks pc lv (.ref b :: .ref a :: st) h K := by
  intro l p e s m args below meth c dC dI cy A ad0 adV ad dom0 dom H locs ls hf hX hT hE hW hS hl ho hs
  obtain ⟨q, hq, hw⟩ := h_W_get (cy := cy) (ad := ad) (h := h) (wd_in hW hs0)
  rw [h_ce_obj hs0] at hw
  have hce : h_ce cy ad (h_rm h a k0 (some b)) a = .inr (ci, ((List.range N).map (h_fv ad h a ci)).set k0 (.ref (ad b))) := by
    have e2 := h_fs_set (n := N) (ad := ad) (h := h) (h' := h_rm h a k0 (some b)) (a := a) (ci := ci) (k := k0) (v := .ref (ad b)) (fv_up_r ht) (fun j hj => fv_up_rn j hj)
    rw [e2]
    exact h_ce_obj hs0
  refine va_put (ty := h_tyc ci k0) hf.1 hf.2.1 hf.2.2.2.2.2.2.2.1 hc.2.1 (h_tyc ci) hc.2.2.1 hc.2.2.2.1 hf.2.2.2.2.2.1 hf.2.2.2.2.2.2.2.2.1.1 hW.2.1 hW.2.2 hS q hw hc.1 k0 hk (hf.2.2.2.2.2.2.2.1 _ hlk) (fun _ h9 => h9) hfin (hc.2.2.1 k0 hk) (nf_r ht).1 (nf_r ht).2 (by simpa using hk) hd (fun H1 locs1 h1 h2 hS1 => ?_)
  exact k l p e s m args below meth c dC dI cy A ad0 adV ad dom0 dom H1 locs1 ls hf hX hT hE (wd_r hW (fun z hz => by cases hz; exact ok_h hs _ rfl) hq hce h1 h2) hS1 hl ho (ok_t (ok_t hs))
theorem aw_putn {ci : Nat} {C : String} {T : u_T} {N k0 idx a : Nat}  (hc : kc_ ci C T N) (hs0 : h_sh h a = some (ci + 10, N)) (hk : k0 < N) (hlk : Cond.fieldLink (mY M).cls idx (T k0).1 (T k0).2.1 (T k0).2.2.1 ∈ lw_g) (hd : decode (mC M) pc = .ok (.putfield idx, 3)) (ht : h_kd (h_tyc ci k0) = 2) (hfin : (T k0).2.2.2 = false)  (k : AW M kc ks (pc + 3) lv st (h_rm h a k0 none) K) : AW M kc ks pc lv (.null :: .ref a :: st) h K := by
  intro l p e s m args below meth c dC dI cy A ad0 adV ad dom0 dom H locs ls hf hX hT hE hW hS hl ho hs
  obtain ⟨q, hq, hw⟩ := h_W_get (cy := cy) (ad := ad) (h := h) (wd_in hW hs0)
  rw [h_ce_obj hs0] at hw
  have hce : h_ce cy ad (h_rm h a k0 none) a = .inr (ci, ((List.range N).map (h_fv ad h a ci)).set k0 (.null)) := by
    have e2 := h_fs_set (n := N) (ad := ad) (h := h) (h' := h_rm h a k0 none) (a := a) (ci := ci) (k := k0) (v := .null) (fv_up_r ht) (fun j hj => fv_up_rn j hj)
    rw [e2]
    exact h_ce_obj hs0
  refine va_put (ty := h_tyc ci k0) hf.1 hf.2.1 hf.2.2.2.2.2.2.2.1 hc.2.1 (h_tyc ci) hc.2.2.1 hc.2.2.2.1 hf.2.2.2.2.2.1 hf.2.2.2.2.2.2.2.2.1.1 hW.2.1 hW.2.2 hS q hw hc.1 k0 hk (hf.2.2.2.2.2.2.2.1 _ hlk) (fun _ h9 => h9) hfin (hc.2.2.1 k0 hk) (nf_n ht).1 (nf_n ht).2 (by simpa using hk) hd (fun H1 locs1 h1 h2 hS1 => ?_)
  exact k l p e s m args below meth c dC dI cy A ad0 adV ad dom0 dom H1 locs1 ls hf hX hT hE (wd_r hW (fun z hz => by cases hz) hq hce h1 h2) hS1 hl ho (ok_t (ok_t hs))
theorem aw_putiF {ci : Nat} {C : String} {T : u_T} {N k0 idx a : Nat} {x : Int32} (hc : kc_ ci C T N) (hs0 : h_sh h a = some (ci + 10, N)) (hk : k0 < N) (hlk : Cond.fieldLink (mY M).cls idx (T k0).1 (T k0).2.1 (T k0).2.2.1 ∈ lw_g) (hd : decode (mC M) pc = .ok (.putfield idx, 3)) (ht : h_kd (h_tyc ci k0) = 0) (hfin : (T k0).2.2.2 = true) (hini : (mY M).name = "<init>") (hdc : (T k0).1 = (mY M).cls) (hnf : narrow (h_tyc ci k0) (.int x) = .int x ∧ fits (h_tyc ci k0) (.int x) = true) (k : AW M kc ks (pc + 3) lv st (h_im h a k0 x) K) : AW M kc ks pc lv (.int x :: .ref a :: st) h K := by
  intro l p e s m args below meth c dC dI cy A ad0 adV ad dom0 dom H locs ls hf hX hT hE hW hS hl ho hs
  obtain ⟨q, hq, hw⟩ := h_W_get (cy := cy) (ad := ad) (h := h) (wd_in hW hs0)
  rw [h_ce_obj hs0] at hw
  have hce : h_ce cy ad (h_im h a k0 x) a = .inr (ci, ((List.range N).map (h_fv ad h a ci)).set k0 (.int x)) := by
    have e2 := h_fs_set (n := N) (ad := ad) (h := h) (h' := h_im h a k0 x) (a := a) (ci := ci) (k := k0) (v := .int x) (fv_up_i ht) (fun j hj => fv_up_in j hj)
    rw [e2]
    exact h_ce_obj hs0
  refine va_putF (ty := h_tyc ci k0) hf.1 hf.2.1 hf.2.2.2.2.2.2.2.1 hc.2.1 (h_tyc ci) hc.2.2.1 hc.2.2.2.1 hf.2.2.2.2.2.1 hf.2.2.2.2.2.2.2.2.1.1 hW.2.1 hW.2.2 hS q hw hc.1 k0 hk (hf.2.2.2.2.2.2.2.1 _ hlk) (fun _ h9 => h9) hfin (hf.2.2.2.2.2.2.1.trans hini) hdc (hc.2.2.1 k0 hk) hnf.1 hnf.2 (by simpa using hk) hd (fun H1 locs1 h1 h2 hS1 => ?_)
  exact k l p e s m args below meth c dC dI cy A ad0 adV ad dom0 dom H1 locs1 ls hf hX hT hE (wd_i hW hq hce h1 h2) hS1 hl ho (ok_t (ok_t hs))
theorem aw_putlF {ci : Nat} {C : String} {T : u_T} {N k0 idx a : Nat} {x : Int64} (hc : kc_ ci C T N) (hs0 : h_sh h a = some (ci + 10, N)) (hk : k0 < N) (hlk : Cond.fieldLink (mY M).cls idx (T k0).1 (T k0).2.1 (T k0).2.2.1 ∈ lw_g) (hd : decode (mC M) pc = .ok (.putfield idx, 3)) (ht : h_kd (h_tyc ci k0) = 1) (hfin : (T k0).2.2.2 = true) (hini : (mY M).name = "<init>") (hdc : (T k0).1 = (mY M).cls)  (k : AW M kc ks (pc + 3) lv st (h_lm h a k0 x) K) : AW M kc ks pc lv (.long x :: .ref a :: st) h K := by
  intro l p e s m args below meth c dC dI cy A ad0 adV ad dom0 dom H locs ls hf hX hT hE hW hS hl ho hs
  obtain ⟨q, hq, hw⟩ := h_W_get (cy := cy) (ad := ad) (h := h) (wd_in hW hs0)
  rw [h_ce_obj hs0] at hw
  have hce : h_ce cy ad (h_lm h a k0 x) a = .inr (ci, ((List.range N).map (h_fv ad h a ci)).set k0 (.long x)) := by
    have e2 := h_fs_set (n := N) (ad := ad) (h := h) (h' := h_lm h a k0 x) (a := a) (ci := ci) (k := k0) (v := .long x) (fv_up_l ht) (fun j hj => fv_up_ln j hj)
    rw [e2]
    exact h_ce_obj hs0
  refine va_putF (ty := h_tyc ci k0) hf.1 hf.2.1 hf.2.2.2.2.2.2.2.1 hc.2.1 (h_tyc ci) hc.2.2.1 hc.2.2.2.1 hf.2.2.2.2.2.1 hf.2.2.2.2.2.2.2.2.1.1 hW.2.1 hW.2.2 hS q hw hc.1 k0 hk (hf.2.2.2.2.2.2.2.1 _ hlk) (fun _ h9 => h9) hfin (hf.2.2.2.2.2.2.1.trans hini) hdc (hc.2.2.1 k0 hk) (nf_l ht).1 (nf_l ht).2 (by simpa using hk) hd (fun H1 locs1 h1 h2 hS1 => ?_)
  exact k l p e s m args below meth c dC dI cy A ad0 adV ad dom0 dom H1 locs1 ls hf hX hT hE (wd_l hW hq hce h1 h2) hS1 hl ho (ok_t (ok_t hs))
theorem aw_putrF {ci : Nat} {C : String} {T : u_T} {N k0 idx a : Nat} {b : Nat} (hc : kc_ ci C T N) (hs0 : h_sh h a = some (ci + 10, N)) (hk : k0 < N) (hlk : Cond.fieldLink (mY M).cls idx (T k0).1 (T k0).2.1 (T k0).2.2.1 ∈ lw_g) (hd : decode (mC M) pc = .ok (.putfield idx, 3)) (ht : h_kd (h_tyc ci k0) = 2) (hfin : (T k0).2.2.2 = true) (hini : (mY M).name = "<init>") (hdc : (T k0).1 = (mY M).cls)  (k : AW M kc ks (pc + 3) lv st (h_rm h a k0 (some b)) K) : AW M kc ks pc lv (.ref b :: .ref a :: st) h K := by
  intro l p e s m args below meth c dC dI cy A ad0 adV ad dom0 dom H locs ls hf hX hT hE hW hS hl ho hs
  obtain ⟨q, hq, hw⟩ := h_W_get (cy := cy) (ad := ad) (h := h) (wd_in hW hs0)
  rw [h_ce_obj hs0] at hw
  have hce : h_ce cy ad (h_rm h a k0 (some b)) a = .inr (ci, ((List.range N).map (h_fv ad h a ci)).set k0 (.ref (ad b))) := by
    have e2 := h_fs_set (n := N) (ad := ad) (h := h) (h' := h_rm h a k0 (some b)) (a := a) (ci := ci) (k := k0) (v := .ref (ad b)) (fv_up_r ht) (fun j hj => fv_up_rn j hj)
    rw [e2]
    exact h_ce_obj hs0
  refine va_putF (ty := h_tyc ci k0) hf.1 hf.2.1 hf.2.2.2.2.2.2.2.1 hc.2.1 (h_tyc ci) hc.2.2.1 hc.2.2.2.1 hf.2.2.2.2.2.1 hf.2.2.2.2.2.2.2.2.1.1 hW.2.1 hW.2.2 hS q hw hc.1 k0 hk (hf.2.2.2.2.2.2.2.1 _ hlk) (fun _ h9 => h9) hfin (hf.2.2.2.2.2.2.1.trans hini) hdc (hc.2.2.1 k0 hk) (nf_r ht).1 (nf_r ht).2 (by simpa using hk) hd (fun H1 locs1 h1 h2 hS1 => ?_)
  exact k l p e s m args below meth c dC dI cy A ad0 adV ad dom0 dom H1 locs1 ls hf hX hT hE (wd_r hW (fun z hz => by cases hz; exact ok_h hs _ rfl) hq hce h1 h2) hS1 hl ho (ok_t (ok_t hs))
theorem aw_putnF {ci : Nat} {C : String} {T : u_T} {N k0 idx a : Nat}  (hc : kc_ ci C T N) (hs0 : h_sh h a = some (ci + 10, N)) (hk : k0 < N) (hlk : Cond.fieldLink (mY M).cls idx (T k0).1 (T k0).2.1 (T k0).2.2.1 ∈ lw_g) (hd : decode (mC M) pc = .ok (.putfield idx, 3)) (ht : h_kd (h_tyc ci k0) = 2) (hfin : (T k0).2.2.2 = true) (hini : (mY M).name = "<init>") (hdc : (T k0).1 = (mY M).cls)  (k : AW M kc ks (pc + 3) lv st (h_rm h a k0 none) K) : AW M kc ks pc lv (.null :: .ref a :: st) h K := by
  intro l p e s m args below meth c dC dI cy A ad0 adV ad dom0 dom H locs ls hf hX hT hE hW hS hl ho hs
  obtain ⟨q, hq, hw⟩ := h_W_get (cy := cy) (ad := ad) (h := h) (wd_in hW hs0)
  rw [h_ce_obj hs0] at hw
  have hce : h_ce cy ad (h_rm h a k0 none) a = .inr (ci, ((List.range N).map (h_fv ad h a ci)).set k0 (.null)) := by
    have e2 := h_fs_set (n := N) (ad := ad) (h := h) (h' := h_rm h a k0 none) (a := a) (ci := ci) (k := k0) (v := .null) (fv_up_r ht) (fun j hj => fv_up_rn j hj)
    rw [e2]
    exact h_ce_obj hs0
  refine va_putF (ty := h_tyc ci k0) hf.1 hf.2.1 hf.2.2.2.2.2.2.2.1 hc.2.1 (h_tyc ci) hc.2.2.1 hc.2.2.2.1 hf.2.2.2.2.2.1 hf.2.2.2.2.2.2.2.2.1.1 hW.2.1 hW.2.2 hS q hw hc.1 k0 hk (hf.2.2.2.2.2.2.2.1 _ hlk) (fun _ h9 => h9) hfin (hf.2.2.2.2.2.2.1.trans hini) hdc (hc.2.2.1 k0 hk) (nf_n ht).1 (nf_n ht).2 (by simpa using hk) hd (fun H1 locs1 h1 h2 hS1 => ?_)
  exact k l p e s m args below meth c dC dI cy A ad0 adV ad dom0 dom H1 locs1 ls hf hX hT hE (wd_r hW (fun z hz => by cases hz) hq hce h1 h2) hS1 hl ho (ok_t (ok_t hs))
theorem aw_iald {a n : Nat} {i : Int32} (hs0 : h_sh h a = some (0, n)) (hin : vp_in i n) (hd : decode (mC M) pc = .ok (.iaload, 1)) (k : AW M kc ks (pc + 1) lv (.int (h_i h a i.toNatClampNeg) :: st) h K) : AW M kc ks pc lv (.int i :: .ref a :: st) h K := by
  intro l p e s m args below meth c dC dI cy A ad0 adV ad dom0 dom H locs ls hf hX hT hE hW hS hl ho hs
  obtain ⟨q, hq, hw⟩ := h_W_get (cy := cy) (ad := ad) (h := h) (wd_in hW hs0)
  rw [h_ce_arr hs0 (by decide)] at hw
  exact va_iald hf.1 hf.2.1 hf.2.2.2.2.2.2.2.2.1.1 hW.2.1 q 0 hw rfl hin hd (k l p e s m args below meth c dC dI cy A ad0 adV ad dom0 dom H locs ls hf hX hT hE hW hS hl ho (ok_c ok_i (ok_t (ok_t hs))))
theorem aw_zald {a n : Nat} {i : Int32} (hs0 : h_sh h a = some (1, n)) (hin : vp_in i n) (hd : decode (mC M) pc = .ok (.baload, 1)) (k : AW M kc ks (pc + 1) lv (.int (h_i h a i.toNatClampNeg) :: st) h K) : AW M kc ks pc lv (.int i :: .ref a :: st) h K := by
  intro l p e s m args below meth c dC dI cy A ad0 adV ad dom0 dom H locs ls hf hX hT hE hW hS hl ho hs
  obtain ⟨q, hq, hw⟩ := h_W_get (cy := cy) (ad := ad) (h := h) (wd_in hW hs0)
  rw [h_ce_arr hs0 (by decide)] at hw
  exact va_zald hf.1 hf.2.1 hf.2.2.2.2.2.2.2.2.1.1 hW.2.1 q 1 hw rfl hin hd (k l p e s m args below meth c dC dI cy A ad0 adV ad dom0 dom H locs ls hf hX hT hE hW hS hl ho (ok_c ok_i (ok_t (ok_t hs))))
theorem aw_bald {a n : Nat} {i : Int32} (hs0 : h_sh h a = some (2, n)) (hin : vp_in i n) (hd : decode (mC M) pc = .ok (.baload, 1)) (k : AW M kc ks (pc + 1) lv (.int (h_i h a i.toNatClampNeg) :: st) h K) : AW M kc ks pc lv (.int i :: .ref a :: st) h K := by
  intro l p e s m args below meth c dC dI cy A ad0 adV ad dom0 dom H locs ls hf hX hT hE hW hS hl ho hs
  obtain ⟨q, hq, hw⟩ := h_W_get (cy := cy) (ad := ad) (h := h) (wd_in hW hs0)
  rw [h_ce_arr hs0 (by decide)] at hw
  exact va_bald hf.1 hf.2.1 hf.2.2.2.2.2.2.2.2.1.1 hW.2.1 q 2 hw rfl hin hd (k l p e s m args below meth c dC dI cy A ad0 adV ad dom0 dom H locs ls hf hX hT hE hW hS hl ho (ok_c ok_i (ok_t (ok_t hs))))
theorem aw_lald {a n : Nat} {i : Int32} (hs0 : h_sh h a = some (3, n)) (hin : vp_in i n) (hd : decode (mC M) pc = .ok (.laload, 1)) (k : AW M kc ks (pc + 1) lv (.long (h_l h a i.toNatClampNeg) :: st) h K) : AW M kc ks pc lv (.int i :: .ref a :: st) h K := by
  intro l p e s m args below meth c dC dI cy A ad0 adV ad dom0 dom H locs ls hf hX hT hE hW hS hl ho hs
  obtain ⟨q, hq, hw⟩ := h_W_get (cy := cy) (ad := ad) (h := h) (wd_in hW hs0)
  rw [h_ce_arr hs0 (by decide)] at hw
  exact va_lald hf.1 hf.2.1 hf.2.2.2.2.2.2.2.2.1.1 hW.2.1 q 3 hw rfl hin hd (k l p e s m args below meth c dC dI cy A ad0 adV ad dom0 dom H locs ls hf hX hT hE hW hS hl ho (ok_c ok_l (ok_t (ok_t hs))))
theorem aw_iast {a n : Nat} {i : Int32} {x : Int32} (hs0 : h_sh h a = some (0, n)) (hin : vp_in i n) (hd : decode (mC M) pc = .ok (.iastore, 1)) (k : AW M kc ks (pc + 1) lv st (h_im h a i.toNatClampNeg x) K) : AW M kc ks pc lv (.int x :: .int i :: .ref a :: st) h K := by
  intro l p e s m args below meth c dC dI cy A ad0 adV ad dom0 dom H locs ls hf hX hT hE hW hS hl ho hs
  obtain ⟨q, hq, hw⟩ := h_W_get (cy := cy) (ad := ad) (h := h) (wd_in hW hs0)
  rw [h_ce_arr hs0 (by decide)] at hw
  refine va_iast hf.1 hf.2.1 hf.2.2.2.2.2.2.2.2.1.1 hW.2.1 hW.2.2 hS q 0 hw rfl hin hd (fun H1 locs1 h1 h2 hS1 => ?_)
  exact k l p e s m args below meth c dC dI cy A ad0 adV ad dom0 dom H1 locs1 ls hf hX hT hE (wd_i hW hq (ce_iw hs0 (by decide)) h1 h2) hS1 hl ho (ok_t (ok_t (ok_t hs)))
theorem aw_zast {a n : Nat} {i : Int32} {x : Int32} (hs0 : h_sh h a = some (1, n)) (hin : vp_in i n) (hd : decode (mC M) pc = .ok (.bastore, 1)) (k : AW M kc ks (pc + 1) lv st (h_im h a i.toNatClampNeg (vp_nar .boolean x)) K) : AW M kc ks pc lv (.int x :: .int i :: .ref a :: st) h K := by
  intro l p e s m args below meth c dC dI cy A ad0 adV ad dom0 dom H locs ls hf hX hT hE hW hS hl ho hs
  obtain ⟨q, hq, hw⟩ := h_W_get (cy := cy) (ad := ad) (h := h) (wd_in hW hs0)
  rw [h_ce_arr hs0 (by decide)] at hw
  refine va_zast hf.1 hf.2.1 hf.2.2.2.2.2.2.2.2.1.1 hW.2.1 hW.2.2 hS q 1 hw rfl hin hd (fun H1 locs1 h1 h2 hS1 => ?_)
  exact k l p e s m args below meth c dC dI cy A ad0 adV ad dom0 dom H1 locs1 ls hf hX hT hE (wd_i hW hq (ce_iw hs0 (by decide)) h1 h2) hS1 hl ho (ok_t (ok_t (ok_t hs)))
theorem aw_bast {a n : Nat} {i : Int32} {x : Int32} (hs0 : h_sh h a = some (2, n)) (hin : vp_in i n) (hd : decode (mC M) pc = .ok (.bastore, 1)) (k : AW M kc ks (pc + 1) lv st (h_im h a i.toNatClampNeg (vp_nar .byte x)) K) : AW M kc ks pc lv (.int x :: .int i :: .ref a :: st) h K := by
  intro l p e s m args below meth c dC dI cy A ad0 adV ad dom0 dom H locs ls hf hX hT hE hW hS hl ho hs
  obtain ⟨q, hq, hw⟩ := h_W_get (cy := cy) (ad := ad) (h := h) (wd_in hW hs0)
  rw [h_ce_arr hs0 (by decide)] at hw
  refine va_bast hf.1 hf.2.1 hf.2.2.2.2.2.2.2.2.1.1 hW.2.1 hW.2.2 hS q 2 hw rfl hin hd (fun H1 locs1 h1 h2 hS1 => ?_)
  exact k l p e s m args below meth c dC dI cy A ad0 adV ad dom0 dom H1 locs1 ls hf hX hT hE (wd_i hW hq (ce_iw hs0 (by decide)) h1 h2) hS1 hl ho (ok_t (ok_t (ok_t hs)))
theorem aw_last {a n : Nat} {i : Int32} {x : Int64} (hs0 : h_sh h a = some (3, n)) (hin : vp_in i n) (hd : decode (mC M) pc = .ok (.lastore, 1)) (k : AW M kc ks (pc + 1) lv st (h_lm h a i.toNatClampNeg x) K) : AW M kc ks pc lv (.long x :: .int i :: .ref a :: st) h K := by
  intro l p e s m args below meth c dC dI cy A ad0 adV ad dom0 dom H locs ls hf hX hT hE hW hS hl ho hs
  obtain ⟨q, hq, hw⟩ := h_W_get (cy := cy) (ad := ad) (h := h) (wd_in hW hs0)
  rw [h_ce_arr hs0 (by decide)] at hw
  refine va_last hf.1 hf.2.1 hf.2.2.2.2.2.2.2.2.1.1 hW.2.1 hW.2.2 hS q 3 hw rfl hin hd (fun H1 locs1 h1 h2 hS1 => ?_)
  exact k l p e s m args below meth c dC dI cy A ad0 adV ad dom0 dom H1 locs1 ls hf hX hT hE (wd_l hW hq (ce_lw hs0) h1 h2) hS1 hl ho (ok_t (ok_t (ok_t hs)))
theorem aw_aaldr {a n : Nat} {i : Int32} {b : Nat} (hs0 : h_sh h a = some (4, n)) (hin : vp_in i n) (hr : h_r h a i.toNatClampNeg = some b) (hd : decode (mC M) pc = .ok (.aaload, 1)) (k : AW M kc ks (pc + 1) lv (.ref b :: st) h K) : AW M kc ks pc lv (.int i :: .ref a :: st) h K := by
  intro l p e s m args below meth c dC dI cy A ad0 adV ad dom0 dom H locs ls hf hX hT hE hW hS hl ho hs
  obtain ⟨q, hq, hw⟩ := h_W_get (cy := cy) (ad := ad) (h := h) (wd_in hW hs0)
  rw [h_ce_arr hs0 (by decide)] at hw
  refine va_aldq hf.1 hf.2.1 hf.2.2.2.2.2.2.2.2.1.1 hW.2.1 q 4 hw rfl hin hd ?_
  show W _ _ _ _ _ _ _ _ _ _ _ _ _ _ _ (F0 m (pc + 1) ls (va_rf ((h_r h a i.toNatClampNeg).map ad) :: _))
  rw [hr]
  exact k l p e s m args below meth c dC dI cy A ad0 adV ad dom0 dom H locs ls hf hX hT hE hW hS hl ho (ok_c (fun z hz => by cases hz; exact hW.1.2.2.2 _ _ _ hr) (ok_t (ok_t hs)))
theorem aw_aaldn {a n : Nat} {i : Int32}  (hs0 : h_sh h a = some (4, n)) (hin : vp_in i n) (hr : h_r h a i.toNatClampNeg = none) (hd : decode (mC M) pc = .ok (.aaload, 1)) (k : AW M kc ks (pc + 1) lv (.null :: st) h K) : AW M kc ks pc lv (.int i :: .ref a :: st) h K := by
  intro l p e s m args below meth c dC dI cy A ad0 adV ad dom0 dom H locs ls hf hX hT hE hW hS hl ho hs
  obtain ⟨q, hq, hw⟩ := h_W_get (cy := cy) (ad := ad) (h := h) (wd_in hW hs0)
  rw [h_ce_arr hs0 (by decide)] at hw
  refine va_aldq hf.1 hf.2.1 hf.2.2.2.2.2.2.2.2.1.1 hW.2.1 q 4 hw rfl hin hd ?_
  show W _ _ _ _ _ _ _ _ _ _ _ _ _ _ _ (F0 m (pc + 1) ls (va_rf ((h_r h a i.toNatClampNeg).map ad) :: _))
  rw [hr]
  exact k l p e s m args below meth c dC dI cy A ad0 adV ad dom0 dom H locs ls hf hX hT hE hW hS hl ho (ok_c ok_n (ok_t (ok_t hs)))
theorem aw_aast {a n b : Nat} {i : Int32} (hs0 : h_sh h a = some (4, n)) (hin : vp_in i n) (hs1 : h_sh h b = some (12, 17)) (hd : decode (mC M) pc = .ok (.aastore, 1)) (k : AW M kc ks (pc + 1) lv st (h_rm h a i.toNatClampNeg (some b)) K) : AW M kc ks pc lv (.ref b :: .int i :: .ref a :: st) h K := by
  intro l p e s m args below meth c dC dI cy A ad0 adV ad dom0 dom H locs ls hf hX hT hE hW hS hl ho hs
  obtain ⟨q, hq, hw⟩ := h_W_get (cy := cy) (ad := ad) (h := h) (wd_in hW hs0)
  obtain ⟨q1, hq1, hw1⟩ := h_W_get (cy := cy) (ad := ad) (h := h) (wd_in hW hs1)
  rw [h_ce_arr hs0 (by decide)] at hw
  rw [h_ce_obj (ci := 2) hs1] at hw1
  refine va_astq (r := (RX2, TX2, 17)) hf.1 hf.2.1 hf.2.2.2.2.2.2.2.2.1.1 hW.2.1 hW.2.2 hS q 4 q1 2 hw rfl hw1 rfl hin hd (fun H1 locs1 h1 h2 hS1 => ?_)
  refine k l p e s m args below meth c dC dI cy A ad0 adV ad dom0 dom H1 locs1 ls hf hX hT hE (wd_r hW (fun z hz => by cases hz; exact Or.inl (wd_in hW hs1)) hq ?_ h1 h2) hS1 hl ho (ok_t (ok_t (ok_t hs)))
  rw [h_ce_arr (h := h_rm h a i.toNatClampNeg (some b)) hs0 (by decide)]
  have e1 : (fun k => (h_r (h_rm h a i.toNatClampNeg (some b)) a k).map ad) = va_up (fun k => (h_r h a k).map ad) i.toNatClampNeg (some (ad b)) := by
    funext j
    rw [h_r_rm]
    unfold va_up
    by_cases hj : j = i.toNatClampNeg
    · rw [if_pos ⟨rfl, hj⟩, if_pos hj]; rfl
    · rw [if_neg (fun z => hj z.2), if_neg hj]
  show Sum.inl (cy 4, n, Sum.inr (Sum.inr (Sum.inr (Sum.inr (fun k => (h_r (h_rm h a i.toNatClampNeg (some b)) a k).map ad))))) = _
  rw [e1]
theorem aw_alen {a t n : Nat} {v : Int32} (hs0 : h_sh h a = some (t, n)) (ht : t < 5) (hv : Int32.ofNat n = v) (hd : decode (mC M) pc = .ok (.arraylength, 1)) (k : AW M kc ks (pc + 1) lv (.int v :: st) h K) : AW M kc ks pc lv (.ref a :: st) h K := by
  intro l p e s m args below meth c dC dI cy A ad0 adV ad dom0 dom H locs ls hf hX hT hE hW hS hl ho hs
  obtain ⟨q, hq, hw⟩ := h_W_get (cy := cy) (ad := ad) (h := h) (wd_in hW hs0)
  rw [h_ce_arr hs0 (by omega)] at hw
  have hty : ∃ ty, (h_tys cy)[t]? = some (cy t, ty) := by
    match t, ht with
    | 0, _ => exact ⟨_, rfl⟩
    | 1, _ => exact ⟨_, rfl⟩
    | 2, _ => exact ⟨_, rfl⟩
    | 3, _ => exact ⟨_, rfl⟩
    | 4, _ => exact ⟨_, rfl⟩
  obtain ⟨ty, hty⟩ := hty
  exact va_alen hf.1 hf.2.1 hf.2.2.2.2.2.2.2.2.1.1 hW.2.1 q t hw hty hv hd (k l p e s m args below meth c dC dI cy A ad0 adV ad dom0 dom H locs ls hf hX hT hE hW hS hl ho (ok_c ok_i (ok_t hs)))
end AWH
end
section
/-! ends, new cells, calls, contracts -/
section AWC
variable {M : Mc_} {kc ks pc : Nat} {lv : List (Nat × Value)} {st : List Value} {h : Hp_} {K : Option Value → Hp_ → Prop}
theorem aw_iret {x : Int32} (hr : mT M = some .int) (hd : decode (mC M) pc = .ok (.ireturn, 1)) (hk : kc ≤ (mR M).cells ∧ ks ≤ (mR M).slots) (k : K (some (.int x)) h) : AW M kc ks pc lv [.int x] h K := by
  intro l p e s m args below meth c dC dI cy A ad0 adV ad dom0 dom H locs ls hf hX hT hE hW hS hl ho hs
  refine W.widen hk.1 hk.2 ?_
  exact W.iret hf.1 hf.2.1 (hf.2.2.2.1.trans hr) (fun t ht _ => ⟨⟨some (.int x), h, ad, dom, rfl, k, by rw [ht]; exact hW, fun _ hx => by cases hx; exact ok_i, hE⟩, hS.F ht⟩) hS.2.2 hd hf.2.2.2.2.1
theorem aw_zret {x : Int32} {ty : FieldType} (hr : mT M = some ty) (hn : narrow ty (.int x) = .int x) (hd : decode (mC M) pc = .ok (.ireturn, 1)) (hk : kc ≤ (mR M).cells ∧ ks ≤ (mR M).slots) (k : K (some (.int x)) h) : AW M kc ks pc lv [.int x] h K := by
  intro l p e s m args below meth c dC dI cy A ad0 adV ad dom0 dom H locs ls hf hX hT hE hW hS hl ho hs
  refine W.widen hk.1 hk.2 ?_
  exact W.zret hf.1 hf.2.1 (hf.2.2.2.1.trans hr) hn (fun t ht _ => ⟨⟨some (.int x), h, ad, dom, rfl, k, by rw [ht]; exact hW, fun _ hx => by cases hx; exact ok_i, hE⟩, hS.F ht⟩) hS.2.2 hd hf.2.2.2.2.1
theorem aw_lret {x : Int64} (hr : mT M = some .long) (hd : decode (mC M) pc = .ok (.lreturn, 1)) (hk : kc ≤ (mR M).cells ∧ ks ≤ (mR M).slots) (k : K (some (.long x)) h) : AW M kc ks pc lv [.long x] h K := by
  intro l p e s m args below meth c dC dI cy A ad0 adV ad dom0 dom H locs ls hf hX hT hE hW hS hl ho hs
  refine W.widen hk.1 hk.2 ?_
  exact W.lret hf.1 hf.2.1 (hf.2.2.2.1.trans hr) (fun t ht _ => ⟨⟨some (.long x), h, ad, dom, rfl, k, by rw [ht]; exact hW, fun _ hx => by cases hx; exact ok_l, hE⟩, hS.F ht⟩) hS.2.2 hd hf.2.2.2.2.1
theorem aw_vret (hr : mT M = none) (hd : decode (mC M) pc = .ok (.return_, 1)) (hk : kc ≤ (mR M).cells ∧ ks ≤ (mR M).slots) (k : K none h) : AW M kc ks pc lv [] h K := by
  intro l p e s m args below meth c dC dI cy A ad0 adV ad dom0 dom H locs ls hf hX hT hE hW hS hl ho hs
  refine W.widen hk.1 hk.2 ?_
  exact W.vret hf.1 hf.2.1 (hf.2.2.2.1.trans hr) (fun t ht _ => ⟨⟨none, h, ad, dom, rfl, k, by rw [ht]; exact hW, (fun _ hx => by cases hx), hE⟩, hS.F ht⟩) hS.2.2 hd hf.2.2.2.2.1
theorem aw_aret {a : Nat} {rt : FieldType} (hr : mT M = some rt) (hrt : (∃ n, rt = .object n) ∨ ∃ t, rt = .array t) (hd : decode (mC M) pc = .ok (.areturn, 1)) (hk : kc ≤ (mR M).cells ∧ ks ≤ (mR M).slots) (k : K (some (.ref a)) h) : AW M kc ks pc lv [.ref a] h K := by
  intro l p e s m args below meth c dC dI cy A ad0 adV ad dom0 dom H locs ls hf hX hT hE hW hS hl ho hs
  refine W.widen hk.1 hk.2 ?_
  exact W.aret hf.1 hf.2.1 (hf.2.2.2.1.trans hr) hrt (Or.inr ⟨_, rfl⟩) (fun t ht _ => ⟨⟨some (.ref a), h, ad, dom, rfl, k, by rw [ht]; exact hW, fun _ hx => by cases hx; exact ok_h hs, hE⟩, hS.F ht⟩) hS.2.2 hd hf.2.2.2.2.1
theorem aw_aretN {rt : FieldType} (hr : mT M = some rt) (hrt : (∃ n, rt = .object n) ∨ ∃ t, rt = .array t) (hd : decode (mC M) pc = .ok (.areturn, 1)) (hk : kc ≤ (mR M).cells ∧ ks ≤ (mR M).slots) (k : K (some .null) h) : AW M kc ks pc lv [.null] h K := by
  intro l p e s m args below meth c dC dI cy A ad0 adV ad dom0 dom H locs ls hf hX hT hE hW hS hl ho hs
  refine W.widen hk.1 hk.2 ?_
  exact W.aret hf.1 hf.2.1 (hf.2.2.2.1.trans hr) hrt (Or.inl rfl) (fun t ht _ => ⟨⟨some .null, h, ad, dom, rfl, k, by rw [ht]; exact hW, fun _ hx => by cases hx; exact ok_n, hE⟩, hS.F ht⟩) hS.2.2 hd hf.2.2.2.2.1
/-- the extra facts speak of the old cells alone -/
def xs_ (M : Mc_) : Prop := ∀ (ad ad' : Nat → Nat) (A : Nat → Prop) (s : State), (∀ a, 1000 ≤ a → ad' a = ad a) → mX M ad A s → mX M ad' A s
theorem cv_same {ad ad' : Nat → Nat} {v : Value} (hv : ∀ c, v = .ref c → ad' c = ad c) : h_cv ad' v = h_cv ad v := by
  cases v with
  | ref c => show Value.ref (ad' c) = Value.ref (ad c); rw [hv c rfl]
  | _ => rfl
theorem cvs_same {ad ad' : Nat → Nat} {st : List Value} (hs : ∀ v ∈ st, ∀ c, v = .ref c → ad' c = ad c) : st.map (h_cv ad') = st.map (h_cv ad) := List.map_congr_left (fun v hv => cv_same (hs v hv))
theorem lvs_same {ad ad' : Nat → Nat} {lv : List (Nat × Value)} (hs : ∀ q ∈ lv, ∀ c, q.2 = .ref c → ad' c = ad c) : lv.map (fun q => (q.1, h_cv ad' q.2)) = lv.map (fun q => (q.1, h_cv ad q.2)) := List.map_congr_left (fun q hq => by rw [cv_same (hs q hq)])
theorem st_same {ad ad' adV : Nat → Nat} {A : Nat → Prop} {s : State} (he : ∀ a, 1000 ≤ a → ad' a = ad a) (hT : st_ ad adV A s) : st_ ad' adV A s := by
  have e : (fun i => ad' (1000 + i)) = (fun i => ad (1000 + i)) := funext fun i => he _ (by omega)
  refine ⟨⟨by rw [e]; exact hT.1.1, fun i => by rw [he _ (by omega)]; exact hT.1.2.1 i, hT.1.2.2.1, by rw [he 2100 (by omega)]; exact hT.1.2.2.2⟩, fun r hr => ?_⟩
  rw [he _ (by omega)]
  exact hT.2 r hr
theorem h_ok_mono {dom dom' : List Nat} (hd : ∀ a ∈ dom, a ∈ dom') {v : Value} (hv : h_ok dom v) : h_ok dom' v := fun c hc => (hv c hc).imp (hd c) id
theorem ex_trans {ad0 ad ad' : Nat → Nat} {dom0 dom dom' : List Nat} (h1 : ex_ ad0 ad dom0 dom) (h2 : ex_ ad ad' dom dom') : ex_ ad0 ad' dom0 dom' :=
  ⟨fun a ha => (h2.1 a (ha.imp (h1.2 a) id)).trans (h1.1 a ha), fun a ha => h2.2 a (h1.2 a ha)⟩
/-- on to a later world -/
theorem aw_on {kc' ks' : Nat} {st' : List Value} {h' : Hp_} (hXs : xs_ M) (k : AW M kc' ks' pc lv st' h' K)
    {l : Ln_} {p : Program} {e : Env} {s : State} {m : MethodId} {args : Array Value} {below : List Frame} {meth : Method} {c : Code} {dC : Nat → ClassId} {dI : Nat → Nat → Nat} {cy : Nat → ClassId} {A : Nat → Prop} {ad0 adV ad ad' : Nat → Nat} {dom0 dom dom' : List Nat} {H' : Heap} {locs' : List Loc} {ls : Array Slot}
    (hf : fr_ (mY M) (mC M) (mN M) (mT M) p s m args meth c dC dI cy A) (hX : mX M ad A s) (hT : st_ ad adV A s) (hE : ex_ ad0 ad dom0 dom) (hE2 : ex_ ad ad' dom dom') (hW' : wd_ dC dI cy A ad' dom' h' H') (hS' : va_S A s.heap H' locs') (hl : lv_has ls (mN M) (lv.map (fun q => (q.1, h_cv ad q.2)))) (ho : ∀ q ∈ lv, h_ok dom q.2) (hs' : ∀ v ∈ st', h_ok dom' v) :
    W p l.1 e (mR M) s m args below meth c H' locs' kc' ks' (MQ below (qq_ K dC dI cy A ad0 dom0) args s (mR M).cells (mR M).slots A) (F0 m pc ls (st'.map (h_cv ad'))) := by
  have he : ∀ a, 1000 ≤ a → ad' a = ad a := fun a ha => hE2.1 a (Or.inr ha)
  refine k l p e s m args below meth c dC dI cy A ad0 adV ad' dom0 dom' H' locs' ls hf (hXs ad ad' A s he hX) (st_same he hT) (ex_trans hE hE2) hW' hS' ?_ (fun q hq => h_ok_mono hE2.2 (ho q hq)) hs'
  rw [lvs_same (fun q hq z hz => hE2.1 z (ho q hq z hz))]
  exact hl
theorem h_sh_nw {h : Hp_} {a t n b : Nat} : h_sh (h_nw h a t n) b = if b = a then some (t, n) else h_sh h b := rfl
theorem h_i_nw {h : Hp_} {a t n b : Nat} : h_i (h_nw h a t n) b = if b = a then (fun _ => 0) else h_i h b := rfl
theorem h_l_nw {h : Hp_} {a t n b : Nat} : h_l (h_nw h a t n) b = if b = a then (fun _ => 0) else h_l h b := rfl
theorem h_r_nw {h : Hp_} {a t n b : Nat} : h_r (h_nw h a t n) b = if b = a then (fun _ => none) else h_r h b := rfl
theorem h_ce_nw {cy : Nat → ClassId} {ad ad' : Nat → Nat} {h : Hp_} {a t n b : Nat} (hb : b ≠ a) (hr : ∀ k c, h_r h b k = some c → ad' c = ad c) : h_ce cy ad' (h_nw h a t n) b = h_ce cy ad h b := by
  have e1 : h_i (h_nw h a t n) b = h_i h b := by rw [h_i_nw, if_neg hb]
  have e2 : h_l (h_nw h a t n) b = h_l h b := by rw [h_l_nw, if_neg hb]
  have e3 : h_r (h_nw h a t n) b = h_r h b := by rw [h_r_nw, if_neg hb]
  have e4 : ∀ k, (h_r h b k).map ad' = (h_r h b k).map ad := fun k => by
    cases hk : h_r h b k with
    | none => rfl
    | some z => show some (ad' z) = some (ad z); rw [hr k z hk]
  unfold h_ce
  rw [h_sh_nw, if_neg hb]
  split
  · rename_i t2 n2 _
    have f1 : h_ar ad' (h_nw h a t n) b t2 = h_ar ad h b t2 := by unfold h_ar; rw [e1, e2, e3]; simp only [e4]
    have f2 : h_fv ad' (h_nw h a t n) b (t2 - 10) = h_fv ad h b (t2 - 10) := by funext k; unfold h_fv; rw [e1, e2, e3, e4]
    rw [f1, f2]
  · rfl
theorem va_up_at {α : Type} (f : Nat → α) (k : Nat) (v : α) : va_up f k v k = v := by unfold va_up; rw [if_pos rfl]
theorem va_up_off {α : Type} (f : Nat → α) {k j : Nat} (v : α) (hj : j ≠ k) : va_up f k v j = f j := by unfold va_up; rw [if_neg hj]
/-- a new cell joins the world -/
theorem wd_nw {dC : Nat → ClassId} {dI : Nat → Nat → Nat} {cy : Nat → ClassId} {A : Nat → Prop} {ad : Nat → Nat} {dom : List Nat} {h : Hp_} {H H1 : Heap} {na q t n : Nat} {e : va_E} (hW : wd_ dC dI cy A ad dom h H) (hna : h_sh h na = none) (hlt : na < 1000) (he : h_ce cy (va_up ad na q) (h_nw h na t n) na = e) (h1 : va_P (dC, dI) kl_ (h_W cy ad h dom ++ [(q, e)]) H1) (h2 : va_D A (h_W cy ad h dom ++ [(q, e)])) :
    wd_ dC dI cy A (va_up ad na q) (dom ++ [na]) (h_nw h na t n) H1 ∧ ex_ ad (va_up ad na q) dom (dom ++ [na]) := by
  have hnd : na ∉ dom := fun z => ((hW.1.2.1 na).mpr z) hna
  have hr : ∀ b k c, h_r h b k = some c → va_up ad na q c = ad c := fun b k c hc => va_up_off _ _ (by
    rcases hW.1.2.2.2 b k c hc with z | z
    · exact fun w => hnd (w ▸ z)
    · omega)
  rw [h_W_new (ad' := va_up ad na q) (h' := h_nw h na t n) (a := na) (va_up_at _ _ _) he (fun b hb => ⟨va_up_off _ _ (fun w => hnd (w ▸ hb)), h_ce_nw (fun w => hnd (w ▸ hb)) (hr b)⟩)] at h1 h2
  refine ⟨⟨⟨?_, fun a => ?_, fun a ha => ?_, fun b k c hc => ?_⟩, h1, h2⟩, fun a ha => va_up_off _ _ ?_, fun a ha => List.mem_append_left _ ha⟩
  · refine List.nodup_append.mpr ⟨hW.1.1, by simp, fun a ha b hb => ?_⟩
    rw [List.mem_singleton.mp hb]
    exact fun w => hnd (w ▸ ha)
  · rw [h_sh_nw]
    by_cases hz : a = na
    · rw [if_pos hz]
      exact ⟨fun _ => List.mem_append_right _ (by rw [hz]; exact List.mem_singleton.mpr rfl), fun _ w => by cases w⟩
    · rw [if_neg hz, hW.1.2.1 a]
      exact ⟨fun z => List.mem_append_left _ z, fun z => (List.mem_append.mp z).resolve_right (fun w => hz (List.mem_singleton.mp w))⟩
  · rcases List.mem_append.mp ha with z | z
    · exact hW.1.2.2.1 a z
    · rw [List.mem_singleton.mp z]; exact hlt
  · rw [h_r_nw] at hc
    split at hc
    · cases hc
    · exact (hW.1.2.2.2 b k c hc).imp (fun z => List.mem_append_left _ z) id
  · rcases ha with z | z
    · exact fun w => hnd (w ▸ z)
    · omega
theorem aw_new {ci : Nat} {C : String} {T : u_T} {N idx : Nat} (na : Nat) (hc : kc_ ci C T N) (hcl : Cond.classLink (mY M).cls idx C ∈ lw_g) (hin : Cond.instantiable C N ∈ lw_g) (hini : Cond.initialized C ∈ lw_g) (hna : h_sh h na = none) (hlt : na < 1000) (hXs : xs_ M) (hkc : kc + 1 ≤ (mR M).cells) (hks : ks + N ≤ (mR M).slots) (hd : decode (mC M) pc = .ok (.new idx, 3)) (k : AW M (kc + 1) (ks + N) (pc + 3) lv (.ref na :: st) (h_nw h na (ci + 10) N) K) : AW M kc ks pc lv st h K := by
  intro l p e s m args below meth c dC dI cy A ad0 adV ad dom0 dom H locs ls hf hX hT hE hW hS hl ho hs
  refine va_new (fs := (List.range N).map (fun k => h_dv (h_kd (h_tyc ci k)))) hf.1 hf.2.1 hf.2.2.2.2.2.2.2.1 hc.2.1 (h_tyc ci) hc.2.2.1 hf.2.2.2.2.2.1 (hf.2.2.2.2.2.2.2.1 _ hcl) (hf.2.2.2.2.2.2.2.1 _ hin) (hf.2.2.2.2.2.2.2.1 _ hini) hf.2.2.2.2.2.2.2.2.1.1 hW.2.1 hW.2.2 hS hf.2.2.2.2.2.2.2.2.2 hc.1 (fun j hj => ?_) hkc hks hd (fun q H1 h1 h2 hS1 => ?_)
  · rw [hc.2.2.2.2 j hj]
    simp [vp_V, hj]
  · have he : h_ce cy (va_up ad na q) (h_nw h na (ci + 10) N) na = .inr (ci, (List.range N).map (fun k => h_dv (h_kd (h_tyc ci k)))) := by
      rw [h_ce_obj (ci := ci) (n := N) (by rw [h_sh_nw, if_pos rfl])]
      congr 3
      funext j
      unfold h_fv
      rw [h_i_nw, h_l_nw, h_r_nw, if_pos rfl, if_pos rfl, if_pos rfl]
      cases h_kd (h_tyc ci j) with
      | zero => rfl
      | succ x => cases x <;> rfl
    obtain ⟨hW1, hE1⟩ := wd_nw hW hna hlt he h1 h2
    have hz := aw_on (l := l) (e := e) (below := below) hXs k hf hX hT hE hE1 hW1 hS1 hl ho (ok_c (fun z w => by cases w; exact Or.inl (List.mem_append_right _ (List.mem_singleton.mpr rfl))) (fun v hv => h_ok_mono hE1.2 (hs v hv)))
    rw [List.map_cons, cvs_same (ad := ad) (fun v hv z w => hE1.1 z (hs v hv z w))] at hz
    rw [show h_cv (va_up ad na q) (.ref na) = .ref q from congrArg Value.ref (va_up_at _ _ _)] at hz
    exact hz
theorem aw_newa {t : Nat} {atype : ArrayType} {n : Int32} (na N : Nat) (ht : t < 4) (hty : (h_tys (fun _ => 0))[t]? = some (0, newarray.typeOf atype)) (hac : Cond.arrayClass (newarray.typeOf atype) ∈ lw_g) (hna : h_sh h na = none) (hlt : na < 1000) (hXs : xs_ M) (hn : ¬ n < 0) (hN : n.toNatClampNeg = N) (hb : N * componentBytes (newarray.typeOf atype) ≤ 536870912) (hkc : kc + 1 ≤ (mR M).cells) (hks : ks + N ≤ (mR M).slots) (hd : decode (mC M) pc = .ok (.newarray atype, 2)) (k : AW M (kc + 1) (ks + N) (pc + 2) lv (.ref na :: st) (h_nw h na t N) K) : AW M kc ks pc lv (.int n :: st) h K := by
  intro l p e s m args below meth c dC dI cy A ad0 adV ad dom0 dom H locs ls hf hX hT hE hW hS hl ho hs
  have hK := hf.2.2.2.2.2.2.2.2.1.1
  have htc : (h_tys cy)[t]? = some (cy t, newarray.typeOf atype) := by
    match t, ht with
    | 0, _ => cases atype <;> first | rfl | cases hty
    | 1, _ => cases atype <;> first | rfl | cases hty
    | 2, _ => cases atype <;> first | rfl | cases hty
    | 3, _ => cases atype <;> first | rfl | cases hty
  have hpr : ∀ cA, va_RA s cA (newarray.typeOf atype) → s.vm.findClass ("[" ++ (newarray.typeOf atype).toString) = some cA := fun cA w => by cases atype <;> exact w
  refine va_newa (a0 := (N, h_ar ad (h_nw h na t N) na t)) hf.1 hf.2.1 (hf.2.2.2.2.2.2.2.1 _ hac) rfl hK hW.2.1 hW.2.2 hS hf.2.2.2.2.2.2.2.2.2 (fun cA => ?_) hn hN hb hkc hks hd (fun q cA H1 hK1 h1 h2 hS1 => ?_)
  · match t, ht with
    | 0, _ => cases atype <;> first | (unfold h_ar; rw [h_i_nw, if_pos rfl]; rfl) | cases hty
    | 1, _ => cases atype <;> first | (unfold h_ar; rw [h_i_nw, if_pos rfl]; rfl) | cases hty
    | 2, _ => cases atype <;> first | (unfold h_ar; rw [h_i_nw, if_pos rfl]; rfl) | cases hty
    | 3, _ => cases atype <;> first | (unfold h_ar; rw [h_l_nw, if_pos rfl]; rfl) | cases hty
  · have hcA : cA = cy t := by
      have e1 := hpr _ (hK1.2 5 (cA, newarray.typeOf atype) rfl).2
      have e2 := hpr _ (hK.2 t (cy t, newarray.typeOf atype) htc).2
      exact Option.some.inj (e1.symm.trans e2)
    subst hcA
    have har : h_ar (va_up ad na q) (h_nw h na t N) na t = h_ar ad (h_nw h na t N) na t := by
      match t, ht with
      | 0, _ => rfl
      | 1, _ => rfl
      | 2, _ => rfl
      | 3, _ => rfl
    have he : h_ce cy (va_up ad na q) (h_nw h na t N) na = .inl (cy t, N, h_ar ad (h_nw h na t N) na t) := by
      rw [h_ce_arr (t := t) (n := N) (by rw [h_sh_nw, if_pos rfl]) (by omega), har]
    obtain ⟨hW1, hE1⟩ := wd_nw hW hna hlt he h1 h2
    have hz := aw_on (l := l) (e := e) (below := below) hXs k hf hX hT hE hE1 hW1 hS1 hl ho (ok_c (fun z w => by cases w; exact Or.inl (List.mem_append_right _ (List.mem_singleton.mpr rfl))) (fun v hv => h_ok_mono hE1.2 (ok_t hs v hv)))
    rw [List.map_cons, cvs_same (ad := ad) (fun v hv z w => hE1.1 z (ok_t hs v hv z w))] at hz
    rw [show h_cv (va_up ad na q) (.ref na) = .ref q from congrArg Value.ref (va_up_at _ _ _)] at hz
    exact hz
theorem aw_newq {idx : Nat} {n : Int32} (na N : Nat) (hcl : Cond.classLink (mY M).cls idx "CountyWatch$Constable" ∈ lw_g) (hna : h_sh h na = none) (hlt : na < 1000) (hXs : xs_ M) (hn : ¬ n < 0) (hN : n.toNatClampNeg = N) (hb : N * 4 ≤ 536870912) (hkc : kc + 1 ≤ (mR M).cells) (hks : ks + N ≤ (mR M).slots) (hd : decode (mC M) pc = .ok (.anewarray idx, 3)) (k : AW M (kc + 1) (ks + N) (pc + 3) lv (.ref na :: st) (h_nw h na 4 N) K) : AW M kc ks pc lv (.int n :: st) h K := by
  intro l p e s m args below meth c dC dI cy A ad0 adV ad dom0 dom H locs ls hf hX hT hE hW hS hl ho hs
  have hK := hf.2.2.2.2.2.2.2.2.1.1
  refine va_newq hf.1 hf.2.1 hf.2.2.2.2.2.1 (hf.2.2.2.2.2.2.2.1 _ hcl) hf.2.2.2.2.2.2.2.2.1.2.2 hK hW.2.1 hW.2.2 hS hf.2.2.2.2.2.2.2.2.2 hn hN hb hkc hks hd (fun q cA H1 hK1 h1 h2 hS1 => ?_)
  have hcA : cA = cy 4 := by
    obtain ⟨_, _, _, _, _, e1⟩ := (hK1.2 5 (cA, .object "CountyWatch$Constable") rfl).2
    obtain ⟨_, _, _, _, _, e2⟩ := (hK.2 4 (cy 4, .object "CountyWatch$Constable") rfl).2
    exact Option.some.inj (e1.symm.trans e2)
  subst hcA
  have he : h_ce cy (va_up ad na q) (h_nw h na 4 N) na = .inl (cy 4, N, .inr (.inr (.inr (.inr (fun _ => none))))) := by
    rw [h_ce_arr (t := 4) (n := N) (by rw [h_sh_nw, if_pos rfl]) (by omega)]
    unfold h_ar
    rw [h_r_nw, if_pos rfl]
    rfl
  obtain ⟨hW1, hE1⟩ := wd_nw hW hna hlt he h1 h2
  have hz := aw_on (l := l) (e := e) (below := below) hXs k hf hX hT hE hE1 hW1 hS1 hl ho (ok_c (fun z w => by cases w; exact Or.inl (List.mem_append_right _ (List.mem_singleton.mpr rfl))) (fun v hv => h_ok_mono hE1.2 (ok_t hs v hv)))
  rw [List.map_cons, cvs_same (ad := ad) (fun v hv z w => hE1.1 z (ok_t hs v hv z w))] at hz
  rw [show h_cv (va_up ad na q) (.ref na) = .ref q from congrArg Value.ref (va_up_at _ _ _)] at hz
  exact hz
end AWC
end
section
/-! contracts -/
def cp_ (dC : Nat → ClassId) (dI : Nat → Nat → Nat) (cy : Nat → ClassId) (ad adV : Nat → Nat) (dom : List Nat) (h : Hp_) (sz : Nat) (U : State) : Prop :=
  U.heap.size = sz ∧ va_P (dC, dI) kl_ (h_W cy ad h dom) U.heap ∧ va_D (fun _ => True) (h_W cy ad h dom) ∧ cx_ dC dI cy U ∧ st_ ad adV (va_A (h_W cy ad h dom) sz) U
def Ct (M : Mc_) (vs : List Value) (h : Hp_) (K : Option Value → Hp_ → Prop) : Prop :=
  ∀ (l : Ln_) (dC : Nat → ClassId) (dI : Nat → Nat → Nat) (cy : Nat → ClassId) (ad adV : Nat → Nat) (dom : List Nat) (sz : Nat), (dom.Nodup ∧ (∀ a, h_sh h a ≠ none ↔ a ∈ dom) ∧ (∀ a ∈ dom, a < 1000) ∧ ∀ b k c, h_r h b k = some c → c ∈ dom ∨ 1000 ≤ c) → (∀ v ∈ vs, h_ok dom v) →
    Met l.1 (mY M) (Cond.code (mY M) (mC M) (mN M) (mT M) :: lw_g) (mR M) (va_Pc (vs.map (h_cv ad)) (cp_ dC dI cy ad adV dom h sz)) (qq_ K dC dI cy (va_A (h_W cy ad h dom) sz) ad dom) (mR M).cells (mR M).slots (va_A (h_W cy ad h dom) sz)
theorem lv_args_cv (ad : Nat → Nat) : ∀ (vs : List Value) (i : Nat), lv_args i (vs.map (h_cv ad)) = (lv_args i vs).map (fun q => (q.1, h_cv ad q.2))
  | [], _ => rfl
  | v :: vs, i => by
    simp only [List.map_cons, lv_args, cv_cat, lv_args_cv ad vs]
theorem lv_args_mem : ∀ {vs : List Value} {i : Nat} {q : Nat × Value}, q ∈ lv_args i vs → q.2 ∈ vs
  | [], _, q, h => by simp [lv_args] at h
  | v :: vs, i, q, h => by
    simp only [lv_args] at h
    rcases List.mem_cons.mp h with h | h
    · rw [h]; exact List.mem_cons_self
    · exact List.mem_cons_of_mem _ (lv_args_mem h)
theorem lg_sl_len (ad : Nat → Nat) : ∀ vs : List Value, (lg_sl (vs.map (h_cv ad))).length = (lg_sl vs).length
  | [] => rfl
  | v :: vs => by
    have ih := lg_sl_len ad vs
    simp only [lg_sl, List.map_cons, List.flatMap_cons, List.length_append, cv_cat] at ih ⊢
    rw [ih]
    split <;> rfl
theorem cx_moved {dC : Nat → ClassId} {dI : Nat → Nat → Nat} {cy : Nat → ClassId} {s U : State} (hW : s.WarmedH U.vm) (h : cx_ dC dI cy s) : cx_ dC dI cy U :=
  ⟨va_K.moved hW.alike h.1, fun w hw => va_Nw.warmM hW (h.2.1 w hw), va_AO.moved hW.alike h.2.2⟩
theorem Ct.of {M : Mc_} {vs : List Value} {h : Hp_} {K : Option Value → Hp_ → Prop} (hX : ∀ ad A s, mX M ad A s) (hy : plainName (mY M).cls = true) (hv : (lg_sl vs).length ≤ mN M) (k : AW M 0 0 0 (lv_args 0 vs) [] h K) : Ct M vs h K := by
  intro l dC dI cy ad adV dom sz hdm hok
  refine Met.ofW (cc := mC M) (maxL := mN M) (ret := mT M) hy rfl ?_
  intro p e s m args below meth c s₁ B hml hv0
  obtain ⟨rfl, hsz, hP, hD0, hcx, hst⟩ := hv0
  have hts := atoms_spec (ws := Cond.code (mY M) (mC M) (mN M) (mT M) :: lw_g) B.pre
  have hown : s.vm.findClass (mY M).cls = some m.cls := findClass_of_methodNamed B.named
  have hnm : meth.name = (mY M).name := (name_of_methodNamed B.named B.method).1
  subst hsz
  have hD := hD0.self (sz := s.heap.size)
  have hl := lv_entry (vs.map (h_cv ad)) (n := mN M) (by rw [lg_sl_len]; exact hv)
  rw [lg_entry_eq]
  generalize (lg_sl (vs.map (h_cv ad)) ++ List.replicate (mN M - (lg_sl (vs.map (h_cv ad))).length) Slot.unset).toArray = ls at hl ⊢
  rw [lv_args_cv] at hl
  exact k l p e s m _ below meth c dC dI cy (va_A (h_W cy ad h dom) s.heap.size) ad adV ad dom dom s.heap [] ls ⟨B.exec, B.bytes, hml, B.returns, B.notSynchronized, hown, hnm, fun w hw => hts w (List.mem_cons_of_mem _ hw), hcx, fun q hq => Or.inr hq⟩ (hX _ _ _) hst ⟨fun _ _ => rfl, fun _ ha => ha⟩ ⟨hdm, hP, hD⟩ va_S.rf hl (fun q hq => hok _ (lv_args_mem hq)) (fun v hv => by cases hv)
end
section
/-! calls -/
theorem cp_blind {dC : Nat → ClassId} {dI : Nat → Nat → Nat} {cy : Nat → ClassId} {ad adV : Nat → Nat} {dom : List Nat} {h : Hp_} {sz : Nat} {av : List Value} : FrameBlind (va_Pc av (cp_ dC dI cy ad adV dom h sz)) := by
  intro a U g mk hq
  obtain ⟨q0, q1, q2, q3, q4, q5⟩ := hq
  refine ⟨q0, q1, q2, q3, ⟨va_K.moved (u := U) (U := U.calling g mk a) (Vm.Alike.refl U.vm) q4.1, fun w hw => va_Nw.same rfl rfl (q4.2.1 w hw), va_AO.moved (u := U) (U := U.calling g mk a) (Vm.Alike.refl U.vm) q4.2.2⟩, tx_.moved (u := U) (U := U.calling g mk a) (Vm.Alike.refl U.vm) q5.1, fun r hr => vk_R.same rfl (q5.2 r hr)⟩
theorem cp_sub {dC : Nat → ClassId} {dI : Nat → Nat → Nat} {cy : Nat → ClassId} {A : Nat → Prop} {ad : Nat → Nat} {dom : List Nat} {h : Hp_} {H H0 : Heap} {locs : List Loc} (hA : ∀ q, H0.size ≤ q → A q) (hW : wd_ dC dI cy A ad dom h H) (hS : va_S A H0 H locs) : ∀ q, va_A (h_W cy ad h dom) H.size q → A q := by
  intro q hq
  rcases hq with ⟨k, e, hq⟩ | hq
  · exact hW.2.2.2 k (q, e) hq
  · exact hA q (Nat.le_trans hS.1 hq)
theorem cp_pre {y : MethodName} {cc : ByteArray} {nL : Nat} {ret : Option FieldType} {p : Program} {s : State} {m : MethodId} {args : Array Value} {meth : Method} {c : Code} {dC : Nat → ClassId} {dI : Nat → Nat → Nat} {cy : Nat → ClassId} {A : Nat → Prop} {adV ad : Nat → Nat} {dom : List Nat} {h : Hp_} {H : Heap} {locs : List Loc} (hf : fr_ y cc nL ret p s m args meth c dC dI cy A) (hT : st_ ad adV A s) (hW : wd_ dC dI cy A ad dom h H) (hS : va_S A s.heap H locs) {U : State} (hU : U.heap = H) (hWm : s.WarmedH U.vm) : cp_ dC dI cy ad adV dom h H.size U := by
  refine ⟨by rw [hU], by rw [hU]; exact hW.2.1, hW.2.2.weaken (fun _ _ _ _ => trivial), cx_moved hWm hf.2.2.2.2.2.2.2.2.1, ?_, fun r hr => vk_R.warm hWm (hT.2 r hr)⟩
  rw [hU]
  exact tx_.narrow (tx_.moved hWm.alike (tx_.kept hT.1 (fun a h1 h2 => hS.2.1 a h1 h2))) (cp_sub hf.2.2.2.2.2.2.2.2.2 hW hS)
theorem aw_back {M : Mc_} {kc ks mc ms pc : Nat} {lv : List (Nat × Value)} {rest st0 : List Value} {h : Hp_} {K K' : Option Value → Hp_ → Prop} (hXs : xs_ M)
    {l : Ln_} {p : Program} {e : Env} {s : State} {m : MethodId} {args a : Array Value} {below : List Frame} {meth : Method} {c : Code} {dC : Nat → ClassId} {dI : Nat → Nat → Nat} {cy : Nat → ClassId} {A : Nat → Prop} {ad0 adV ad : Nat → Nat} {dom0 dom : List Nat} {H : Heap} {locs : List Loc} {ls : Array Slot}
    (hf : fr_ (mY M) (mC M) (mN M) (mT M) p s m args meth c dC dI cy A) (hX : mX M ad A s) (hT : st_ ad adV A s) (hE : ex_ ad0 ad dom0 dom) (hW : wd_ dC dI cy A ad dom h H) (hS : va_S A s.heap H locs) (hl : lv_has ls (mN M) (lv.map (fun q => (q.1, h_cv ad q.2)))) (ho : ∀ q ∈ lv, h_ok dom q.2) (hs : ∀ v ∈ rest, h_ok dom v)
    (hr : va_Run p l.1 e (mR M) s m args below meth c H locs kc ks mc ms (F0 m pc ls st0) (rest.map (h_cv ad)) (qq_ K' dC dI cy (va_A (h_W cy ad h dom) H.size) ad dom a) (va_A (h_W cy ad h dom) H.size))
    (k : ∀ v h', K' v h' → AW M (kc + mc) (ks + ms) (pc + 3) lv (v.toList ++ rest) h' K) :
    W p l.1 e (mR M) s m args below meth c H locs kc ks (MQ below (qq_ K dC dI cy A ad0 dom0) args s (mR M).cells (mR M).slots A) (F0 m pc ls st0) := by
  intro T hT0 X
  obtain ⟨v, st₀, t, T', L, h0, X', hL, e1, e2, ⟨⟨v', h', ad', dom', hv, hK', hW', hov, hE'⟩, hz, hkp⟩, stp⟩ := hr T hT0 X
  cases hv
  rw [h0] at hz hkp
  have hAA := cp_sub hf.2.2.2.2.2.2.2.2.2 hW hS
  have hS1 : va_S A s.heap T'.heap (locs ++ L) := ⟨Nat.le_trans hS.1 (by rw [e1]; exact hz), fun q h1 h2 => by rw [e1, hkp q (Nat.lt_of_lt_of_le h1 hS.1) (fun z => h2 (hAA q z))]; exact hS.2.1 q h1 h2, fun q hq => by
      rcases List.mem_append.mp hq with z | z
      · exact hS.2.2 q z
      · exact hAA _ (hL q z)⟩
  have hW1 : wd_ dC dI cy A ad' dom' h' T'.heap := ⟨hW'.1, by rw [e1]; exact hW'.2.1, hW'.2.2.weaken (fun _ _ _ z => hAA _ z)⟩
  have hs1 : ∀ x ∈ v'.toList ++ rest, h_ok dom' x := by
    intro x hx
    rcases List.mem_append.mp hx with z | z
    · exact hov x (Option.mem_toList.mp z)
    · exact h_ok_mono hE'.2 (hs x z)
  have hz1 := aw_on (l := l) (e := e) (below := below) hXs (k v' h' hK') hf hX hT hE hE' hW1 hS1 hl ho hs1
  obtain ⟨t2, a1, b1⟩ := hz1 T' rfl X'
  refine ⟨t2, stp t2 ?_, b1⟩
  rw [List.map_append, cvs_same (ad := ad) (fun x hx z w => hE'.1 z (hs x hx z w))] at a1
  cases v' <;> exact a1
/-- what is known of a method that is called -/
def cm_ (M : Mc_) (n : Nat) : Prop := Cond.code (mY M) (mC M) (mN M) (mT M) ∈ lw_g ∧ Cond.initialized (mY M).cls ∈ lw_g ∧ ((mY M).cls ≠ "java/lang/invoke/MethodHandle" ∧ (mY M).cls ≠ "java/lang/invoke/VarHandle") ∧ (parseMethodDescriptor (mY M).desc).map (fun d => d.parameters.length) = some n
theorem cb_ws {M : Mc_} {n : Nat} {s : State} {args : Array Value} (hts : ∀ w ∈ lw_g, w.before args s = true) (hm : cm_ M n) : ∀ w ∈ Cond.code (mY M) (mC M) (mN M) (mT M) :: lw_g, ∀ (a' : Array Value) (U : State), s.WarmedH U.vm → w.before a' U = true := by
  intro w hw a' U hWm
  have hw' : w ∈ lw_g := (List.mem_cons.mp hw).elim (fun e => e ▸ hm.1) id
  exact word_at hWm (good_of_word (List.mem_filter.mp hw').2) (hts w hw')
theorem cb_par {M : Mc_} {n : Nat} (hm : cm_ M n) : ∀ sig, parseMethodDescriptor (mY M).desc = some sig → n = sig.parameters.length := by
  intro sig h
  have h2 := hm.2.2.2
  rw [h] at h2
  exact (Option.some.inj h2).symm
theorem cb_ {M : Mc_} {n idx : Nat} {own : String} {R : Room} {s : State} {args : Array Value} (hts : ∀ w ∈ lw_g, w.before args s = true) (hm : cm_ M n) (hlk : Cond.methodLink own idx (mY M) ∈ lw_g) (hR : (mR M).frames + 1 ≤ R.frames ∧ 8 + (mN M + 11) + (mR M).locals ≤ R.locals) :
    CallB R s args own idx (mY M) (mC M) (mN M) (mT M) (Cond.code (mY M) (mC M) (mN M) (mT M) :: lw_g) (mR M) (mR M).cells (mR M).slots n :=
  ⟨rfl, rfl, hR.1, hR.2, cb_ws hts hm, List.mem_cons_self, hts _ hm.1, hts _ hm.2.1, hm.2.2.1, cb_par hm, hts _ hlk⟩
theorem cb_n {M : Mc_} {n idx : Nat} {own : String} {R : Room} {s : State} {args : Array Value} (hts : ∀ w ∈ lw_g, w.before args s = true) (hm : cm_ M n) (hlk : va_Nw (.methodLinkNest own idx (mY M) "CountyWatch") s) (hR : (mR M).frames + 1 ≤ R.frames ∧ 8 + (mN M + 11) + (mR M).locals ≤ R.locals) :
    va_CN R s args own idx (mY M) "CountyWatch" (mC M) (mN M) (mT M) (Cond.code (mY M) (mC M) (mN M) (mT M) :: lw_g) (mR M) (mR M).cells (mR M).slots n :=
  ⟨⟨rfl, rfl, hR.1, hR.2, cb_ws hts hm, List.mem_cons_self⟩, hts _ hm.1, hts _ hm.2.1, hm.2.2.1, cb_par hm, va_Nw.use rfl hlk⟩
section AWK
variable {M M' : Mc_} {kc ks pc : Nat} {lv : List (Nat × Value)} {vs rest : List Value} {h : Hp_} {K K' : Option Value → Hp_ → Prop} {n idx : Nat}
theorem cat_cv (ad : Nat → Nat) (rest : List Value) : (rest.map (h_cv ad)).map (fun v => v.category) = rest.map (fun v => v.category) := by
  rw [List.map_map]
  exact List.map_congr_left (fun v _ => cv_cat ad v)
theorem aw_callS (hd : decode (mC M) pc = .ok (.invokestatic idx, 3)) (hm : cm_ M' n) (hst : Cond.static (mY M') ∈ lw_g) (hlk : Cond.methodLink (mY M).cls idx (mY M') ∈ lw_g) (hn : vs.length = n) (hR : (mR M').frames + 1 ≤ (mR M).frames ∧ 8 + (mN M' + 11) + (mR M').locals ≤ (mR M).locals) (hc : (rest.map (fun v => v.category)).sum ≤ 8) (hk : kc + (mR M').cells ≤ (mR M).cells ∧ ks + (mR M').slots ≤ (mR M).slots) (hXs : xs_ M)
    (hC : Ct M' vs h K') (k : ∀ v h', K' v h' → AW M (kc + (mR M').cells) (ks + (mR M').slots) (pc + 3) lv (v.toList ++ rest) h' K) : AW M kc ks pc lv (vs.reverse ++ rest) h K := by
  intro l p e s m args below meth c dC dI cy A ad0 adV ad dom0 dom H locs ls hf hX hT hE hW hS hl ho hs
  have hov : ∀ v ∈ vs, h_ok dom v := fun v hv => hs v (List.mem_append_left _ (List.mem_reverse.mpr hv))
  refine aw_back (a := (vs.map (h_cv ad)).toArray) hXs hf hX hT hE hW hS hl ho (fun v hv => hs v (List.mem_append_right _ hv)) ?_ k
  exact va_runS (As := vs.map (h_cv ad)) ⟨hf.1, hf.2.1, hf.2.2.1, hf.2.2.2.2.2.1, hf.2.2.2.2.2.2.2.1⟩ (hC l dC dI cy ad adV dom H.size hW.1 hov) ⟨cb_ hf.2.2.2.2.2.2.2.1 hm hlk hR, hf.2.2.2.2.2.2.2.1 _ hst⟩ ⟨cp_blind, fun U hU hWm => ⟨rfl, cp_pre hf hT hW hS hU hWm⟩⟩ rfl (by rw [List.length_map]; exact hn) hl.1 (by rw [List.map_append, List.map_reverse]) (lv_room (by rw [cat_cv]; exact hc)) hd hk
theorem aw_callSN (hd : decode (mC M) pc = .ok (.invokestatic idx, 3)) (hm : cm_ M' n) (hst : Cond.static (mY M') ∈ lw_g) (hlk : ((mY M).cls, idx, mY M') ∈ h_nest) (hn : vs.length = n) (hR : (mR M').frames + 1 ≤ (mR M).frames ∧ 8 + (mN M' + 11) + (mR M').locals ≤ (mR M).locals) (hc : (rest.map (fun v => v.category)).sum ≤ 8) (hk : kc + (mR M').cells ≤ (mR M).cells ∧ ks + (mR M').slots ≤ (mR M).slots) (hXs : xs_ M)
    (hC : Ct M' vs h K') (k : ∀ v h', K' v h' → AW M (kc + (mR M').cells) (ks + (mR M').slots) (pc + 3) lv (v.toList ++ rest) h' K) : AW M kc ks pc lv (vs.reverse ++ rest) h K := by
  intro l p e s m args below meth c dC dI cy A ad0 adV ad dom0 dom H locs ls hf hX hT hE hW hS hl ho hs
  have hov : ∀ v ∈ vs, h_ok dom v := fun v hv => hs v (List.mem_append_left _ (List.mem_reverse.mpr hv))
  refine aw_back (a := (vs.map (h_cv ad)).toArray) hXs hf hX hT hE hW hS hl ho (fun v hv => hs v (List.mem_append_right _ hv)) ?_ k
  exact va_runSN (As := vs.map (h_cv ad)) ⟨hf.1, hf.2.1, hf.2.2.1, hf.2.2.2.2.2.1, hf.2.2.2.2.2.2.2.1⟩ (hC l dC dI cy ad adV dom H.size hW.1 hov) ⟨cb_n hf.2.2.2.2.2.2.2.1 hm (hf.2.2.2.2.2.2.2.2.1.2.1 _ hlk) hR, hf.2.2.2.2.2.2.2.1 _ hst, trivial⟩ ⟨cp_blind, fun U hU hWm => ⟨rfl, cp_pre hf hT hW hS hU hWm⟩⟩ rfl (by rw [List.length_map]; exact hn) hl.1 (by rw [List.map_append, List.map_reverse]) (lv_room (by rw [cat_cv]; exact hc)) hd hk
theorem aw_callV {ci a N : Nat} {C : String} {T : u_T} (hd : decode (mC M) pc = .ok (.invokevirtual idx, 3)) (hm : cm_ M' n) (hkc : kc_ ci C T N) (hs0 : h_sh h a = some (ci + 10, N)) (hin : Cond.instanceMethod (mY M') ∈ lw_g) (hse : Cond.selects C (mY M') (mY M') ∈ lw_g) (hlk : Cond.methodLink (mY M).cls idx (mY M') ∈ lw_g) (hn : vs.length = n) (hR : (mR M').frames + 1 ≤ (mR M).frames ∧ 8 + (mN M' + 11) + (mR M').locals ≤ (mR M).locals) (hc : (rest.map (fun v => v.category)).sum ≤ 8) (hk : kc + (mR M').cells ≤ (mR M).cells ∧ ks + (mR M').slots ≤ (mR M).slots) (hXs : xs_ M)
    (hC : Ct M' (.ref a :: vs) h K') (k : ∀ v h', K' v h' → AW M (kc + (mR M').cells) (ks + (mR M').slots) (pc + 3) lv (v.toList ++ rest) h' K) : AW M kc ks pc lv (vs.reverse ++ .ref a :: rest) h K := by
  intro l p e s m args below meth c dC dI cy A ad0 adV ad dom0 dom H locs ls hf hX hT hE hW hS hl ho hs
  have hov : ∀ v ∈ Value.ref a :: vs, h_ok dom v := fun v hv => hs v (by
    rcases List.mem_cons.mp hv with z | z
    · exact List.mem_append_right _ (by rw [z]; exact List.mem_cons_self)
    · exact List.mem_append_left _ (List.mem_reverse.mpr z))
  obtain ⟨q, hq, hw⟩ := h_W_get (cy := cy) (ad := ad) (h := h) (wd_in hW hs0)
  rw [h_ce_obj hs0] at hw
  refine aw_back (a := (Value.ref (ad a) :: vs.map (h_cv ad)).toArray) hXs hf hX hT hE hW hS hl ho (fun v hv => hs v (List.mem_append_right _ (List.mem_cons_of_mem _ hv))) ?_ k
  exact va_runV (As := vs.map (h_cv ad)) ⟨hf.1, hf.2.1, hf.2.2.1, hf.2.2.2.2.2.1, hf.2.2.2.2.2.2.2.1⟩ (hC l dC dI cy ad adV dom H.size hW.1 hov) ⟨cb_ hf.2.2.2.2.2.2.2.1 hm hlk hR, hf.2.2.2.2.2.2.2.1 _ hin, hf.2.2.2.2.2.2.2.1 _ hse⟩ ⟨cp_blind, va_recv hf.2.2.2.2.2.2.2.2.1.1 hW.2.1 hkc.1 hw, fun U hU hWm => ⟨rfl, cp_pre hf hT hW hS hU hWm⟩⟩ rfl (by rw [List.length_map]; exact hn) hl.1 (by rw [List.map_append, List.map_reverse]; rfl) (lv_room (by rw [cat_cv]; exact hc)) hd hk
theorem aw_callI {a : Nat} (hd : decode (mC M) pc = .ok (.invokespecial idx, 3)) (hm : cm_ M' n) (hnm : (mY M').name = "<init>" ∧ mT M' = none) (hin : Cond.instanceMethod (mY M') ∈ lw_g) (hlk : Cond.methodLink (mY M).cls idx (mY M') ∈ lw_g) (hn : vs.length = n) (hR : (mR M').frames + 1 ≤ (mR M).frames ∧ 8 + (mN M' + 11) + (mR M').locals ≤ (mR M).locals) (hc : (rest.map (fun v => v.category)).sum ≤ 8) (hk : kc + (mR M').cells ≤ (mR M).cells ∧ ks + (mR M').slots ≤ (mR M).slots) (hXs : xs_ M)
    (hC : Ct M' (.ref a :: vs) h K') (k : ∀ v h', K' v h' → AW M (kc + (mR M').cells) (ks + (mR M').slots) (pc + 3) lv (v.toList ++ rest) h' K) : AW M kc ks pc lv (vs.reverse ++ .ref a :: rest) h K := by
  intro l p e s m args below meth c dC dI cy A ad0 adV ad dom0 dom H locs ls hf hX hT hE hW hS hl ho hs
  have hov : ∀ v ∈ Value.ref a :: vs, h_ok dom v := fun v hv => hs v (by
    rcases List.mem_cons.mp hv with z | z
    · exact List.mem_append_right _ (by rw [z]; exact List.mem_cons_self)
    · exact List.mem_append_left _ (List.mem_reverse.mpr z))
  refine aw_back (a := (Value.ref (ad a) :: vs.map (h_cv ad)).toArray) hXs hf hX hT hE hW hS hl ho (fun v hv => hs v (List.mem_append_right _ (List.mem_cons_of_mem _ hv))) ?_ k
  have hcb := cb_ (R := mR M) (s := s) (args := args) hf.2.2.2.2.2.2.2.1 hm hlk hR
  have hM := hC l dC dI cy ad adV dom H.size hW.1 hov
  rw [hnm.2] at hcb hM
  exact va_runI (As := vs.map (h_cv ad)) ⟨hf.1, hf.2.1, hf.2.2.1, hf.2.2.2.2.2.1, hf.2.2.2.2.2.2.2.1⟩ hM ⟨hcb, hnm.1, hf.2.2.2.2.2.2.2.1 _ hin⟩ ⟨cp_blind, fun U hU hWm => ⟨rfl, cp_pre hf hT hW hS hU hWm⟩⟩ rfl (by rw [List.length_map]; exact hn) hl.1 (by rw [List.map_append, List.map_reverse]; rfl) (lv_room (by rw [cat_cv]; exact hc)) hd hk
theorem aw_callIN {a : Nat} (hd : decode (mC M) pc = .ok (.invokespecial idx, 3)) (hm : cm_ M' n) (hnm : (mY M').name = "<init>" ∧ mT M' = none) (hin : Cond.instanceMethod (mY M') ∈ lw_g) (hlk : ((mY M).cls, idx, mY M') ∈ h_nest) (hn : vs.length = n) (hR : (mR M').frames + 1 ≤ (mR M).frames ∧ 8 + (mN M' + 11) + (mR M').locals ≤ (mR M).locals) (hc : (rest.map (fun v => v.category)).sum ≤ 8) (hk : kc + (mR M').cells ≤ (mR M).cells ∧ ks + (mR M').slots ≤ (mR M).slots) (hXs : xs_ M)
    (hC : Ct M' (.ref a :: vs) h K') (k : ∀ v h', K' v h' → AW M (kc + (mR M').cells) (ks + (mR M').slots) (pc + 3) lv (v.toList ++ rest) h' K) : AW M kc ks pc lv (vs.reverse ++ .ref a :: rest) h K := by
  intro l p e s m args below meth c dC dI cy A ad0 adV ad dom0 dom H locs ls hf hX hT hE hW hS hl ho hs
  have hov : ∀ v ∈ Value.ref a :: vs, h_ok dom v := fun v hv => hs v (by
    rcases List.mem_cons.mp hv with z | z
    · exact List.mem_append_right _ (by rw [z]; exact List.mem_cons_self)
    · exact List.mem_append_left _ (List.mem_reverse.mpr z))
  refine aw_back (a := (Value.ref (ad a) :: vs.map (h_cv ad)).toArray) hXs hf hX hT hE hW hS hl ho (fun v hv => hs v (List.mem_append_right _ (List.mem_cons_of_mem _ hv))) ?_ k
  have hcb := cb_n (R := mR M) (s := s) (args := args) hf.2.2.2.2.2.2.2.1 hm (hf.2.2.2.2.2.2.2.2.1.2.1 _ hlk) hR
  have hM := hC l dC dI cy ad adV dom H.size hW.1 hov
  rw [hnm.2] at hcb hM
  exact va_runIN (As := vs.map (h_cv ad)) ⟨hf.1, hf.2.1, hf.2.2.1, hf.2.2.2.2.2.1, hf.2.2.2.2.2.2.2.1⟩ hM ⟨hcb, hnm.1, hf.2.2.2.2.2.2.2.1 _ hin⟩ ⟨cp_blind, fun U hU hWm => ⟨rfl, cp_pre hf hT hW hS hU hWm⟩⟩ rfl (by rw [List.length_map]; exact hn) hl.1 (by rw [List.map_append, List.map_reverse]; rfl) (lv_room (by rw [cat_cv]; exact hc)) hd hk
theorem aw_objInit {a : Nat} (hd : decode (mC M) pc = .ok (.invokespecial idx, 3)) (hlk : Cond.methodLink (mY M).cls idx objectInit ∈ lw_g) (hin : Cond.instanceMethod objectInit ∈ lw_g) (hcd : Cond.code objectInit ⟨#[0xb1]⟩ 1 none ∈ lw_g) (hfr : 1 ≤ (mR M).frames) (hlo : (rest.map (fun v => v.category)).sum + 12 ≤ (mR M).locals) (k : AW M kc ks (pc + 3) lv rest h K) : AW M kc ks pc lv (.ref a :: rest) h K := by
  intro l p e s m args below meth c dC dI cy A ad0 adV ad dom0 dom H locs ls hf hX hT hE hW hS hl ho hs
  refine W.objInit hf.1 hf.2.1 hf.2.2.2.2.2.1 (hf.2.2.2.2.2.2.2.1 _ hlk) (hf.2.2.2.2.2.2.2.1 _ hin) (hf.2.2.2.2.2.2.2.1 _ hcd) rfl (hl.1.trans hf.2.2.1.symm) rfl hd hfr ?_ (k l p e s m args below meth c dC dI cy A ad0 adV ad dom0 dom H locs ls hf hX hT hE hW hS hl ho (ok_t hs))
  rw [cat_cv]
  exact Nat.le_trans (by simp [JFrame.monitorRoom]) hlo
end AWK
end
section
/-! contracts by what is answered -/
def Ci (M : Mc_) (vs : List Value) (h : Hp_) (K : Int32 → Hp_ → Prop) : Prop := Ct M vs h (fun v h' => ∃ r, v = some (.int r) ∧ K r h')
def Cl_ (M : Mc_) (vs : List Value) (h : Hp_) (K : Int64 → Hp_ → Prop) : Prop := Ct M vs h (fun v h' => ∃ r, v = some (.long r) ∧ K r h')
def Cv (M : Mc_) (vs : List Value) (h : Hp_) (K : Hp_ → Prop) : Prop := Ct M vs h (fun v h' => v = none ∧ K h')
def Cr (M : Mc_) (vs : List Value) (h : Hp_) (K : Option Nat → Hp_ → Prop) : Prop := Ct M vs h (fun v h' => ∃ o, v = some (va_rf o) ∧ K o h')
theorem Met_mono {l : Launch} {y : MethodName} {ws : List Cond} {rm : Room} {Pc : Array Value → State → Prop} {Q1 Q2 : Array Value → State → Outcome → State → Prop} {mc ms : Nat} {free : Addr → Prop} (h : Met l y ws rm Pc Q1 mc ms free) (hQ : ∀ a s o t, Q1 a s o t → Q2 a s o t) : Met l y ws rm Pc Q2 mc ms free := by
  intro p e ha hc hk s m args below hf hp hP hT
  obtain ⟨k, o, h1, h2, h3, h4⟩ := h p e ha hc hk s m args below hf hp hP hT
  exact ⟨k, o, h1, h2, h3, hQ _ _ _ _ h4.1, h4.2⟩
theorem Ct.mono {M : Mc_} {vs : List Value} {h : Hp_} {K K' : Option Value → Hp_ → Prop} (hC : Ct M vs h K) (hK : ∀ v h', K v h' → K' v h') : Ct M vs h K' := by
  intro l dC dI cy ad adV dom sz hdm hok
  refine Met_mono (hC l dC dI cy ad adV dom sz hdm hok) (fun a s o t hq => ?_)
  obtain ⟨⟨v, h', ad', dom', e1, e2, e3⟩, e4⟩ := hq
  exact ⟨⟨v, h', ad', dom', e1, hK _ _ e2, e3⟩, e4⟩
theorem Ci.mono {M : Mc_} {vs : List Value} {h : Hp_} {K K' : Int32 → Hp_ → Prop} (hC : Ci M vs h K) (hK : ∀ r h', K r h' → K' r h') : Ci M vs h K' := Ct.mono hC (fun _ _ ⟨r, e, k⟩ => ⟨r, e, hK _ _ k⟩)
theorem Cv.mono {M : Mc_} {vs : List Value} {h : Hp_} {K K' : Hp_ → Prop} (hC : Cv M vs h K) (hK : ∀ h', K h' → K' h') : Cv M vs h K' := Ct.mono hC (fun _ _ ⟨e, k⟩ => ⟨e, hK _ k⟩)
theorem Cr.mono {M : Mc_} {vs : List Value} {h : Hp_} {K K' : Option Nat → Hp_ → Prop} (hC : Cr M vs h K) (hK : ∀ r h', K r h' → K' r h') : Cr M vs h K' := Ct.mono hC (fun _ _ ⟨r, e, k⟩ => ⟨r, e, hK _ _ k⟩)
theorem AW.mono {M : Mc_} {kc ks pc : Nat} {lv : List (Nat × Value)} {st : List Value} {h : Hp_} {K K' : Option Value → Hp_ → Prop} (hC : AW M kc ks pc lv st h K) (hK : ∀ v h', K v h' → K' v h') : AW M kc ks pc lv st h K' := by
  intro l p e s m args below meth c dC dI cy A ad0 adV ad dom0 dom H locs ls hf hX hT hE hW hS hl ho hs T hT0 X
  obtain ⟨t, h1, o, h2, h3, h4, h5⟩ := hC l p e s m args below meth c dC dI cy A ad0 adV ad dom0 dom H locs ls hf hX hT hE hW hS hl ho hs T hT0 X
  obtain ⟨⟨v, h', ad', dom', e1, e2, e3⟩, e4⟩ := h4
  exact ⟨t, h1, o, h2, h3, ⟨⟨v, h', ad', dom', e1, hK _ _ e2, e3⟩, e4⟩, h5⟩
/-- how a method stands to its caller: room, and the caller's cells -/
def rr_ (M' M : Mc_) (kc ks : Nat) : Prop := ((mR M').frames + 1 ≤ (mR M).frames ∧ 8 + (mN M' + 11) + (mR M').locals ≤ (mR M).locals) ∧ kc + (mR M').cells ≤ (mR M).cells ∧ ks + (mR M').slots ≤ (mR M).slots
/-- a static method, an instance method: what the tables say of it -/
def cS_ (M : Mc_) (n : Nat) : Prop := cm_ M n ∧ Cond.static (mY M) ∈ lw_g
def cV_ (M : Mc_) (n : Nat) : Prop := cm_ M n ∧ Cond.instanceMethod (mY M) ∈ lw_g ∧ Cond.selects (mY M).cls (mY M) (mY M) ∈ lw_g
section AWL
variable {M M' : Mc_} {kc ks pc : Nat} {lv : List (Nat × Value)} {h : Hp_} {K : Option Value → Hp_ → Prop} {n idx : Nat}
theorem aw_Si (vs rest : List Value) (hd : decode (mC M) pc = .ok (.invokestatic idx, 3)) (hm : cS_ M' n) (hlk : Cond.methodLink (mY M).cls idx (mY M') ∈ lw_g) (hn : vs.length = n) (hR : rr_ M' M kc ks) (hc : (rest.map (fun v => v.category)).sum ≤ 8) (hXs : xs_ M) {K' : Int32 → Hp_ → Prop}
    (hC : Ci M' vs h K') (k : ∀ r h', K' r h' → AW M (kc + (mR M').cells) (ks + (mR M').slots) (pc + 3) lv (.int r :: rest) h' K) : AW M kc ks pc lv (vs.reverse ++ rest) h K :=
  aw_callS hd hm.1 hm.2 hlk hn hR.1 hc hR.2 hXs hC (fun _ _ ⟨r, e, w⟩ => e ▸ k r _ w)
theorem aw_SNi (vs rest : List Value) (hd : decode (mC M) pc = .ok (.invokestatic idx, 3)) (hm : cS_ M' n) (hlk : ((mY M).cls, idx, mY M') ∈ h_nest) (hn : vs.length = n) (hR : rr_ M' M kc ks) (hc : (rest.map (fun v => v.category)).sum ≤ 8) (hXs : xs_ M) {K' : Int32 → Hp_ → Prop}
    (hC : Ci M' vs h K') (k : ∀ r h', K' r h' → AW M (kc + (mR M').cells) (ks + (mR M').slots) (pc + 3) lv (.int r :: rest) h' K) : AW M kc ks pc lv (vs.reverse ++ rest) h K :=
  aw_callSN hd hm.1 hm.2 hlk hn hR.1 hc hR.2 hXs hC (fun _ _ ⟨r, e, w⟩ => e ▸ k r _ w)
theorem aw_Sl (vs rest : List Value) (hd : decode (mC M) pc = .ok (.invokestatic idx, 3)) (hm : cS_ M' n) (hlk : Cond.methodLink (mY M).cls idx (mY M') ∈ lw_g) (hn : vs.length = n) (hR : rr_ M' M kc ks) (hc : (rest.map (fun v => v.category)).sum ≤ 8) (hXs : xs_ M) {K' : Int64 → Hp_ → Prop}
    (hC : Cl_ M' vs h K') (k : ∀ r h', K' r h' → AW M (kc + (mR M').cells) (ks + (mR M').slots) (pc + 3) lv (.long r :: rest) h' K) : AW M kc ks pc lv (vs.reverse ++ rest) h K :=
  aw_callS hd hm.1 hm.2 hlk hn hR.1 hc hR.2 hXs hC (fun _ _ ⟨r, e, w⟩ => e ▸ k r _ w)
theorem aw_Sv (vs rest : List Value) (hd : decode (mC M) pc = .ok (.invokestatic idx, 3)) (hm : cS_ M' n) (hlk : Cond.methodLink (mY M).cls idx (mY M') ∈ lw_g) (hn : vs.length = n) (hR : rr_ M' M kc ks) (hc : (rest.map (fun v => v.category)).sum ≤ 8) (hXs : xs_ M) {K' : Hp_ → Prop}
    (hC : Cv M' vs h K') (k : ∀ h', K' h' → AW M (kc + (mR M').cells) (ks + (mR M').slots) (pc + 3) lv rest h' K) : AW M kc ks pc lv (vs.reverse ++ rest) h K :=
  aw_callS hd hm.1 hm.2 hlk hn hR.1 hc hR.2 hXs hC (fun _ _ ⟨e, w⟩ => e ▸ k _ w)
theorem aw_Vi {ci N : Nat} {T : u_T} (a : Nat) (vs rest : List Value) (hd : decode (mC M) pc = .ok (.invokevirtual idx, 3)) (hm : cV_ M' n) (hkc : kc_ ci (mY M').cls T N) (hs0 : h_sh h a = some (ci + 10, N)) (hlk : Cond.methodLink (mY M).cls idx (mY M') ∈ lw_g) (hn : vs.length = n) (hR : rr_ M' M kc ks) (hc : (rest.map (fun v => v.category)).sum ≤ 8) (hXs : xs_ M) {K' : Int32 → Hp_ → Prop}
    (hC : Ci M' (.ref a :: vs) h K') (k : ∀ r h', K' r h' → AW M (kc + (mR M').cells) (ks + (mR M').slots) (pc + 3) lv (.int r :: rest) h' K) : AW M kc ks pc lv (vs.reverse ++ .ref a :: rest) h K :=
  aw_callV hd hm.1 hkc hs0 hm.2.1 hm.2.2 hlk hn hR.1 hc hR.2 hXs hC (fun _ _ ⟨r, e, w⟩ => e ▸ k r _ w)
theorem aw_Vl {ci N : Nat} {T : u_T} (a : Nat) (vs rest : List Value) (hd : decode (mC M) pc = .ok (.invokevirtual idx, 3)) (hm : cV_ M' n) (hkc : kc_ ci (mY M').cls T N) (hs0 : h_sh h a = some (ci + 10, N)) (hlk : Cond.methodLink (mY M).cls idx (mY M') ∈ lw_g) (hn : vs.length = n) (hR : rr_ M' M kc ks) (hc : (rest.map (fun v => v.category)).sum ≤ 8) (hXs : xs_ M) {K' : Int64 → Hp_ → Prop}
    (hC : Cl_ M' (.ref a :: vs) h K') (k : ∀ r h', K' r h' → AW M (kc + (mR M').cells) (ks + (mR M').slots) (pc + 3) lv (.long r :: rest) h' K) : AW M kc ks pc lv (vs.reverse ++ .ref a :: rest) h K :=
  aw_callV hd hm.1 hkc hs0 hm.2.1 hm.2.2 hlk hn hR.1 hc hR.2 hXs hC (fun _ _ ⟨r, e, w⟩ => e ▸ k r _ w)
theorem aw_Vv {ci N : Nat} {T : u_T} (a : Nat) (vs rest : List Value) (hd : decode (mC M) pc = .ok (.invokevirtual idx, 3)) (hm : cV_ M' n) (hkc : kc_ ci (mY M').cls T N) (hs0 : h_sh h a = some (ci + 10, N)) (hlk : Cond.methodLink (mY M).cls idx (mY M') ∈ lw_g) (hn : vs.length = n) (hR : rr_ M' M kc ks) (hc : (rest.map (fun v => v.category)).sum ≤ 8) (hXs : xs_ M) {K' : Hp_ → Prop}
    (hC : Cv M' (.ref a :: vs) h K') (k : ∀ h', K' h' → AW M (kc + (mR M').cells) (ks + (mR M').slots) (pc + 3) lv rest h' K) : AW M kc ks pc lv (vs.reverse ++ .ref a :: rest) h K :=
  aw_callV hd hm.1 hkc hs0 hm.2.1 hm.2.2 hlk hn hR.1 hc hR.2 hXs hC (fun _ _ ⟨e, w⟩ => e ▸ k _ w)
theorem aw_Vr {ci N : Nat} {T : u_T} (a : Nat) (vs rest : List Value) (hd : decode (mC M) pc = .ok (.invokevirtual idx, 3)) (hm : cV_ M' n) (hkc : kc_ ci (mY M').cls T N) (hs0 : h_sh h a = some (ci + 10, N)) (hlk : Cond.methodLink (mY M).cls idx (mY M') ∈ lw_g) (hn : vs.length = n) (hR : rr_ M' M kc ks) (hc : (rest.map (fun v => v.category)).sum ≤ 8) (hXs : xs_ M) {K' : Option Nat → Hp_ → Prop}
    (hC : Cr M' (.ref a :: vs) h K') (k1 : ∀ h', K' none h' → AW M (kc + (mR M').cells) (ks + (mR M').slots) (pc + 3) lv (.null :: rest) h' K) (k2 : ∀ b h', K' (some b) h' → AW M (kc + (mR M').cells) (ks + (mR M').slots) (pc + 3) lv (.ref b :: rest) h' K) : AW M kc ks pc lv (vs.reverse ++ .ref a :: rest) h K :=
  aw_callV hd hm.1 hkc hs0 hm.2.1 hm.2.2 hlk hn hR.1 hc hR.2 hXs hC (fun _ _ ⟨o, e, w⟩ => by
    subst e
    cases o with
    | none => exact k1 _ w
    | some b => exact k2 b _ w)
end AWL
/-- a truth value -/
def bI (c : Prop) [Decidable c] : Int32 := if c then 1 else 0
theorem bI_0 {c : Prop} [Decidable c] : bI c = 0 ↔ ¬ c := by unfold bI; by_cases h : c <;> simp [h]
theorem bI_1 {c : Prop} [Decidable c] : bI c = 1 ↔ c := by unfold bI; by_cases h : c <;> simp [h]
theorem bI_n0 {c : Prop} [Decidable c] : ¬ bI c = 0 ↔ c := by rw [bI_0]; exact Decidable.not_not
theorem bI_nar (c : Prop) [Decidable c] : narrow .boolean (.int (bI c)) = .int (bI c) := by unfold bI; split <;> rfl
section AWB
variable {M : Mc_} {kc ks pc : Nat} {lv : List (Nat × Value)} {st : List Value} {h : Hp_} {K : Option Value → Hp_ → Prop}
theorem aw_ifb_eq {c : Prop} [Decidable c] {off : Int} {tgt : Nat} (hd : decode (mC M) pc = .ok (.ifCond .eq off, 3)) (ht : (pc : Int) + off = (tgt : Int)) (k1 : ¬ c → AW M kc ks tgt lv st h K) (k2 : c → AW M kc ks (pc + 3) lv st h K) : AW M kc ks pc lv (.int (bI c) :: st) h K := aw_if_eq hd ht (fun z => k1 (bI_0.mp z)) (fun z => k2 (bI_n0.mp z))
theorem aw_ifb_ne {c : Prop} [Decidable c] {off : Int} {tgt : Nat} (hd : decode (mC M) pc = .ok (.ifCond .ne off, 3)) (ht : (pc : Int) + off = (tgt : Int)) (k1 : c → AW M kc ks tgt lv st h K) (k2 : ¬ c → AW M kc ks (pc + 3) lv st h K) : AW M kc ks pc lv (.int (bI c) :: st) h K := aw_if_ne hd ht (fun z => k1 (bI_n0.mp z)) (fun z => k2 (bI_0.mp z))
end AWB
end
