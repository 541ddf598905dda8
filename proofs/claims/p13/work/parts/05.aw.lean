/-! AW: from this frame, with this heap as the proofs see it, the method comes to an end with K -/
def h_tys (cy : Nat → ClassId) : List (ClassId × FieldType) := [(cy 0, .int), (cy 1, .boolean), (cy 2, .byte), (cy 3, .long), (cy 4, .object "CountyWatch$Constable")]
def h_nest : List (String × Nat × MethodName) := [("CountyWatch", 18, ⟨"CountyWatch$Reader", "<init>", "()V"⟩), ("CountyWatch", 25, ⟨"CountyWatch$Beats", "<init>", "()V"⟩), ("CountyWatch", 32, ⟨"CountyWatch$Rules", "<init>", "()V"⟩), ("CountyWatch", 48, ⟨"CountyWatch$Points", "<init>", "()V"⟩), ("CountyWatch", 55, ⟨"CountyWatch$Looks", "<init>", "()V"⟩), ("CountyWatch", 69, ⟨"CountyWatch$Goods", "<init>", "()V"⟩), ("CountyWatch", 76, ⟨"CountyWatch$Plans", "<init>", "()V"⟩), ("CountyWatch$Roads", 16, ⟨"CountyWatch", "isPlace", "(I)Z"⟩), ("CountyWatch$Reader", 43, ⟨"CountyWatch", "within", "(III)Z"⟩), ("CountyWatch$Looks", 59, ⟨"CountyWatch", "within", "(III)Z"⟩), ("CountyWatch$Payroll", 69, ⟨"CountyWatch", "within", "(III)Z"⟩), ("CountyWatch$Rules", 45, ⟨"CountyWatch", "within", "(III)Z"⟩), ("CountyWatch$Cases", 71, ⟨"CountyWatch", "within", "(III)Z"⟩), ("CountyWatch$Beats", 50, ⟨"CountyWatch", "within", "(III)Z"⟩), ("CountyWatch$Plans", 79, ⟨"CountyWatch", "within", "(III)Z"⟩)]
def cx_ (dC : Nat → ClassId) (dI : Nat → Nat → Nat) (cy : Nat → ClassId) (U : State) : Prop :=
  va_K (dC, dI) kl_ (h_tys cy) U ∧ (∀ w ∈ h_nest, va_Nw (.methodLinkNest w.1 w.2.1 w.2.2 "CountyWatch") U) ∧ va_AO "CountyWatch$Constable" U
/-- the texts: 0 "", 1 "kwphdcnet", 2 "cymxta", 3 "xnrt"; who names them, by which entry -/
def h_strs : List (String × Nat × String × Nat) := [("CountyWatch$Reader", 15, "", 0), ("CountyWatch$Reader", 108, "kwphdcnet", 1), ("CountyWatch$Reader", 110, "cymxta", 2), ("CountyWatch$Reader", 124, "xnrt", 3), ("CountyWatch", 376, "kwphdcnet", 1), ("CountyWatchModel", 565, "kwphdcnet", 1)]
def tx_ (ad adV : Nat → Nat) (A : Nat → Prop) (U : State) (H : Heap) : Prop :=
  vk_S 4 [0, 9, 6, 4] [[], [107, 119, 112, 104, 100, 99, 110, 101, 116], [99, 121, 109, 120, 116, 97], [120, 110, 114, 116]] (fun i => ad (1000 + i)) adV A U H ∧ (∀ i : Nat, ad (2000 + i) = adV i) ∧ va_Z "java/lang/String" "COMPACT_STRINGS" "Z" (.int 1) A U H ∧ (va_Z "jdk/internal/util/Preconditions" "SIOOBE_FORMATTER" "Ljava/util/function/BiFunction;" .null A U H ∨ va_Z "jdk/internal/util/Preconditions" "SIOOBE_FORMATTER" "Ljava/util/function/BiFunction;" (.ref (ad 2100)) A U H)
theorem tx_.moved {ad adV : Nat → Nat} {A : Nat → Prop} {u U : State} {H : Heap} (hvm : u.vm.Alike U.vm) (h : tx_ ad adV A u H) : tx_ ad adV A U H :=
  ⟨vk_S.moved hvm h.1, h.2.1, va_Z.moved hvm h.2.2.1, h.2.2.2.imp (va_Z.moved hvm) (va_Z.moved hvm)⟩
theorem tx_.kept {ad adV : Nat → Nat} {A : Nat → Prop} {U : State} {H H1 : Heap} (h : tx_ ad adV A U H) (hq : ∀ a : Nat, a < H.size → ¬ A a → H1[a]? = H[a]?) : tx_ ad adV A U H1 :=
  ⟨vk_S.kept h.1 hq, h.2.1, va_Z.kept h.2.2.1 hq, h.2.2.2.imp (fun z => va_Z.kept z hq) (fun z => va_Z.kept z hq)⟩
theorem tx_.narrow {ad adV : Nat → Nat} {A B : Nat → Prop} {U : State} {H : Heap} (h : tx_ ad adV A U H) (hAB : ∀ q, B q → A q) : tx_ ad adV B U H :=
  ⟨vk_S.narrow h.1 hAB, h.2.1, va_Z.narrow h.2.2.1 hAB, h.2.2.2.imp (fun z => va_Z.narrow z hAB) (fun z => va_Z.narrow z hAB)⟩
def st_ (ad adV : Nat → Nat) (A : Nat → Prop) (U : State) : Prop :=
  tx_ ad adV A U U.heap ∧ ∀ r ∈ h_strs, vk_R r.1 r.2.1 r.2.2.1 (ad (1000 + r.2.2.2)) U
/-- the world: numbers of cells that there are, their addresses, what they hold -/
def wd_ (dC : Nat → ClassId) (dI : Nat → Nat → Nat) (cy : Nat → ClassId) (A : Nat → Prop) (ad : Nat → Nat) (dom : List Nat) (h : Hp_) (H : Heap) : Prop :=
  (dom.Nodup ∧ (∀ a, h_sh h a ≠ none ↔ a ∈ dom) ∧ (∀ a ∈ dom, a < 1000) ∧ ∀ b k c, h_r h b k = some c → c ∈ dom ∨ 1000 ≤ c) ∧ va_P (dC, dI) kl_ (h_W cy ad h dom) H ∧ va_D A (h_W cy ad h dom)
/-- a later world has the earlier one's cells, at their addresses -/
def ex_ (ad0 ad : Nat → Nat) (dom0 dom : List Nat) : Prop := (∀ a, a ∈ dom0 ∨ 1000 ≤ a → ad a = ad0 a) ∧ ∀ a ∈ dom0, a ∈ dom
def qq_ (K : Option Value → Hp_ → Prop) (dC : Nat → ClassId) (dI : Nat → Nat → Nat) (cy : Nat → ClassId) (A : Nat → Prop) (ad0 : Nat → Nat) (dom0 : List Nat) : Array Value → State → Outcome → State → Prop := fun _ s o t =>
  (∃ (v : Option Value) (h : Hp_) (ad : Nat → Nat) (dom : List Nat), o = .returned (v.map (h_cv ad)) ∧ K v h ∧ wd_ dC dI cy A ad dom h t.heap ∧ (∀ x, v = some x → h_ok dom x) ∧ ex_ ad0 ad dom0 dom) ∧ va_F A s t
/-- what stands while a method runs: the machine, the code, the words; extra facts X of the place (the law's script) -/
def fr_ (y : MethodName) (cc : ByteArray) (nL : Nat) (ret : Option FieldType) (p : Program) (s : State) (m : MethodId) (args : Array Value) (meth : Method) (c : Code) (dC : Nat → ClassId) (dI : Nat → Nat → Nat) (cy : Nat → ClassId) (A : Nat → Prop) : Prop :=
  p.tables.exec = Jvm.exec ∧ c.code = cc ∧ c.maxLocals = nL ∧ meth.sig.returnType = ret ∧ meth.locks = false ∧ s.vm.findClass y.cls = some m.cls ∧ meth.name = y.name ∧ (∀ w ∈ lw_g, w.before args s = true) ∧ cx_ dC dI cy s ∧ ∀ q, s.heap.size ≤ q → A q
/-- a method as it runs: extra facts of the place, its name, its bytes, its locals, what it answers, its room -/
abbrev Mc_ : Type := ((Nat → Nat) → (Nat → Prop) → State → Prop) × MethodName × ByteArray × Nat × Option FieldType × Room
abbrev mX (M : Mc_) := M.1
abbrev mY (M : Mc_) := M.2.1
abbrev mC (M : Mc_) := M.2.2.1
abbrev mN (M : Mc_) := M.2.2.2.1
abbrev mT (M : Mc_) := M.2.2.2.2.1
abbrev mR (M : Mc_) := M.2.2.2.2.2
/-- launches without stack traces -/
abbrev Ln_ : Type := { l : Launch // l.stackTraces = false }
def AW (M : Mc_) (kc ks : Nat) (pc : Nat) (lv : List (Nat × Value)) (st : List Value) (h : Hp_) (K : Option Value → Hp_ → Prop) : Prop :=
  ∀ (l : Ln_) (p : Program) (e : Env) (s : State) (m : MethodId) (args : Array Value) (below : List Frame) (meth : Method) (c : Code) (dC : Nat → ClassId) (dI : Nat → Nat → Nat) (cy : Nat → ClassId) (A : Nat → Prop) (ad0 adV ad : Nat → Nat) (dom0 dom : List Nat) (H : Heap) (locs : List Loc) (ls : Array Slot),
    fr_ (mY M) (mC M) (mN M) (mT M) p s m args meth c dC dI cy A → mX M ad A s → st_ ad adV A s → ex_ ad0 ad dom0 dom → wd_ dC dI cy A ad dom h H → va_S A s.heap H locs → lv_has ls (mN M) (lv.map (fun q => (q.1, h_cv ad q.2))) → (∀ q ∈ lv, h_ok dom q.2) → (∀ v ∈ st, h_ok dom v) →
    W p l.1 e (mR M) s m args below meth c H locs kc ks (MQ below (qq_ K dC dI cy A ad0 dom0) args s (mR M).cells (mR M).slots A) (F0 m pc ls (st.map (h_cv ad)))
section AWR
variable {M : Mc_} {kc ks pc : Nat} {lv : List (Nat × Value)} {st : List Value} {h : Hp_} {K : Option Value → Hp_ → Prop}
theorem ok_i {dom : List Nat} {x : Int32} : h_ok dom (.int x) := fun c h => by cases h
theorem ok_l {dom : List Nat} {x : Int64} : h_ok dom (.long x) := fun c h => by cases h
theorem ok_n {dom : List Nat} : h_ok dom .null := fun c h => by cases h
theorem ok_c {dom : List Nat} {v : Value} {st : List Value} (h : h_ok dom v) (hs : ∀ v ∈ st, h_ok dom v) : ∀ w ∈ v :: st, h_ok dom w := List.forall_mem_cons.mpr ⟨h, hs⟩
theorem ok_t {dom : List Nat} {v : Value} {st : List Value} (hs : ∀ w ∈ v :: st, h_ok dom w) : ∀ w ∈ st, h_ok dom w := (List.forall_mem_cons.mp hs).2
theorem ok_h {dom : List Nat} {v : Value} {st : List Value} (hs : ∀ w ∈ v :: st, h_ok dom w) : h_ok dom v := (List.forall_mem_cons.mp hs).1
theorem lv_fnd {lv : List (Nat × Value)} {i : Nat} {v : Value} (hq : (i, v) ∈ lv) {ad : Nat → Nat} {ls : Array Slot} {nL : Nat} (hl : lv_has ls nL (lv.map (fun q => (q.1, h_cv ad q.2)))) : ls[i]? = some (.val (h_cv ad v)) := hl.2.2 (i, h_cv ad v) (List.mem_map.mpr ⟨(i, v), hq, rfl⟩)
/-- a place to store to: the list by rising places -/
def lv_put (i : Nat) (v : Value) : List (Nat × Value) → List (Nat × Value)
  | [] => [(i, v)]
  | q :: t => if q.1 = i then (i, v) :: t else if i < q.1 then (i, v) :: q :: t else q :: lv_put i v t
theorem lv_put_mem {i : Nat} {v : Value} : ∀ {lv : List (Nat × Value)} {q : Nat × Value}, q ∈ lv_put i v lv → q = (i, v) ∨ q ∈ lv
  | [], q, h => by simp [lv_put] at h; exact Or.inl h
  | p :: t, q, h => by
    unfold lv_put at h
    split at h
    · rcases List.mem_cons.mp h with h | h
      · exact Or.inl h
      · exact Or.inr (List.mem_cons_of_mem _ h)
    · split at h
      · rcases List.mem_cons.mp h with h | h
        · exact Or.inl h
        · exact Or.inr h
      · rcases List.mem_cons.mp h with h | h
        · exact Or.inr (by rw [h]; exact List.mem_cons_self)
        · rcases lv_put_mem h with h | h
          · exact Or.inl h
          · exact Or.inr (List.mem_cons_of_mem _ h)
/-- places rise, nothing wide ahead of the place: then what is left of the old list is as the store leaves it -/
def lv_fit (i : Nat) (lv : List (Nat × Value)) : Bool := lv.all (fun q => !(q.1 + 1 == i && q.2.category == 2))
def lv_rise : List (Nat × Value) → Bool
  | [] => true
  | q :: t => t.all (fun r => decide (q.1 < r.1)) && lv_rise t
theorem lv_put_ne {i : Nat} {v : Value} : ∀ {lv : List (Nat × Value)}, lv_rise lv = true → ∀ {q : Nat × Value}, q ∈ lv_put i v lv → q = (i, v) ∨ (q ∈ lv ∧ q.1 ≠ i)
  | [], _, q, h => by simp [lv_put] at h; exact Or.inl h
  | p :: t, hr, q, h => by
    simp only [lv_rise, Bool.and_eq_true, List.all_eq_true, decide_eq_true_eq] at hr
    unfold lv_put at h
    split at h
    · rename_i hp
      rcases List.mem_cons.mp h with h | h
      · exact Or.inl h
      · exact Or.inr ⟨List.mem_cons_of_mem _ h, by have := hr.1 q h; omega⟩
    · rename_i hp
      split at h
      · rename_i hlt
        rcases List.mem_cons.mp h with h | h
        · exact Or.inl h
        · refine Or.inr ⟨h, ?_⟩
          rcases List.mem_cons.mp h with h | h
          · rw [h]; omega
          · have := hr.1 q h; omega
      · rcases List.mem_cons.mp h with h | h
        · exact Or.inr ⟨by rw [h]; exact List.mem_cons_self, by rw [h]; exact hp⟩
        · rcases lv_put_ne hr.2 h with h | h
          · exact Or.inl h
          · exact Or.inr ⟨List.mem_cons_of_mem _ h.1, h.2⟩
theorem cv_cat (ad : Nat → Nat) (v : Value) : (h_cv ad v).category = v.category := by cases v <;> rfl
theorem lv_put_has {i nL : Nat} {v : Value} {lv : List (Nat × Value)} {ad : Nat → Nat} {ls' : Array Slot} (hr : lv_rise lv = true) (hfit : lv_fit i lv = true)
    (h : lv_has ls' nL ((i, h_cv ad v) :: (lv.map (fun q => (q.1, h_cv ad q.2))).filter (fun q => !(q.1 == i) && !(q.1 + 1 == i && q.2.category == 2)))) : lv_has ls' nL ((lv_put i v lv).map (fun q => (q.1, h_cv ad q.2))) := by
  refine ⟨h.1, h.2.1, fun q hq => h.2.2 q ?_⟩
  obtain ⟨r, h1, rfl⟩ := List.mem_map.mp hq
  rcases lv_put_ne hr h1 with h2 | ⟨h2, h3⟩
  · subst h2; exact List.mem_cons_self
  · refine List.mem_cons_of_mem _ (List.mem_filter.mpr ⟨List.mem_map.mpr ⟨r, h2, rfl⟩, ?_⟩)
    have h4 := List.all_eq_true.mp hfit r h2
    simp only [cv_cat]
    simp only [Bool.and_eq_true, h4, and_true]
    simpa using h3
theorem aw_iconst {n : Int} {v : Int32} (hd : decode (mC M) pc = .ok (.iconst n, 1)) (hv : Int32.ofInt n = v) (k : AW M kc ks (pc + 1) lv (.int v :: st) h K) : AW M kc ks pc lv st h K := by
  intro l p e s m args below meth c dC dI cy A ad0 adV ad dom0 dom H locs ls hf hX hT hE hW hS hl ho hs
  exact lv_iconst hf.1 hf.2.1 hd hv (k l p e s m args below meth c dC dI cy A ad0 adV ad dom0 dom H locs ls hf hX hT hE hW hS hl ho (ok_c ok_i hs))
theorem aw_bipush {n : Int} {v : Int32} (hd : decode (mC M) pc = .ok (.bipush n, 2)) (hv : (Int8.ofInt n).toInt32 = v) (k : AW M kc ks (pc + 2) lv (.int v :: st) h K) : AW M kc ks pc lv st h K := by
  intro l p e s m args below meth c dC dI cy A ad0 adV ad dom0 dom H locs ls hf hX hT hE hW hS hl ho hs
  exact lv_bipush hf.1 hf.2.1 hd hv (k l p e s m args below meth c dC dI cy A ad0 adV ad dom0 dom H locs ls hf hX hT hE hW hS hl ho (ok_c ok_i hs))
theorem aw_sipush {n : Int} {v : Int32} (hd : decode (mC M) pc = .ok (.sipush n, 3)) (hv : (Int16.ofInt n).toInt32 = v) (k : AW M kc ks (pc + 3) lv (.int v :: st) h K) : AW M kc ks pc lv st h K := by
  intro l p e s m args below meth c dC dI cy A ad0 adV ad dom0 dom H locs ls hf hX hT hE hW hS hl ho hs
  exact lv_sipush hf.1 hf.2.1 hd hv (k l p e s m args below meth c dC dI cy A ad0 adV ad dom0 dom H locs ls hf hX hT hE hW hS hl ho (ok_c ok_i hs))
theorem aw_lconst {n : Fin 2} {v : Int64} (hd : decode (mC M) pc = .ok (.lconst n, 1)) (hv : Int64.ofNat (n : Nat) = v) (k : AW M kc ks (pc + 1) lv (.long v :: st) h K) : AW M kc ks pc lv st h K := by
  intro l p e s m args below meth c dC dI cy A ad0 adV ad dom0 dom H locs ls hf hX hT hE hW hS hl ho hs
  exact lv_lconst hf.1 hf.2.1 hd hv (k l p e s m args below meth c dC dI cy A ad0 adV ad dom0 dom H locs ls hf hX hT hE hW hS hl ho (ok_c ok_l hs))
theorem aw_null  (hd : decode (mC M) pc = .ok (.aconst_null, 1)) (k : AW M kc ks (pc + 1) lv (.null :: st) h K) : AW M kc ks pc lv st h K := by
  intro l p e s m args below meth c dC dI cy A ad0 adV ad dom0 dom H locs ls hf hX hT hE hW hS hl ho hs
  exact lv_null hf.1 hf.2.1 hd (k l p e s m args below meth c dC dI cy A ad0 adV ad dom0 dom H locs ls hf hX hT hE hW hS hl ho (ok_c ok_n hs))
theorem aw_ldc {i : Nat} {v : Int32} (hd : decode (mC M) pc = .ok (.ldc i, 2)) (hw : Cond.constant (mY M).cls i v ∈ lw_g) (k : AW M kc ks (pc + 2) lv (.int v :: st) h K) : AW M kc ks pc lv st h K := by
  intro l p e s m args below meth c dC dI cy A ad0 adV ad dom0 dom H locs ls hf hX hT hE hW hS hl ho hs
  exact lv_ldc hf.1 hf.2.1 hf.2.2.2.2.2.1 (hf.2.2.2.2.2.2.2.1 _ hw) hd (k l p e s m args below meth c dC dI cy A ad0 adV ad dom0 dom H locs ls hf hX hT hE hW hS hl ho (ok_c ok_i hs))
theorem aw_ldcw {i : Nat} {v : Int32} (hd : decode (mC M) pc = .ok (.ldc_w i, 3)) (hw : Cond.constant (mY M).cls i v ∈ lw_g) (k : AW M kc ks (pc + 3) lv (.int v :: st) h K) : AW M kc ks pc lv st h K := by
  intro l p e s m args below meth c dC dI cy A ad0 adV ad dom0 dom H locs ls hf hX hT hE hW hS hl ho hs
  exact lv_ldcw hf.1 hf.2.1 hf.2.2.2.2.2.1 (hf.2.2.2.2.2.2.2.1 _ hw) hd (k l p e s m args below meth c dC dI cy A ad0 adV ad dom0 dom H locs ls hf hX hT hE hW hS hl ho (ok_c ok_i hs))
theorem aw_ldc2 {i : Nat} {v : Int64} (hd : decode (mC M) pc = .ok (.ldc2_w i, 3)) (hw : Cond.constantLong (mY M).cls i v ∈ lw_g) (k : AW M kc ks (pc + 3) lv (.long v :: st) h K) : AW M kc ks pc lv st h K := by
  intro l p e s m args below meth c dC dI cy A ad0 adV ad dom0 dom H locs ls hf hX hT hE hW hS hl ho hs
  exact lv_ldc2 hf.1 hf.2.1 hf.2.2.2.2.2.1 (hf.2.2.2.2.2.2.2.1 _ hw) hd (k l p e s m args below meth c dC dI cy A ad0 adV ad dom0 dom H locs ls hf hX hT hE hW hS hl ho (ok_c ok_l hs))
theorem aw_iload {i : Nat} {x : Int32}  (hd : decode (mC M) pc = .ok (.iload i, 2)) (j : Nat) (hj : lv[j]? = some (i, .int x)) (k : AW M kc ks (pc + 2) lv (.int x :: st) h K) : AW M kc ks pc lv st h K := by
  intro l p e s m args below meth c dC dI cy A ad0 adV ad dom0 dom H locs ls hf hX hT hE hW hS hl ho hs
  exact lv_iload hf.1 hf.2.1 hd  (lv_fnd (List.mem_of_getElem? hj) hl) (k l p e s m args below meth c dC dI cy A ad0 adV ad dom0 dom H locs ls hf hX hT hE hW hS hl ho (ok_c ok_i hs))
theorem aw_iload_n {i : Nat} {x : Int32} {z : Fin 4} (hz : (z : Nat) = i) (hd : decode (mC M) pc = .ok (.iload_n z, 1)) (j : Nat) (hj : lv[j]? = some (i, .int x)) (k : AW M kc ks (pc + 1) lv (.int x :: st) h K) : AW M kc ks pc lv st h K := by
  intro l p e s m args below meth c dC dI cy A ad0 adV ad dom0 dom H locs ls hf hX hT hE hW hS hl ho hs
  exact lv_iload_n hf.1 hf.2.1 hd hz (lv_fnd (List.mem_of_getElem? hj) hl) (k l p e s m args below meth c dC dI cy A ad0 adV ad dom0 dom H locs ls hf hX hT hE hW hS hl ho (ok_c ok_i hs))
theorem aw_lload {i : Nat} {x : Int64}  (hd : decode (mC M) pc = .ok (.lload i, 2)) (j : Nat) (hj : lv[j]? = some (i, .long x)) (k : AW M kc ks (pc + 2) lv (.long x :: st) h K) : AW M kc ks pc lv st h K := by
  intro l p e s m args below meth c dC dI cy A ad0 adV ad dom0 dom H locs ls hf hX hT hE hW hS hl ho hs
  exact lv_lload hf.1 hf.2.1 hd  (lv_fnd (List.mem_of_getElem? hj) hl) (k l p e s m args below meth c dC dI cy A ad0 adV ad dom0 dom H locs ls hf hX hT hE hW hS hl ho (ok_c ok_l hs))
theorem aw_lload_n {i : Nat} {x : Int64} {z : Fin 4} (hz : (z : Nat) = i) (hd : decode (mC M) pc = .ok (.lload_n z, 1)) (j : Nat) (hj : lv[j]? = some (i, .long x)) (k : AW M kc ks (pc + 1) lv (.long x :: st) h K) : AW M kc ks pc lv st h K := by
  intro l p e s m args below meth c dC dI cy A ad0 adV ad dom0 dom H locs ls hf hX hT hE hW hS hl ho hs
  exact lv_lload_n hf.1 hf.2.1 hd hz (lv_fnd (List.mem_of_getElem? hj) hl) (k l p e s m args below meth c dC dI cy A ad0 adV ad dom0 dom H locs ls hf hX hT hE hW hS hl ho (ok_c ok_l hs))
theorem aw_aload {i : Nat} {x : Nat}  (hd : decode (mC M) pc = .ok (.aload i, 2)) (j : Nat) (hj : lv[j]? = some (i, .ref x)) (k : AW M kc ks (pc + 2) lv (.ref x :: st) h K) : AW M kc ks pc lv st h K := by
  intro l p e s m args below meth c dC dI cy A ad0 adV ad dom0 dom H locs ls hf hX hT hE hW hS hl ho hs
  exact lv_aload hf.1 hf.2.1 hd  (lv_fnd (List.mem_of_getElem? hj) hl) (k l p e s m args below meth c dC dI cy A ad0 adV ad dom0 dom H locs ls hf hX hT hE hW hS hl ho (ok_c (ho _ (List.mem_of_getElem? hj)) hs))
theorem aw_aloadN {i : Nat}  (hd : decode (mC M) pc = .ok (.aload i, 2)) (j : Nat) (hj : lv[j]? = some (i, .null)) (k : AW M kc ks (pc + 2) lv (.null :: st) h K) : AW M kc ks pc lv st h K := by
  intro l p e s m args below meth c dC dI cy A ad0 adV ad dom0 dom H locs ls hf hX hT hE hW hS hl ho hs
  exact lv_aloadN hf.1 hf.2.1 hd  (lv_fnd (List.mem_of_getElem? hj) hl) (k l p e s m args below meth c dC dI cy A ad0 adV ad dom0 dom H locs ls hf hX hT hE hW hS hl ho (ok_c ok_n hs))
theorem aw_aload_n {i : Nat} {x : Nat} {z : Fin 4} (hz : (z : Nat) = i) (hd : decode (mC M) pc = .ok (.aload_n z, 1)) (j : Nat) (hj : lv[j]? = some (i, .ref x)) (k : AW M kc ks (pc + 1) lv (.ref x :: st) h K) : AW M kc ks pc lv st h K := by
  intro l p e s m args below meth c dC dI cy A ad0 adV ad dom0 dom H locs ls hf hX hT hE hW hS hl ho hs
  exact lv_aload_n hf.1 hf.2.1 hd hz (lv_fnd (List.mem_of_getElem? hj) hl) (k l p e s m args below meth c dC dI cy A ad0 adV ad dom0 dom H locs ls hf hX hT hE hW hS hl ho (ok_c (ho _ (List.mem_of_getElem? hj)) hs))
theorem aw_aload_nN {i : Nat} {z : Fin 4} (hz : (z : Nat) = i) (hd : decode (mC M) pc = .ok (.aload_n z, 1)) (j : Nat) (hj : lv[j]? = some (i, .null)) (k : AW M kc ks (pc + 1) lv (.null :: st) h K) : AW M kc ks pc lv st h K := by
  intro l p e s m args below meth c dC dI cy A ad0 adV ad dom0 dom H locs ls hf hX hT hE hW hS hl ho hs
  exact lv_aload_nN hf.1 hf.2.1 hd hz (lv_fnd (List.mem_of_getElem? hj) hl) (k l p e s m args below meth c dC dI cy A ad0 adV ad dom0 dom H locs ls hf hX hT hE hW hS hl ho (ok_c ok_n hs))
theorem aw_istore {i : Nat} {x : Int32}  (lv' : List (Nat × Value)) (hd : decode (mC M) pc = .ok (.istore i, 2)) (hn : i < mN M) (hr : (lv_rise lv && lv_fit i lv) = true) (hp : lv_put i (.int x) lv = lv') (k : AW M kc ks (pc + 2) lv' st h K) : AW M kc ks pc lv (.int x :: st) h K := by
  intro l p e s m args below meth c dC dI cy A ad0 adV ad dom0 dom H locs ls hf hX hT hE hW hS hl ho hs
  rw [Bool.and_eq_true] at hr
  subst hp
  refine lv_istore hf.1 hf.2.1 hd  hl hn rfl (fun ls' hl' => ?_)
  refine k l p e s m args below meth c dC dI cy A ad0 adV ad dom0 dom H locs ls' hf hX hT hE hW hS (lv_put_has (v := .int x) hr.1 hr.2 hl') (fun q hq => ?_) (ok_t hs)
  rcases lv_put_mem hq with h1 | h1
  · rw [h1]; exact ok_i
  · exact ho q h1
theorem aw_istore_n {i : Nat} {x : Int32} {z : Fin 4} (hz : (z : Nat) = i) (lv' : List (Nat × Value)) (hd : decode (mC M) pc = .ok (.istore_n z, 1)) (hn : i < mN M) (hr : (lv_rise lv && lv_fit i lv) = true) (hp : lv_put i (.int x) lv = lv') (k : AW M kc ks (pc + 1) lv' st h K) : AW M kc ks pc lv (.int x :: st) h K := by
  intro l p e s m args below meth c dC dI cy A ad0 adV ad dom0 dom H locs ls hf hX hT hE hW hS hl ho hs
  rw [Bool.and_eq_true] at hr
  subst hp
  refine lv_istore_n hf.1 hf.2.1 hd hz hl hn rfl (fun ls' hl' => ?_)
  refine k l p e s m args below meth c dC dI cy A ad0 adV ad dom0 dom H locs ls' hf hX hT hE hW hS (lv_put_has (v := .int x) hr.1 hr.2 hl') (fun q hq => ?_) (ok_t hs)
  rcases lv_put_mem hq with h1 | h1
  · rw [h1]; exact ok_i
  · exact ho q h1
theorem aw_astore {i : Nat} {x : Nat}  (lv' : List (Nat × Value)) (hd : decode (mC M) pc = .ok (.astore i, 2)) (hn : i < mN M) (hr : (lv_rise lv && lv_fit i lv) = true) (hp : lv_put i (.ref x) lv = lv') (k : AW M kc ks (pc + 2) lv' st h K) : AW M kc ks pc lv (.ref x :: st) h K := by
  intro l p e s m args below meth c dC dI cy A ad0 adV ad dom0 dom H locs ls hf hX hT hE hW hS hl ho hs
  rw [Bool.and_eq_true] at hr
  subst hp
  refine lv_astore hf.1 hf.2.1 hd  hl hn rfl (fun ls' hl' => ?_)
  refine k l p e s m args below meth c dC dI cy A ad0 adV ad dom0 dom H locs ls' hf hX hT hE hW hS (lv_put_has (v := .ref x) hr.1 hr.2 hl') (fun q hq => ?_) (ok_t hs)
  rcases lv_put_mem hq with h1 | h1
  · rw [h1]; exact ok_h hs
  · exact ho q h1
theorem aw_astore_n {i : Nat} {x : Nat} {z : Fin 4} (hz : (z : Nat) = i) (lv' : List (Nat × Value)) (hd : decode (mC M) pc = .ok (.astore_n z, 1)) (hn : i < mN M) (hr : (lv_rise lv && lv_fit i lv) = true) (hp : lv_put i (.ref x) lv = lv') (k : AW M kc ks (pc + 1) lv' st h K) : AW M kc ks pc lv (.ref x :: st) h K := by
  intro l p e s m args below meth c dC dI cy A ad0 adV ad dom0 dom H locs ls hf hX hT hE hW hS hl ho hs
  rw [Bool.and_eq_true] at hr
  subst hp
  refine lv_astore_n hf.1 hf.2.1 hd hz hl hn rfl (fun ls' hl' => ?_)
  refine k l p e s m args below meth c dC dI cy A ad0 adV ad dom0 dom H locs ls' hf hX hT hE hW hS (lv_put_has (v := .ref x) hr.1 hr.2 hl') (fun q hq => ?_) (ok_t hs)
  rcases lv_put_mem hq with h1 | h1
  · rw [h1]; exact ok_h hs
  · exact ho q h1
theorem aw_astoreN {i : Nat}   (lv' : List (Nat × Value)) (hd : decode (mC M) pc = .ok (.astore i, 2)) (hn : i < mN M) (hr : (lv_rise lv && lv_fit i lv) = true) (hp : lv_put i (.null) lv = lv') (k : AW M kc ks (pc + 2) lv' st h K) : AW M kc ks pc lv (.null :: st) h K := by
  intro l p e s m args below meth c dC dI cy A ad0 adV ad dom0 dom H locs ls hf hX hT hE hW hS hl ho hs
  rw [Bool.and_eq_true] at hr
  subst hp
  refine lv_astoreN hf.1 hf.2.1 hd  hl hn rfl (fun ls' hl' => ?_)
  refine k l p e s m args below meth c dC dI cy A ad0 adV ad dom0 dom H locs ls' hf hX hT hE hW hS (lv_put_has (v := .null) hr.1 hr.2 hl') (fun q hq => ?_) (ok_t hs)
  rcases lv_put_mem hq with h1 | h1
  · rw [h1]; exact ok_n
  · exact ho q h1
theorem aw_astore_nN {i : Nat}  {z : Fin 4} (hz : (z : Nat) = i) (lv' : List (Nat × Value)) (hd : decode (mC M) pc = .ok (.astore_n z, 1)) (hn : i < mN M) (hr : (lv_rise lv && lv_fit i lv) = true) (hp : lv_put i (.null) lv = lv') (k : AW M kc ks (pc + 1) lv' st h K) : AW M kc ks pc lv (.null :: st) h K := by
  intro l p e s m args below meth c dC dI cy A ad0 adV ad dom0 dom H locs ls hf hX hT hE hW hS hl ho hs
  rw [Bool.and_eq_true] at hr
  subst hp
  refine lv_astore_nN hf.1 hf.2.1 hd hz hl hn rfl (fun ls' hl' => ?_)
  refine k l p e s m args below meth c dC dI cy A ad0 adV ad dom0 dom H locs ls' hf hX hT hE hW hS (lv_put_has (v := .null) hr.1 hr.2 hl') (fun q hq => ?_) (ok_t hs)
  rcases lv_put_mem hq with h1 | h1
  · rw [h1]; exact ok_n
  · exact ho q h1
theorem lv_put_hasL {i nL : Nat} {v : Value} {lv : List (Nat × Value)} {ad : Nat → Nat} {ls' : Array Slot} (hr : lv_rise lv = true) (hfit : lv_fit i lv = true) (hfit2 : lv.all (fun q => !(q.1 == i + 1)) = true)
    (h : lv_has ls' nL ((i, h_cv ad v) :: (lv.map (fun q => (q.1, h_cv ad q.2))).filter (fun q => !(q.1 == i) && (!(q.1 == i + 1) && !(q.1 + 1 == i && q.2.category == 2))))) : lv_has ls' nL ((lv_put i v lv).map (fun q => (q.1, h_cv ad q.2))) := by
  refine ⟨h.1, h.2.1, fun q hq => h.2.2 q ?_⟩
  obtain ⟨r, h1, rfl⟩ := List.mem_map.mp hq
  rcases lv_put_ne hr h1 with h2 | ⟨h2, h3⟩
  · subst h2; exact List.mem_cons_self
  · refine List.mem_cons_of_mem _ (List.mem_filter.mpr ⟨List.mem_map.mpr ⟨r, h2, rfl⟩, ?_⟩)
    have h4 := List.all_eq_true.mp hfit r h2
    have h5 := List.all_eq_true.mp hfit2 r h2
    simp only [cv_cat]
    simp only [Bool.and_eq_true, h4, h5, and_true]
    simpa using h3
theorem aw_lstore {i : Nat} {x : Int64}  (lv' : List (Nat × Value)) (hd : decode (mC M) pc = .ok (.lstore i, 2)) (hn : i + 1 < mN M) (hr : (lv_rise lv && lv_fit i lv && lv.all (fun q => !(q.1 == i + 1))) = true) (hp : lv_put i (.long x) lv = lv') (k : AW M kc ks (pc + 2) lv' st h K) : AW M kc ks pc lv (.long x :: st) h K := by
  intro l p e s m args below meth c dC dI cy A ad0 adV ad dom0 dom H locs ls hf hX hT hE hW hS hl ho hs
  rw [Bool.and_eq_true, Bool.and_eq_true] at hr
  subst hp
  refine lv_lstore hf.1 hf.2.1 hd  hl hn rfl (fun ls' hl' => ?_)
  refine k l p e s m args below meth c dC dI cy A ad0 adV ad dom0 dom H locs ls' hf hX hT hE hW hS (lv_put_hasL (v := .long x) hr.1.1 hr.1.2 hr.2 hl') (fun q hq => ?_) (ok_t hs)
  rcases lv_put_mem hq with h1 | h1
  · rw [h1]; exact ok_l
  · exact ho q h1
theorem aw_lstore_n {i : Nat} {x : Int64} {z : Fin 4} (hz : (z : Nat) = i) (lv' : List (Nat × Value)) (hd : decode (mC M) pc = .ok (.lstore_n z, 1)) (hn : i + 1 < mN M) (hr : (lv_rise lv && lv_fit i lv && lv.all (fun q => !(q.1 == i + 1))) = true) (hp : lv_put i (.long x) lv = lv') (k : AW M kc ks (pc + 1) lv' st h K) : AW M kc ks pc lv (.long x :: st) h K := by
  intro l p e s m args below meth c dC dI cy A ad0 adV ad dom0 dom H locs ls hf hX hT hE hW hS hl ho hs
  rw [Bool.and_eq_true, Bool.and_eq_true] at hr
  subst hp
  refine lv_lstore_n hf.1 hf.2.1 hd hz hl hn rfl (fun ls' hl' => ?_)
  refine k l p e s m args below meth c dC dI cy A ad0 adV ad dom0 dom H locs ls' hf hX hT hE hW hS (lv_put_hasL (v := .long x) hr.1.1 hr.1.2 hr.2 hl') (fun q hq => ?_) (ok_t hs)
  rcases lv_put_mem hq with h1 | h1
  · rw [h1]; exact ok_l
  · exact ho q h1
theorem aw_iinc {i : Nat} {n : Int} {x v : Int32} (lv' : List (Nat × Value)) (hd : decode (mC M) pc = .ok (.iinc i n, 3)) (j : Nat) (hj : lv[j]? = some (i, .int x)) (hv : x + Int32.ofInt n = v) (hn : i < mN M) (hr : (lv_rise lv && lv_fit i lv) = true) (hp : lv_put i (.int v) lv = lv') (k : AW M kc ks (pc + 3) lv' st h K) : AW M kc ks pc lv st h K := by
  intro l p e s m args below meth c dC dI cy A ad0 adV ad dom0 dom H locs ls hf hX hT hE hW hS hl ho hs
  rw [Bool.and_eq_true] at hr
  subst hp
  refine lv_iinc (k := j) (x := x) hf.1 hf.2.1 hd hl (by rw [List.getElem?_map, hj]; rfl) hv hn rfl (fun ls' hl' => ?_)
  refine k l p e s m args below meth c dC dI cy A ad0 adV ad dom0 dom H locs ls' hf hX hT hE hW hS (lv_put_has (v := .int v) hr.1 hr.2 hl') (fun q hq => ?_) hs
  rcases lv_put_mem hq with h1 | h1
  · rw [h1]; exact ok_i
  · exact ho q h1
/-- fewer locals are told of, in another order -/
theorem aw_lv (lv' : List (Nat × Value)) (hm : ∀ q ∈ lv', q ∈ lv) (k : AW M kc ks pc lv' st h K) : AW M kc ks pc lv st h K := by
  intro l p e s m args below meth c dC dI cy A ad0 adV ad dom0 dom H locs ls hf hX hT hE hW hS hl ho hs
  refine k l p e s m args below meth c dC dI cy A ad0 adV ad dom0 dom H locs ls hf hX hT hE hW hS ⟨hl.1, hl.2.1, fun q hq => hl.2.2 q ?_⟩ (fun q hq => ho q (hm q hq)) hs
  obtain ⟨r, h1, rfl⟩ := List.mem_map.mp hq
  exact List.mem_map.mpr ⟨r, hm r h1, rfl⟩
theorem aw_iadd {a b : Int32} (hd : decode (mC M) pc = .ok (.iadd, 1)) (k : AW M kc ks (pc + 1) lv (.int (a + b) :: st) h K) : AW M kc ks pc lv (.int b :: .int a :: st) h K := by
  intro l p e s m args below meth c dC dI cy A ad0 adV ad dom0 dom H locs ls hf hX hT hE hW hS hl ho hs
  exact lv_iadd hf.1 hf.2.1 hd (k l p e s m args below meth c dC dI cy A ad0 adV ad dom0 dom H locs ls hf hX hT hE hW hS hl ho (ok_c ok_i (ok_t (ok_t hs))))
theorem aw_isub {a b : Int32} (hd : decode (mC M) pc = .ok (.isub, 1)) (k : AW M kc ks (pc + 1) lv (.int (a - b) :: st) h K) : AW M kc ks pc lv (.int b :: .int a :: st) h K := by
  intro l p e s m args below meth c dC dI cy A ad0 adV ad dom0 dom H locs ls hf hX hT hE hW hS hl ho hs
  exact lv_isub hf.1 hf.2.1 hd (k l p e s m args below meth c dC dI cy A ad0 adV ad dom0 dom H locs ls hf hX hT hE hW hS hl ho (ok_c ok_i (ok_t (ok_t hs))))
theorem aw_imul {a b : Int32} (hd : decode (mC M) pc = .ok (.imul, 1)) (k : AW M kc ks (pc + 1) lv (.int (a * b) :: st) h K) : AW M kc ks pc lv (.int b :: .int a :: st) h K := by
  intro l p e s m args below meth c dC dI cy A ad0 adV ad dom0 dom H locs ls hf hX hT hE hW hS hl ho hs
  exact lv_imul hf.1 hf.2.1 hd (k l p e s m args below meth c dC dI cy A ad0 adV ad dom0 dom H locs ls hf hX hT hE hW hS hl ho (ok_c ok_i (ok_t (ok_t hs))))
theorem aw_iand {a b : Int32} (hd : decode (mC M) pc = .ok (.iand, 1)) (k : AW M kc ks (pc + 1) lv (.int (a &&& b) :: st) h K) : AW M kc ks pc lv (.int b :: .int a :: st) h K := by
  intro l p e s m args below meth c dC dI cy A ad0 adV ad dom0 dom H locs ls hf hX hT hE hW hS hl ho hs
  exact lv_iand hf.1 hf.2.1 hd (k l p e s m args below meth c dC dI cy A ad0 adV ad dom0 dom H locs ls hf hX hT hE hW hS hl ho (ok_c ok_i (ok_t (ok_t hs))))
theorem aw_ior {a b : Int32} (hd : decode (mC M) pc = .ok (.ior, 1)) (k : AW M kc ks (pc + 1) lv (.int (a ||| b) :: st) h K) : AW M kc ks pc lv (.int b :: .int a :: st) h K := by
  intro l p e s m args below meth c dC dI cy A ad0 adV ad dom0 dom H locs ls hf hX hT hE hW hS hl ho hs
  exact lv_ior hf.1 hf.2.1 hd (k l p e s m args below meth c dC dI cy A ad0 adV ad dom0 dom H locs ls hf hX hT hE hW hS hl ho (ok_c ok_i (ok_t (ok_t hs))))
theorem aw_ixor {a b : Int32} (hd : decode (mC M) pc = .ok (.ixor, 1)) (k : AW M kc ks (pc + 1) lv (.int (a ^^^ b) :: st) h K) : AW M kc ks pc lv (.int b :: .int a :: st) h K := by
  intro l p e s m args below meth c dC dI cy A ad0 adV ad dom0 dom H locs ls hf hX hT hE hW hS hl ho hs
  exact lv_ixor hf.1 hf.2.1 hd (k l p e s m args below meth c dC dI cy A ad0 adV ad dom0 dom H locs ls hf hX hT hE hW hS hl ho (ok_c ok_i (ok_t (ok_t hs))))
theorem aw_ishl {a b : Int32} (hd : decode (mC M) pc = .ok (.ishl, 1)) (k : AW M kc ks (pc + 1) lv (.int (a <<< (b &&& 31)) :: st) h K) : AW M kc ks pc lv (.int b :: .int a :: st) h K := by
  intro l p e s m args below meth c dC dI cy A ad0 adV ad dom0 dom H locs ls hf hX hT hE hW hS hl ho hs
  exact lv_ishl hf.1 hf.2.1 hd (k l p e s m args below meth c dC dI cy A ad0 adV ad dom0 dom H locs ls hf hX hT hE hW hS hl ho (ok_c ok_i (ok_t (ok_t hs))))
theorem aw_ishr {a b : Int32} (hd : decode (mC M) pc = .ok (.ishr, 1)) (k : AW M kc ks (pc + 1) lv (.int (a >>> (b &&& 31)) :: st) h K) : AW M kc ks pc lv (.int b :: .int a :: st) h K := by
  intro l p e s m args below meth c dC dI cy A ad0 adV ad dom0 dom H locs ls hf hX hT hE hW hS hl ho hs
  exact lv_ishr hf.1 hf.2.1 hd (k l p e s m args below meth c dC dI cy A ad0 adV ad dom0 dom H locs ls hf hX hT hE hW hS hl ho (ok_c ok_i (ok_t (ok_t hs))))
theorem aw_idiv {a b : Int32} (hd : decode (mC M) pc = .ok (.idiv, 1)) (hz : ¬ b = 0) (k : AW M kc ks (pc + 1) lv (.int (a / b) :: st) h K) : AW M kc ks pc lv (.int b :: .int a :: st) h K := by
  intro l p e s m args below meth c dC dI cy A ad0 adV ad dom0 dom H locs ls hf hX hT hE hW hS hl ho hs
  exact lv_idiv hf.1 hf.2.1 hd hz (k l p e s m args below meth c dC dI cy A ad0 adV ad dom0 dom H locs ls hf hX hT hE hW hS hl ho (ok_c ok_i (ok_t (ok_t hs))))
theorem aw_irem {a b : Int32} (hd : decode (mC M) pc = .ok (.irem, 1)) (hz : ¬ b = 0) (k : AW M kc ks (pc + 1) lv (.int (a - a / b * b) :: st) h K) : AW M kc ks pc lv (.int b :: .int a :: st) h K := by
  intro l p e s m args below meth c dC dI cy A ad0 adV ad dom0 dom H locs ls hf hX hT hE hW hS hl ho hs
  exact lv_irem hf.1 hf.2.1 hd hz (k l p e s m args below meth c dC dI cy A ad0 adV ad dom0 dom H locs ls hf hX hT hE hW hS hl ho (ok_c ok_i (ok_t (ok_t hs))))
theorem aw_ineg {a : Int32} (hd : decode (mC M) pc = .ok (.ineg, 1)) (k : AW M kc ks (pc + 1) lv (.int (-a) :: st) h K) : AW M kc ks pc lv (.int a :: st) h K := by
  intro l p e s m args below meth c dC dI cy A ad0 adV ad dom0 dom H locs ls hf hX hT hE hW hS hl ho hs
  exact lv_ineg hf.1 hf.2.1 hd (k l p e s m args below meth c dC dI cy A ad0 adV ad dom0 dom H locs ls hf hX hT hE hW hS hl ho (ok_c ok_i (ok_t hs)))
theorem aw_iushr {a b : Int32} (hd : decode (mC M) pc = .ok (.iushr, 1)) (k : AW M kc ks (pc + 1) lv (.int ((a.toUInt32 >>> (b.toUInt32 &&& Int32.toUInt32 31)).toInt32) :: st) h K) : AW M kc ks pc lv (.int b :: .int a :: st) h K := by
  intro l p e s m args below meth c dC dI cy A ad0 adV ad dom0 dom H locs ls hf hX hT hE hW hS hl ho hs
  exact lv_iushr hf.1 hf.2.1 hd rfl (k l p e s m args below meth c dC dI cy A ad0 adV ad dom0 dom H locs ls hf hX hT hE hW hS hl ho (ok_c ok_i (ok_t (ok_t hs))))
theorem aw_ladd {a b : Int64} (hd : decode (mC M) pc = .ok (.ladd, 1)) (k : AW M kc ks (pc + 1) lv (.long (a + b) :: st) h K) : AW M kc ks pc lv (.long b :: .long a :: st) h K := by
  intro l p e s m args below meth c dC dI cy A ad0 adV ad dom0 dom H locs ls hf hX hT hE hW hS hl ho hs
  exact lv_ladd hf.1 hf.2.1 hd (k l p e s m args below meth c dC dI cy A ad0 adV ad dom0 dom H locs ls hf hX hT hE hW hS hl ho (ok_c ok_l (ok_t (ok_t hs))))
theorem aw_lsub {a b : Int64} (hd : decode (mC M) pc = .ok (.lsub, 1)) (k : AW M kc ks (pc + 1) lv (.long (a - b) :: st) h K) : AW M kc ks pc lv (.long b :: .long a :: st) h K := by
  intro l p e s m args below meth c dC dI cy A ad0 adV ad dom0 dom H locs ls hf hX hT hE hW hS hl ho hs
  exact lv_lsub hf.1 hf.2.1 hd (k l p e s m args below meth c dC dI cy A ad0 adV ad dom0 dom H locs ls hf hX hT hE hW hS hl ho (ok_c ok_l (ok_t (ok_t hs))))
theorem aw_lmul {a b : Int64} (hd : decode (mC M) pc = .ok (.lmul, 1)) (k : AW M kc ks (pc + 1) lv (.long (a * b) :: st) h K) : AW M kc ks pc lv (.long b :: .long a :: st) h K := by
  intro l p e s m args below meth c dC dI cy A ad0 adV ad dom0 dom H locs ls hf hX hT hE hW hS hl ho hs
  exact lv_lmul hf.1 hf.2.1 hd (k l p e s m args below meth c dC dI cy A ad0 adV ad dom0 dom H locs ls hf hX hT hE hW hS hl ho (ok_c ok_l (ok_t (ok_t hs))))
theorem aw_land {a b : Int64} (hd : decode (mC M) pc = .ok (.land, 1)) (k : AW M kc ks (pc + 1) lv (.long (a &&& b) :: st) h K) : AW M kc ks pc lv (.long b :: .long a :: st) h K := by
  intro l p e s m args below meth c dC dI cy A ad0 adV ad dom0 dom H locs ls hf hX hT hE hW hS hl ho hs
  exact lv_land hf.1 hf.2.1 hd (k l p e s m args below meth c dC dI cy A ad0 adV ad dom0 dom H locs ls hf hX hT hE hW hS hl ho (ok_c ok_l (ok_t (ok_t hs))))
theorem aw_lor {a b : Int64} (hd : decode (mC M) pc = .ok (.lor, 1)) (k : AW M kc ks (pc + 1) lv (.long (a ||| b) :: st) h K) : AW M kc ks pc lv (.long b :: .long a :: st) h K := by
  intro l p e s m args below meth c dC dI cy A ad0 adV ad dom0 dom H locs ls hf hX hT hE hW hS hl ho hs
  exact lv_lor hf.1 hf.2.1 hd (k l p e s m args below meth c dC dI cy A ad0 adV ad dom0 dom H locs ls hf hX hT hE hW hS hl ho (ok_c ok_l (ok_t (ok_t hs))))
theorem aw_lxor {a b : Int64} (hd : decode (mC M) pc = .ok (.lxor, 1)) (k : AW M kc ks (pc + 1) lv (.long (a ^^^ b) :: st) h K) : AW M kc ks pc lv (.long b :: .long a :: st) h K := by
  intro l p e s m args below meth c dC dI cy A ad0 adV ad dom0 dom H locs ls hf hX hT hE hW hS hl ho hs
  exact lv_lxor hf.1 hf.2.1 hd (k l p e s m args below meth c dC dI cy A ad0 adV ad dom0 dom H locs ls hf hX hT hE hW hS hl ho (ok_c ok_l (ok_t (ok_t hs))))
theorem aw_lshl {a : Int64} {b : Int32} (hd : decode (mC M) pc = .ok (.lshl, 1)) (k : AW M kc ks (pc + 1) lv (.long (a <<< (b.toInt64 &&& 63)) :: st) h K) : AW M kc ks pc lv (.int b :: .long a :: st) h K := by
  intro l p e s m args below meth c dC dI cy A ad0 adV ad dom0 dom H locs ls hf hX hT hE hW hS hl ho hs
  exact lv_lshl hf.1 hf.2.1 hd rfl (k l p e s m args below meth c dC dI cy A ad0 adV ad dom0 dom H locs ls hf hX hT hE hW hS hl ho (ok_c ok_l (ok_t (ok_t hs))))
theorem aw_lshr {a : Int64} {b : Int32} (hd : decode (mC M) pc = .ok (.lshr, 1)) (k : AW M kc ks (pc + 1) lv (.long (a >>> (b.toInt64 &&& 63)) :: st) h K) : AW M kc ks pc lv (.int b :: .long a :: st) h K := by
  intro l p e s m args below meth c dC dI cy A ad0 adV ad dom0 dom H locs ls hf hX hT hE hW hS hl ho hs
  exact lv_lshr hf.1 hf.2.1 hd rfl (k l p e s m args below meth c dC dI cy A ad0 adV ad dom0 dom H locs ls hf hX hT hE hW hS hl ho (ok_c ok_l (ok_t (ok_t hs))))
theorem aw_lcmp {a b : Int64} (hd : decode (mC M) pc = .ok (.lcmp, 1)) (k : AW M kc ks (pc + 1) lv (.int (lg_cmp a b) :: st) h K) : AW M kc ks pc lv (.long b :: .long a :: st) h K := by
  intro l p e s m args below meth c dC dI cy A ad0 adV ad dom0 dom H locs ls hf hX hT hE hW hS hl ho hs
  exact W.lcmp hf.1 hf.2.1 hd (k l p e s m args below meth c dC dI cy A ad0 adV ad dom0 dom H locs ls hf hX hT hE hW hS hl ho (ok_c ok_i (ok_t (ok_t hs))))
theorem aw_i2l {a : Int32} (hd : decode (mC M) pc = .ok (.i2l, 1)) (k : AW M kc ks (pc + 1) lv (.long a.toInt64 :: st) h K) : AW M kc ks pc lv (.int a :: st) h K := by
  intro l p e s m args below meth c dC dI cy A ad0 adV ad dom0 dom H locs ls hf hX hT hE hW hS hl ho hs
  exact lv_i2l hf.1 hf.2.1 hd rfl (k l p e s m args below meth c dC dI cy A ad0 adV ad dom0 dom H locs ls hf hX hT hE hW hS hl ho (ok_c ok_l (ok_t hs)))
theorem aw_l2i {a : Int64} (hd : decode (mC M) pc = .ok (.l2i, 1)) (k : AW M kc ks (pc + 1) lv (.int a.toInt32 :: st) h K) : AW M kc ks pc lv (.long a :: st) h K := by
  intro l p e s m args below meth c dC dI cy A ad0 adV ad dom0 dom H locs ls hf hX hT hE hW hS hl ho hs
  exact lv_l2i hf.1 hf.2.1 hd rfl (k l p e s m args below meth c dC dI cy A ad0 adV ad dom0 dom H locs ls hf hX hT hE hW hS hl ho (ok_c ok_i (ok_t hs)))
theorem aw_i2b {a : Int32} (hd : decode (mC M) pc = .ok (.i2b, 1)) (k : AW M kc ks (pc + 1) lv (.int a.toInt8.toInt32 :: st) h K) : AW M kc ks pc lv (.int a :: st) h K := by
  intro l p e s m args below meth c dC dI cy A ad0 adV ad dom0 dom H locs ls hf hX hT hE hW hS hl ho hs
  exact lv_i2b hf.1 hf.2.1 hd rfl (k l p e s m args below meth c dC dI cy A ad0 adV ad dom0 dom H locs ls hf hX hT hE hW hS hl ho (ok_c ok_i (ok_t hs)))
theorem aw_i2c {a : Int32} (hd : decode (mC M) pc = .ok (.i2c, 1)) (k : AW M kc ks (pc + 1) lv (.int (a.toUInt32 % 65536).toInt32 :: st) h K) : AW M kc ks pc lv (.int a :: st) h K := by
  intro l p e s m args below meth c dC dI cy A ad0 adV ad dom0 dom H locs ls hf hX hT hE hW hS hl ho hs
  exact lv_i2c hf.1 hf.2.1 hd rfl (k l p e s m args below meth c dC dI cy A ad0 adV ad dom0 dom H locs ls hf hX hT hE hW hS hl ho (ok_c ok_i (ok_t hs)))
theorem aw_dup {v : Value} (hd : decode (mC M) pc = .ok (.dup, 1)) (hc : v.category = 1) (k : AW M kc ks (pc + 1) lv (v :: v :: st) h K) : AW M kc ks pc lv (v :: st) h K := by
  intro l p e s m args below meth c dC dI cy A ad0 adV ad dom0 dom H locs ls hf hX hT hE hW hS hl ho hs
  exact lv_dup hf.1 hf.2.1 hd (by rw [cv_cat]; exact hc) (k l p e s m args below meth c dC dI cy A ad0 adV ad dom0 dom H locs ls hf hX hT hE hW hS hl ho (ok_c (ok_h hs) hs))
theorem aw_pop {v : Value} (hd : decode (mC M) pc = .ok (.pop, 1)) (hc : v.category = 1) (k : AW M kc ks (pc + 1) lv st h K) : AW M kc ks pc lv (v :: st) h K := by
  intro l p e s m args below meth c dC dI cy A ad0 adV ad dom0 dom H locs ls hf hX hT hE hW hS hl ho hs
  exact lv_pop hf.1 hf.2.1 hd (by rw [cv_cat]; exact hc) (k l p e s m args below meth c dC dI cy A ad0 adV ad dom0 dom H locs ls hf hX hT hE hW hS hl ho (ok_t hs))
theorem aw_dup2 {v w : Value} (hd : decode (mC M) pc = .ok (.dup2, 1)) (hc : v.category = 1 ∧ w.category = 1) (k : AW M kc ks (pc + 1) lv (v :: w :: v :: w :: st) h K) : AW M kc ks pc lv (v :: w :: st) h K := by
  intro l p e s m args below meth c dC dI cy A ad0 adV ad dom0 dom H locs ls hf hX hT hE hW hS hl ho hs
  exact lv_dup2_11 hf.1 hf.2.1 hd (by rw [cv_cat]; exact hc.1) (by rw [cv_cat]; exact hc.2) (k l p e s m args below meth c dC dI cy A ad0 adV ad dom0 dom H locs ls hf hX hT hE hW hS hl ho (ok_c (ok_h hs) (ok_c (ok_h (ok_t hs)) hs)))
theorem aw_dup_x1 {v w : Value} (hd : decode (mC M) pc = .ok (.dup_x1, 1)) (hc : v.category = 1 ∧ w.category = 1) (k : AW M kc ks (pc + 1) lv (v :: w :: v :: st) h K) : AW M kc ks pc lv (v :: w :: st) h K := by
  intro l p e s m args below meth c dC dI cy A ad0 adV ad dom0 dom H locs ls hf hX hT hE hW hS hl ho hs
  exact lv_dup_x1 hf.1 hf.2.1 hd (by rw [cv_cat]; exact hc.1) (by rw [cv_cat]; exact hc.2) (k l p e s m args below meth c dC dI cy A ad0 adV ad dom0 dom H locs ls hf hX hT hE hW hS hl ho (ok_c (ok_h hs) (ok_c (ok_h (ok_t hs)) (ok_c (ok_h hs) (ok_t (ok_t hs))))))
theorem aw_icmp_eq {a b : Int32} {off : Int} {tgt : Nat} (hd : decode (mC M) pc = .ok (.if_icmp .eq off, 3)) (ht : (pc : Int) + off = (tgt : Int)) (k1 : a = b → AW M kc ks tgt lv st h K) (k2 : ¬ a = b → AW M kc ks (pc + 3) lv st h K) : AW M kc ks pc lv (.int b :: .int a :: st) h K := by
  intro l p e s m args below meth c dC dI cy A ad0 adV ad dom0 dom H locs ls hf hX hT hE hW hS hl ho hs
  exact lv_icmp_eq hf.1 hf.2.1 hd ht (fun hc => (k1 hc l p e s m args below meth c dC dI cy A ad0 adV ad dom0 dom H locs ls hf hX hT hE hW hS hl ho (ok_t (ok_t hs)))) (fun hc => (k2 hc l p e s m args below meth c dC dI cy A ad0 adV ad dom0 dom H locs ls hf hX hT hE hW hS hl ho (ok_t (ok_t hs))))
theorem aw_icmp_ne {a b : Int32} {off : Int} {tgt : Nat} (hd : decode (mC M) pc = .ok (.if_icmp .ne off, 3)) (ht : (pc : Int) + off = (tgt : Int)) (k1 : ¬ a = b → AW M kc ks tgt lv st h K) (k2 : a = b → AW M kc ks (pc + 3) lv st h K) : AW M kc ks pc lv (.int b :: .int a :: st) h K := by
  intro l p e s m args below meth c dC dI cy A ad0 adV ad dom0 dom H locs ls hf hX hT hE hW hS hl ho hs
  exact lv_icmp_ne hf.1 hf.2.1 hd ht (fun hc => (k1 hc l p e s m args below meth c dC dI cy A ad0 adV ad dom0 dom H locs ls hf hX hT hE hW hS hl ho (ok_t (ok_t hs)))) (fun hc => (k2 hc l p e s m args below meth c dC dI cy A ad0 adV ad dom0 dom H locs ls hf hX hT hE hW hS hl ho (ok_t (ok_t hs))))
theorem aw_icmp_lt {a b : Int32} {off : Int} {tgt : Nat} (hd : decode (mC M) pc = .ok (.if_icmp .lt off, 3)) (ht : (pc : Int) + off = (tgt : Int)) (k1 : a < b → AW M kc ks tgt lv st h K) (k2 : ¬ a < b → AW M kc ks (pc + 3) lv st h K) : AW M kc ks pc lv (.int b :: .int a :: st) h K := by
  intro l p e s m args below meth c dC dI cy A ad0 adV ad dom0 dom H locs ls hf hX hT hE hW hS hl ho hs
  exact lv_icmp_lt hf.1 hf.2.1 hd ht (fun hc => (k1 hc l p e s m args below meth c dC dI cy A ad0 adV ad dom0 dom H locs ls hf hX hT hE hW hS hl ho (ok_t (ok_t hs)))) (fun hc => (k2 hc l p e s m args below meth c dC dI cy A ad0 adV ad dom0 dom H locs ls hf hX hT hE hW hS hl ho (ok_t (ok_t hs))))
theorem aw_icmp_ge {a b : Int32} {off : Int} {tgt : Nat} (hd : decode (mC M) pc = .ok (.if_icmp .ge off, 3)) (ht : (pc : Int) + off = (tgt : Int)) (k1 : b ≤ a → AW M kc ks tgt lv st h K) (k2 : ¬ b ≤ a → AW M kc ks (pc + 3) lv st h K) : AW M kc ks pc lv (.int b :: .int a :: st) h K := by
  intro l p e s m args below meth c dC dI cy A ad0 adV ad dom0 dom H locs ls hf hX hT hE hW hS hl ho hs
  exact lv_icmp_ge hf.1 hf.2.1 hd ht (fun hc => (k1 hc l p e s m args below meth c dC dI cy A ad0 adV ad dom0 dom H locs ls hf hX hT hE hW hS hl ho (ok_t (ok_t hs)))) (fun hc => (k2 hc l p e s m args below meth c dC dI cy A ad0 adV ad dom0 dom H locs ls hf hX hT hE hW hS hl ho (ok_t (ok_t hs))))
theorem aw_icmp_gt {a b : Int32} {off : Int} {tgt : Nat} (hd : decode (mC M) pc = .ok (.if_icmp .gt off, 3)) (ht : (pc : Int) + off = (tgt : Int)) (k1 : b < a → AW M kc ks tgt lv st h K) (k2 : ¬ b < a → AW M kc ks (pc + 3) lv st h K) : AW M kc ks pc lv (.int b :: .int a :: st) h K := by
  intro l p e s m args below meth c dC dI cy A ad0 adV ad dom0 dom H locs ls hf hX hT hE hW hS hl ho hs
  exact lv_icmp_gt hf.1 hf.2.1 hd ht (fun hc => (k1 hc l p e s m args below meth c dC dI cy A ad0 adV ad dom0 dom H locs ls hf hX hT hE hW hS hl ho (ok_t (ok_t hs)))) (fun hc => (k2 hc l p e s m args below meth c dC dI cy A ad0 adV ad dom0 dom H locs ls hf hX hT hE hW hS hl ho (ok_t (ok_t hs))))
theorem aw_icmp_le {a b : Int32} {off : Int} {tgt : Nat} (hd : decode (mC M) pc = .ok (.if_icmp .le off, 3)) (ht : (pc : Int) + off = (tgt : Int)) (k1 : a ≤ b → AW M kc ks tgt lv st h K) (k2 : ¬ a ≤ b → AW M kc ks (pc + 3) lv st h K) : AW M kc ks pc lv (.int b :: .int a :: st) h K := by
  intro l p e s m args below meth c dC dI cy A ad0 adV ad dom0 dom H locs ls hf hX hT hE hW hS hl ho hs
  exact lv_icmp_le hf.1 hf.2.1 hd ht (fun hc => (k1 hc l p e s m args below meth c dC dI cy A ad0 adV ad dom0 dom H locs ls hf hX hT hE hW hS hl ho (ok_t (ok_t hs)))) (fun hc => (k2 hc l p e s m args below meth c dC dI cy A ad0 adV ad dom0 dom H locs ls hf hX hT hE hW hS hl ho (ok_t (ok_t hs))))
theorem aw_if_eq {a : Int32} {off : Int} {tgt : Nat} (hd : decode (mC M) pc = .ok (.ifCond .eq off, 3)) (ht : (pc : Int) + off = (tgt : Int)) (k1 : a = 0 → AW M kc ks tgt lv st h K) (k2 : ¬ a = 0 → AW M kc ks (pc + 3) lv st h K) : AW M kc ks pc lv (.int a :: st) h K := by
  intro l p e s m args below meth c dC dI cy A ad0 adV ad dom0 dom H locs ls hf hX hT hE hW hS hl ho hs
  exact lv_if_eq hf.1 hf.2.1 hd ht (fun hc => (k1 hc l p e s m args below meth c dC dI cy A ad0 adV ad dom0 dom H locs ls hf hX hT hE hW hS hl ho (ok_t hs))) (fun hc => (k2 hc l p e s m args below meth c dC dI cy A ad0 adV ad dom0 dom H locs ls hf hX hT hE hW hS hl ho (ok_t hs)))
theorem aw_if_ne {a : Int32} {off : Int} {tgt : Nat} (hd : decode (mC M) pc = .ok (.ifCond .ne off, 3)) (ht : (pc : Int) + off = (tgt : Int)) (k1 : ¬ a = 0 → AW M kc ks tgt lv st h K) (k2 : a = 0 → AW M kc ks (pc + 3) lv st h K) : AW M kc ks pc lv (.int a :: st) h K := by
  intro l p e s m args below meth c dC dI cy A ad0 adV ad dom0 dom H locs ls hf hX hT hE hW hS hl ho hs
  exact lv_if_ne hf.1 hf.2.1 hd ht (fun hc => (k1 hc l p e s m args below meth c dC dI cy A ad0 adV ad dom0 dom H locs ls hf hX hT hE hW hS hl ho (ok_t hs))) (fun hc => (k2 hc l p e s m args below meth c dC dI cy A ad0 adV ad dom0 dom H locs ls hf hX hT hE hW hS hl ho (ok_t hs)))
theorem aw_if_lt {a : Int32} {off : Int} {tgt : Nat} (hd : decode (mC M) pc = .ok (.ifCond .lt off, 3)) (ht : (pc : Int) + off = (tgt : Int)) (k1 : a < 0 → AW M kc ks tgt lv st h K) (k2 : ¬ a < 0 → AW M kc ks (pc + 3) lv st h K) : AW M kc ks pc lv (.int a :: st) h K := by
  intro l p e s m args below meth c dC dI cy A ad0 adV ad dom0 dom H locs ls hf hX hT hE hW hS hl ho hs
  exact lv_if_lt hf.1 hf.2.1 hd ht (fun hc => (k1 hc l p e s m args below meth c dC dI cy A ad0 adV ad dom0 dom H locs ls hf hX hT hE hW hS hl ho (ok_t hs))) (fun hc => (k2 hc l p e s m args below meth c dC dI cy A ad0 adV ad dom0 dom H locs ls hf hX hT hE hW hS hl ho (ok_t hs)))
theorem aw_if_ge {a : Int32} {off : Int} {tgt : Nat} (hd : decode (mC M) pc = .ok (.ifCond .ge off, 3)) (ht : (pc : Int) + off = (tgt : Int)) (k1 : 0 ≤ a → AW M kc ks tgt lv st h K) (k2 : ¬ 0 ≤ a → AW M kc ks (pc + 3) lv st h K) : AW M kc ks pc lv (.int a :: st) h K := by
  intro l p e s m args below meth c dC dI cy A ad0 adV ad dom0 dom H locs ls hf hX hT hE hW hS hl ho hs
  exact lv_if_ge hf.1 hf.2.1 hd ht (fun hc => (k1 hc l p e s m args below meth c dC dI cy A ad0 adV ad dom0 dom H locs ls hf hX hT hE hW hS hl ho (ok_t hs))) (fun hc => (k2 hc l p e s m args below meth c dC dI cy A ad0 adV ad dom0 dom H locs ls hf hX hT hE hW hS hl ho (ok_t hs)))
theorem aw_if_gt {a : Int32} {off : Int} {tgt : Nat} (hd : decode (mC M) pc = .ok (.ifCond .gt off, 3)) (ht : (pc : Int) + off = (tgt : Int)) (k1 : 0 < a → AW M kc ks tgt lv st h K) (k2 : ¬ 0 < a → AW M kc ks (pc + 3) lv st h K) : AW M kc ks pc lv (.int a :: st) h K := by
  intro l p e s m args below meth c dC dI cy A ad0 adV ad dom0 dom H locs ls hf hX hT hE hW hS hl ho hs
  exact lv_if_gt hf.1 hf.2.1 hd ht (fun hc => (k1 hc l p e s m args below meth c dC dI cy A ad0 adV ad dom0 dom H locs ls hf hX hT hE hW hS hl ho (ok_t hs))) (fun hc => (k2 hc l p e s m args below meth c dC dI cy A ad0 adV ad dom0 dom H locs ls hf hX hT hE hW hS hl ho (ok_t hs)))
theorem aw_if_le {a : Int32} {off : Int} {tgt : Nat} (hd : decode (mC M) pc = .ok (.ifCond .le off, 3)) (ht : (pc : Int) + off = (tgt : Int)) (k1 : a ≤ 0 → AW M kc ks tgt lv st h K) (k2 : ¬ a ≤ 0 → AW M kc ks (pc + 3) lv st h K) : AW M kc ks pc lv (.int a :: st) h K := by
  intro l p e s m args below meth c dC dI cy A ad0 adV ad dom0 dom H locs ls hf hX hT hE hW hS hl ho hs
  exact lv_if_le hf.1 hf.2.1 hd ht (fun hc => (k1 hc l p e s m args below meth c dC dI cy A ad0 adV ad dom0 dom H locs ls hf hX hT hE hW hS hl ho (ok_t hs))) (fun hc => (k2 hc l p e s m args below meth c dC dI cy A ad0 adV ad dom0 dom H locs ls hf hX hT hE hW hS hl ho (ok_t hs)))
theorem aw_goto {off : Int} {tgt : Nat} (hd : decode (mC M) pc = .ok (.goto off, 3)) (ht : (pc : Int) + off = (tgt : Int)) (k : AW M kc ks tgt lv st h K) : AW M kc ks pc lv st h K := by
  intro l p e s m args below meth c dC dI cy A ad0 adV ad dom0 dom H locs ls hf hX hT hE hW hS hl ho hs
  exact lv_goto hf.1 hf.2.1 hd ht (k l p e s m args below meth c dC dI cy A ad0 adV ad dom0 dom H locs ls hf hX hT hE hW hS hl ho hs)
theorem aw_ifnull {a : Nat} {off : Int} (hd : decode (mC M) pc = .ok (.ifnull off, 3)) (k : AW M kc ks (pc + 3) lv st h K) : AW M kc ks pc lv (.ref a :: st) h K := by
  intro l p e s m args below meth c dC dI cy A ad0 adV ad dom0 dom H locs ls hf hX hT hE hW hS hl ho hs
  exact lv_ifnull hf.1 hf.2.1 hd (k l p e s m args below meth c dC dI cy A ad0 adV ad dom0 dom H locs ls hf hX hT hE hW hS hl ho (ok_t hs))
theorem aw_ifnonnull {a : Nat} {off : Int} {tgt : Nat} (hd : decode (mC M) pc = .ok (.ifnonnull off, 3)) (ht : (pc : Int) + off = (tgt : Int)) (k : AW M kc ks tgt lv st h K) : AW M kc ks pc lv (.ref a :: st) h K := by
  intro l p e s m args below meth c dC dI cy A ad0 adV ad dom0 dom H locs ls hf hX hT hE hW hS hl ho hs
  exact lv_ifnonnull hf.1 hf.2.1 hd ht (k l p e s m args below meth c dC dI cy A ad0 adV ad dom0 dom H locs ls hf hX hT hE hW hS hl ho (ok_t hs))
theorem aw_ifnullN {off : Int} {tgt : Nat} (hd : decode (mC M) pc = .ok (.ifnull off, 3)) (ht : (pc : Int) + off = (tgt : Int)) (k : AW M kc ks tgt lv st h K) : AW M kc ks pc lv (.null :: st) h K := by
  intro l p e s m args below meth c dC dI cy A ad0 adV ad dom0 dom H locs ls hf hX hT hE hW hS hl ho hs
  exact lv_ifnullN hf.1 hf.2.1 hd ht (k l p e s m args below meth c dC dI cy A ad0 adV ad dom0 dom H locs ls hf hX hT hE hW hS hl ho (ok_t hs))
theorem aw_ifnonnullN {off : Int} (hd : decode (mC M) pc = .ok (.ifnonnull off, 3)) (k : AW M kc ks (pc + 3) lv st h K) : AW M kc ks pc lv (.null :: st) h K := by
  intro l p e s m args below meth c dC dI cy A ad0 adV ad dom0 dom H locs ls hf hX hT hE hW hS hl ho hs
  exact lv_ifnonnullN hf.1 hf.2.1 hd (k l p e s m args below meth c dC dI cy A ad0 adV ad dom0 dom H locs ls hf hX hT hE hW hS hl ho (ok_t hs))
theorem aw_tableIn {dflt lo hi : Int} {offs : Array Int} {len : Nat} {x : Int32} {off : Int} {tgt : Nat} (hd : decode (mC M) pc = .ok (.tableswitch dflt lo hi offs, len)) (h1 : ¬ x.toInt < lo) (h2 : ¬ hi < x.toInt) (hoff : offs[(x.toInt - lo).toNat]? = some off) (ht : (pc : Int) + off = (tgt : Int)) (k : AW M kc ks tgt lv st h K) : AW M kc ks pc lv (.int x :: st) h K := by
  intro l p e s m args below meth c dC dI cy A ad0 adV ad dom0 dom H locs ls hf hX hT hE hW hS hl ho hs
  exact lv_tableIn hf.1 hf.2.1 hd h1 h2 hoff ht (k l p e s m args below meth c dC dI cy A ad0 adV ad dom0 dom H locs ls hf hX hT hE hW hS hl ho (ok_t hs))
theorem aw_tableOut {dflt lo hi : Int} {offs : Array Int} {len : Nat} {x : Int32} {tgt : Nat} (hd : decode (mC M) pc = .ok (.tableswitch dflt lo hi offs, len)) (h1 : x.toInt < lo ∨ hi < x.toInt) (ht : (pc : Int) + dflt = (tgt : Int)) (k : AW M kc ks tgt lv st h K) : AW M kc ks pc lv (.int x :: st) h K := by
  intro l p e s m args below meth c dC dI cy A ad0 adV ad dom0 dom H locs ls hf hX hT hE hW hS hl ho hs
  exact lv_tableOut hf.1 hf.2.1 hd h1 ht (k l p e s m args below meth c dC dI cy A ad0 adV ad dom0 dom H locs ls hf hX hT hE hW hS hl ho (ok_t hs))
theorem aw_lookup {dflt : Int} {ps : Array (Int × Int)} {len : Nat} {x : Int32} {off : Int} {tgt : Nat} (hd : decode (mC M) pc = .ok (.lookupswitch dflt ps, len)) (hp : (ps.toList.zip (ps.toList.drop 1)).all (fun (a, next) => a.1 < next.1) = true) (hoff : Op.lookupswitch.offset ps.toList dflt x.toInt = off) (ht : (pc : Int) + off = (tgt : Int)) (k : AW M kc ks tgt lv st h K) : AW M kc ks pc lv (.int x :: st) h K := by
  intro l p e s m args below meth c dC dI cy A ad0 adV ad dom0 dom H locs ls hf hX hT hE hW hS hl ho hs
  exact lv_lookup hf.1 hf.2.1 hd hp hoff ht (k l p e s m args below meth c dC dI cy A ad0 adV ad dom0 dom H locs ls hf hX hT hE hW hS hl ho (ok_t hs))
end AWR
