theorem lw_m1 {w : Cond} (i : Nat) (h0 : tables_1_1[i]? = some w) : w ∈ lw_tbl := List.mem_append_right _ (by have h : w ∈ tables_1_1 := List.mem_of_getElem? h0; unfold tables_1; exact List.mem_append_left _ h)
theorem lw_m2 {w : Cond} (i : Nat) (h0 : tables_1_2[i]? = some w) : w ∈ lw_tbl := List.mem_append_right _ (by have h : w ∈ tables_1_2 := List.mem_of_getElem? h0; unfold tables_1; exact List.mem_append_right _ (List.mem_append_left _ h))
theorem lw_m3 {w : Cond} (i : Nat) (h0 : tables_1_3[i]? = some w) : w ∈ lw_tbl := List.mem_append_right _ (by have h : w ∈ tables_1_3 := List.mem_of_getElem? h0; unfold tables_1; exact List.mem_append_right _ (List.mem_append_right _ (List.mem_append_left _ h)))
theorem lw_m4 {w : Cond} (i : Nat) (h0 : tables_1_4[i]? = some w) : w ∈ lw_tbl := List.mem_append_right _ (by have h : w ∈ tables_1_4 := List.mem_of_getElem? h0; unfold tables_1; exact List.mem_append_right _ (List.mem_append_right _ (List.mem_append_right _ (List.mem_append_left _ h))))
theorem lw_m5 {w : Cond} (i : Nat) (h0 : tables_1_5[i]? = some w) : w ∈ lw_tbl := List.mem_append_right _ (by have h : w ∈ tables_1_5 := List.mem_of_getElem? h0; unfold tables_1; exact List.mem_append_right _ (List.mem_append_right _ (List.mem_append_right _ (List.mem_append_right _ (List.mem_append_left _ h)))))
theorem lw_m6 {w : Cond} (i : Nat) (h0 : tables_1_6[i]? = some w) : w ∈ lw_tbl := List.mem_append_right _ (by have h : w ∈ tables_1_6 := List.mem_of_getElem? h0; unfold tables_1; exact List.mem_append_right _ (List.mem_append_right _ (List.mem_append_right _ (List.mem_append_right _ (List.mem_append_right _ (List.mem_append_left _ h))))))
theorem lw_m7 {w : Cond} (i : Nat) (h0 : tables_1_7[i]? = some w) : w ∈ lw_tbl := List.mem_append_right _ (by have h : w ∈ tables_1_7 := List.mem_of_getElem? h0; unfold tables_1; exact List.mem_append_right _ (List.mem_append_right _ (List.mem_append_right _ (List.mem_append_right _ (List.mem_append_right _ (List.mem_append_right _ (List.mem_append_left _ h)))))))
theorem lw_m8 {w : Cond} (i : Nat) (h0 : tables_1_8[i]? = some w) : w ∈ lw_tbl := List.mem_append_right _ (by have h : w ∈ tables_1_8 := List.mem_of_getElem? h0; unfold tables_1; exact List.mem_append_right _ (List.mem_append_right _ (List.mem_append_right _ (List.mem_append_right _ (List.mem_append_right _ (List.mem_append_right _ (List.mem_append_right _ (List.mem_append_left _ h))))))))
theorem lw_m9 {w : Cond} (i : Nat) (h0 : tables_1_9[i]? = some w) : w ∈ lw_tbl := List.mem_append_right _ (by have h : w ∈ tables_1_9 := List.mem_of_getElem? h0; unfold tables_1; exact List.mem_append_right _ (List.mem_append_right _ (List.mem_append_right _ (List.mem_append_right _ (List.mem_append_right _ (List.mem_append_right _ (List.mem_append_right _ (List.mem_append_right _ (List.mem_append_left _ h)))))))))
theorem lw_m10 {w : Cond} (i : Nat) (h0 : tables_1_10[i]? = some w) : w ∈ lw_tbl := List.mem_append_right _ (by have h : w ∈ tables_1_10 := List.mem_of_getElem? h0; unfold tables_1; exact List.mem_append_right _ (List.mem_append_right _ (List.mem_append_right _ (List.mem_append_right _ (List.mem_append_right _ (List.mem_append_right _ (List.mem_append_right _ (List.mem_append_right _ (List.mem_append_right _ (List.mem_append_left _ h))))))))))
theorem lw_m11 {w : Cond} (i : Nat) (h0 : tables_1_11[i]? = some w) : w ∈ lw_tbl := List.mem_append_right _ (by have h : w ∈ tables_1_11 := List.mem_of_getElem? h0; unfold tables_1; exact List.mem_append_right _ (List.mem_append_right _ (List.mem_append_right _ (List.mem_append_right _ (List.mem_append_right _ (List.mem_append_right _ (List.mem_append_right _ (List.mem_append_right _ (List.mem_append_right _ (List.mem_append_right _ (List.mem_append_left _ h)))))))))))
theorem lw_m12 {w : Cond} (i : Nat) (h0 : tables_1_12[i]? = some w) : w ∈ lw_tbl := List.mem_append_right _ (by have h : w ∈ tables_1_12 := List.mem_of_getElem? h0; unfold tables_1; exact List.mem_append_right _ (List.mem_append_right _ (List.mem_append_right _ (List.mem_append_right _ (List.mem_append_right _ (List.mem_append_right _ (List.mem_append_right _ (List.mem_append_right _ (List.mem_append_right _ (List.mem_append_right _ (List.mem_append_right _ (h))))))))))))
theorem sw_0 : Cond.stringRef "CountyWatch$Reader" 15 "" ∈ lw_tbl := lw_m1 58 (by decide +kernel)
theorem sw_1 : Cond.stringRef "CountyWatch$Reader" 108 "kwphdcnet" ∈ lw_tbl := lw_m4 7 (by decide +kernel)
theorem sw_2 : Cond.stringRef "CountyWatch$Reader" 110 "cymxta" ∈ lw_tbl := lw_m4 8 (by decide +kernel)
theorem sw_3 : Cond.stringRef "CountyWatch$Reader" 124 "xnrt" ∈ lw_tbl := lw_m4 139 (by decide +kernel)
theorem sw_4 : Cond.stringRef "CountyWatch" 376 "kwphdcnet" ∈ lw_tbl := lw_m5 101 (by decide +kernel)
theorem sw_5 : Cond.stringRef "CountyWatchModel" 565 "kwphdcnet" ∈ lw_tbl := lw_m11 3 (by decide +kernel)
theorem nw_0 : Cond.methodLinkNest "CountyWatch" 18 ⟨"CountyWatch$Reader", "<init>", "()V"⟩ "CountyWatch" ∈ lw_tbl := lw_m1 54 (by decide +kernel)
theorem nw_1 : Cond.methodLinkNest "CountyWatch" 25 ⟨"CountyWatch$Beats", "<init>", "()V"⟩ "CountyWatch" ∈ lw_tbl := lw_m1 99 (by decide +kernel)
theorem nw_2 : Cond.methodLinkNest "CountyWatch" 32 ⟨"CountyWatch$Rules", "<init>", "()V"⟩ "CountyWatch" ∈ lw_tbl := lw_m1 120 (by decide +kernel)
theorem nw_3 : Cond.methodLinkNest "CountyWatch" 48 ⟨"CountyWatch$Points", "<init>", "()V"⟩ "CountyWatch" ∈ lw_tbl := lw_m1 148 (by decide +kernel)
theorem nw_4 : Cond.methodLinkNest "CountyWatch" 55 ⟨"CountyWatch$Looks", "<init>", "()V"⟩ "CountyWatch" ∈ lw_tbl := lw_m1 192 (by decide +kernel)
theorem nw_5 : Cond.methodLinkNest "CountyWatch" 69 ⟨"CountyWatch$Goods", "<init>", "()V"⟩ "CountyWatch" ∈ lw_tbl := lw_m2 77 (by decide +kernel)
theorem nw_6 : Cond.methodLinkNest "CountyWatch" 76 ⟨"CountyWatch$Plans", "<init>", "()V"⟩ "CountyWatch" ∈ lw_tbl := lw_m2 119 (by decide +kernel)
theorem nw_7 : Cond.methodLinkNest "CountyWatch$Roads" 16 ⟨"CountyWatch", "isPlace", "(I)Z"⟩ "CountyWatch" ∈ lw_tbl := lw_m3 81 (by decide +kernel)
theorem nw_8 : Cond.methodLinkNest "CountyWatch$Reader" 43 ⟨"CountyWatch", "within", "(III)Z"⟩ "CountyWatch" ∈ lw_tbl := lw_m3 184 (by decide +kernel)
theorem nw_9 : Cond.methodLinkNest "CountyWatch$Looks" 59 ⟨"CountyWatch", "within", "(III)Z"⟩ "CountyWatch" ∈ lw_tbl := lw_m5 71 (by decide +kernel)
theorem nw_10 : Cond.methodLinkNest "CountyWatch$Payroll" 69 ⟨"CountyWatch", "within", "(III)Z"⟩ "CountyWatch" ∈ lw_tbl := lw_m5 84 (by decide +kernel)
theorem nw_11 : Cond.methodLinkNest "CountyWatch$Rules" 45 ⟨"CountyWatch", "within", "(III)Z"⟩ "CountyWatch" ∈ lw_tbl := lw_m5 107 (by decide +kernel)
theorem nw_12 : Cond.methodLinkNest "CountyWatch$Cases" 71 ⟨"CountyWatch", "within", "(III)Z"⟩ "CountyWatch" ∈ lw_tbl := lw_m6 27 (by decide +kernel)
theorem nw_13 : Cond.methodLinkNest "CountyWatch$Beats" 50 ⟨"CountyWatch", "within", "(III)Z"⟩ "CountyWatch" ∈ lw_tbl := lw_m6 233 (by decide +kernel)
theorem nw_14 : Cond.methodLinkNest "CountyWatch$Plans" 79 ⟨"CountyWatch", "within", "(III)Z"⟩ "CountyWatch" ∈ lw_tbl := lw_m7 39 (by decide +kernel)
theorem ao_w : Cond.arrayOver (.object "CountyWatch$Constable") ∈ lw_tbl := lw_m1 145 (by decide +kernel)
theorem st_nest {args : Array Value} {s : State} (hts : ∀ w ∈ lw_tbl, w.before args s = true) : ∀ w ∈ h_nest, va_Nw (.methodLinkNest w.1 w.2.1 w.2.2 "CountyWatch") s := by
  unfold h_nest
  exact List.forall_mem_cons.mpr ⟨va_Nw.of rfl (hts _ nw_0), List.forall_mem_cons.mpr ⟨va_Nw.of rfl (hts _ nw_1), List.forall_mem_cons.mpr ⟨va_Nw.of rfl (hts _ nw_2), List.forall_mem_cons.mpr ⟨va_Nw.of rfl (hts _ nw_3), List.forall_mem_cons.mpr ⟨va_Nw.of rfl (hts _ nw_4), List.forall_mem_cons.mpr ⟨va_Nw.of rfl (hts _ nw_5), List.forall_mem_cons.mpr ⟨va_Nw.of rfl (hts _ nw_6), List.forall_mem_cons.mpr ⟨va_Nw.of rfl (hts _ nw_7), List.forall_mem_cons.mpr ⟨va_Nw.of rfl (hts _ nw_8), List.forall_mem_cons.mpr ⟨va_Nw.of rfl (hts _ nw_9), List.forall_mem_cons.mpr ⟨va_Nw.of rfl (hts _ nw_10), List.forall_mem_cons.mpr ⟨va_Nw.of rfl (hts _ nw_11), List.forall_mem_cons.mpr ⟨va_Nw.of rfl (hts _ nw_12), List.forall_mem_cons.mpr ⟨va_Nw.of rfl (hts _ nw_13), List.forall_mem_cons.mpr ⟨va_Nw.of rfl (hts _ nw_14), fun _ h => absurd h List.not_mem_nil⟩⟩⟩⟩⟩⟩⟩⟩⟩⟩⟩⟩⟩⟩⟩
theorem st_K {args : Array Value} {s : State} (hts : ∀ w ∈ lw_tbl, w.before args s = true) : ∃ (dC : Nat → ClassId) (dI : Nat → Nat → Nat) (cy : Nat → ClassId), cx_ dC dI cy s := by
  have htg : ∀ w ∈ lw_g, w.before args s = true := fun w hw => hts w (List.mem_filter.mp hw).1
  obtain ⟨c0, i0, K0⟩ := u_known (C := RX0) (T := TX0) (N := 4) (n := 4) htg iX0 (htg _ tw_98)
  obtain ⟨c1, i1, K1⟩ := u_known (C := RX1) (T := TX1) (N := 16) (n := 16) htg iX1 (htg _ tw_254)
  obtain ⟨c2, i2, K2⟩ := u_known (C := RX2) (T := TX2) (N := 17) (n := 17) htg iX2 (htg _ tw_566)
  obtain ⟨c3, i3, K3⟩ := u_known (C := RX3) (T := TX3) (N := 11) (n := 11) htg iX3 (htg _ tw_316)
  obtain ⟨c4, i4, K4⟩ := u_known (C := RX4) (T := TX4) (N := 17) (n := 17) htg iX4 (htg _ tw_191)
  obtain ⟨c5, i5, K5⟩ := u_known (C := RX5) (T := TX5) (N := 16) (n := 16) htg iX5 (htg _ tw_428)
  obtain ⟨c6, i6, K6⟩ := u_known (C := RX6) (T := TX6) (N := 20) (n := 20) htg iX6 (htg _ tw_358)
  obtain ⟨c7, i7, K7⟩ := u_known (C := RX7) (T := TX7) (N := 12) (n := 12) htg iX7 (htg _ tw_147)
  obtain ⟨c8, i8, K8⟩ := u_known (C := RX8) (T := TX8) (N := 10) (n := 10) htg iX8 (htg _ tw_53)
  obtain ⟨c9, i9, K9⟩ := u_known (C := RX9) (T := TX9) (N := 2) (n := 2) htg iX9 (htg _ tw_36)
  obtain ⟨c10, i10, K10⟩ := u_known (C := RX10) (T := TX10) (N := 6) (n := 6) htg iX10 (htg _ tw_119)
  obtain ⟨c11, i11, K11⟩ := u_known (C := RX11) (T := TX11) (N := 16) (n := 16) htg iX11 (htg _ tw_28)
  obtain ⟨c12, i12, K12⟩ := u_known (C := RX12) (T := TX12) (N := 131) (n := 131) htg iX12 (htg _ tw_1736)
  obtain ⟨a0, q0, m0, f0, g0, j0⟩ := Cond.arrayClass_spec (type := .int) (htg _ tw_51)
  obtain ⟨a1, q1, m1, f1, g1, j1⟩ := Cond.arrayClass_spec (type := .boolean) (htg _ tw_252)
  obtain ⟨a2, q2, m2, f2, g2, j2⟩ := Cond.arrayClass_spec (type := .byte) (htg _ tw_96)
  obtain ⟨a3, q3, m3, f3, g3, j3⟩ := Cond.arrayClass_spec (type := .long) (htg _ tw_426)
  obtain ⟨m4, a4, q4, n4, _, g4, j4, f4⟩ := Cond.arrayOver_spec (n := "CountyWatch$Constable") (hts _ ao_w)
  refine ⟨fun k => [c0, c1, c2, c3, c4, c5, c6, c7, c8, c9, c10, c11, c12].getD k c0, fun k => [i0, i1, i2, i3, i4, i5, i6, i7, i8, i9, i10, i11, i12].getD k i0, fun t => [a0, a1, a2, a3, a4].getD t a0, ⟨fun k q hq => ?_, fun k q hq => ?_⟩, st_nest hts, va_AO.of (hts _ ao_w)⟩
  · match k, hq with
    | 0, hq => cases hq; exact K0
    | 1, hq => cases hq; exact K1
    | 2, hq => cases hq; exact K2
    | 3, hq => cases hq; exact K3
    | 4, hq => cases hq; exact K4
    | 5, hq => cases hq; exact K5
    | 6, hq => cases hq; exact K6
    | 7, hq => cases hq; exact K7
    | 8, hq => cases hq; exact K8
    | 9, hq => cases hq; exact K9
    | 10, hq => cases hq; exact K10
    | 11, hq => cases hq; exact K11
    | 12, hq => cases hq; exact K12
    | k + 13, hq => simp [kl_] at hq
  · match k, hq with
    | 0, hq => cases hq; exact ⟨fun n z => ⟨fun k h => (by cases h), q0, g0, m0, j0⟩, f0⟩
    | 1, hq => cases hq; exact ⟨fun n z => ⟨fun k h => (by cases h), q1, g1, m1, j1⟩, f1⟩
    | 2, hq => cases hq; exact ⟨fun n z => ⟨fun k h => (by cases h), q2, g2, m2, j2⟩, f2⟩
    | 3, hq => cases hq; exact ⟨fun n z => ⟨fun k h => (by cases h), q3, g3, m3, j3⟩, f3⟩
    | 4, hq => cases hq; exact ⟨fun n z => ⟨fun k h => (by cases h), q4, g4, m4, j4⟩, q4, m4, g4, j4, n4, f4⟩
    | k + 5, hq => simp [h_tys] at hq
theorem vk_str {own tx : String} {k a : Nat} {args : Array Value} {U : State} (h1 : (Cond.stringRef own k tx).before args U = true) (h2 : (Term.string own k).eval args U none [] U = some (.ref a)) : vk_R own k tx a U := vk_R.of h1 h2
def tm_ (i : Nat) : Term := .string "CountyWatch$Reader" ([15, 108, 110, 124].getD i 15)
theorem cw_0 : Cond.laysStatic "java/lang/String" "COMPACT_STRINGS" "Z" ∈ lw_tbl := lw_m4 53 (by decide +kernel)
theorem cw_1 : Cond.laysStatic "jdk/internal/util/Preconditions" "SIOOBE_FORMATTER" "Ljava/util/function/BiFunction;" ∈ lw_tbl := lw_m4 94 (by decide +kernel)
theorem st_T {b : Nat} {s : State} (hts : ∀ w ∈ lw_tbl, w.before #[Value.ref b] s = true) (hgv : (Jvm.Cond.and given_1 narrow_1).before #[Value.ref b] s = true) (A : Nat → Prop) (hA : ∀ a : Nat, a < s.heap.size → ¬ A a) : ∃ ad adV : Nat → Nat, ad 1100 = b ∧ st_ ad adV A s := by
  have hg := flat_of_before _ hgv
  obtain ⟨adK, adV, h1, h2⟩ := vk_Sof (args := #[Value.ref b]) (s := s) (N := 4) (tm := tm_) (len := [0, 9, 6, 4]) (byt := [[], [107, 119, 112, 104, 100, 99, 110, 101, 116], [99, 121, 109, 120, 116, 97], [120, 110, 114, 116]]) (A := A)
    (fun i hi => by match i, hi with | 0, _ => decide | 1, _ => decide | 2, _ => decide | 3, _ => decide | i + 4, hi => exact absurd hi (by omega))
    (fun i hi => by match i, hi with | 0, _ => exact hg _ (by decide +kernel) | 1, _ => exact hg _ (by decide +kernel) | 2, _ => exact hg _ (by decide +kernel) | 3, _ => exact hg _ (by decide +kernel) | i + 4, hi => exact absurd hi (by omega))
    (fun i hi => by match i, hi with | 0, _ => exact hg _ (by decide +kernel) | 1, _ => exact hg _ (by decide +kernel) | 2, _ => exact hg _ (by decide +kernel) | 3, _ => exact hg _ (by decide +kernel) | i + 4, hi => exact absurd hi (by omega))
    (fun i hi => by match i, hi with | 0, _ => exact hg _ (by decide +kernel) | 1, _ => exact hg _ (by decide +kernel) | 2, _ => exact hg _ (by decide +kernel) | 3, _ => exact hg _ (by decide +kernel) | i + 4, hi => exact absurd hi (by omega))
    (fun i hi => by match i, hi with | 0, _ => exact hg _ (by decide +kernel) | 1, _ => exact hg _ (by decide +kernel) | 2, _ => exact hg _ (by decide +kernel) | 3, _ => exact hg _ (by decide +kernel) | i + 4, hi => exact absurd hi (by omega))
    (fun i hi j hj => by
      match i, hi with
      | 0, _ =>
        exact absurd hj (by simp)
      | 1, _ =>
        match j, hj with
        | 0, _ => exact hg _ (by decide +kernel)
        | 1, _ => exact hg _ (by decide +kernel)
        | 2, _ => exact hg _ (by decide +kernel)
        | 3, _ => exact hg _ (by decide +kernel)
        | 4, _ => exact hg _ (by decide +kernel)
        | 5, _ => exact hg _ (by decide +kernel)
        | 6, _ => exact hg _ (by decide +kernel)
        | 7, _ => exact hg _ (by decide +kernel)
        | 8, _ => exact hg _ (by decide +kernel)
        | j + 9, hj => exact absurd hj (by simp)
      | 2, _ =>
        match j, hj with
        | 0, _ => exact hg _ (by decide +kernel)
        | 1, _ => exact hg _ (by decide +kernel)
        | 2, _ => exact hg _ (by decide +kernel)
        | 3, _ => exact hg _ (by decide +kernel)
        | 4, _ => exact hg _ (by decide +kernel)
        | 5, _ => exact hg _ (by decide +kernel)
        | j + 6, hj => exact absurd hj (by simp)
      | 3, _ =>
        match j, hj with
        | 0, _ => exact hg _ (by decide +kernel)
        | 1, _ => exact hg _ (by decide +kernel)
        | 2, _ => exact hg _ (by decide +kernel)
        | 3, _ => exact hg _ (by decide +kernel)
        | j + 4, hj => exact absurd hj (by simp)
      | i + 4, hi => exact absurd hi (by omega)
    )
    (fun i j hi hj hij => by
      match i, j, hi, hj, hij with
      | 0, 0, _, _, h => exact absurd rfl h
      | 0, 1, _, _, _ => exact Or.inl (hg _ (by decide +kernel))
      | 0, 2, _, _, _ => exact Or.inl (hg _ (by decide +kernel))
      | 0, 3, _, _, _ => exact Or.inl (hg _ (by decide +kernel))
      | 1, 0, _, _, _ => exact Or.inr (hg _ (by decide +kernel))
      | 1, 1, _, _, h => exact absurd rfl h
      | 1, 2, _, _, _ => exact Or.inl (hg _ (by decide +kernel))
      | 1, 3, _, _, _ => exact Or.inl (hg _ (by decide +kernel))
      | 2, 0, _, _, _ => exact Or.inr (hg _ (by decide +kernel))
      | 2, 1, _, _, _ => exact Or.inr (hg _ (by decide +kernel))
      | 2, 2, _, _, h => exact absurd rfl h
      | 2, 3, _, _, _ => exact Or.inl (hg _ (by decide +kernel))
      | 3, 0, _, _, _ => exact Or.inr (hg _ (by decide +kernel))
      | 3, 1, _, _, _ => exact Or.inr (hg _ (by decide +kernel))
      | 3, 2, _, _, _ => exact Or.inr (hg _ (by decide +kernel))
      | 3, 3, _, _, h => exact absurd rfl h
      | i + 4, _, hi, _, _ => exact absurd hi (by omega)
      | _, j + 4, _, hj, _ => exact absurd hj (by omega)
    ) hA
  have hc : va_Z "java/lang/String" "COMPACT_STRINGS" "Z" (.int 1) A s s.heap := va_Zof (hts _ cw_0) (hts _ (List.mem_filter.mp tw_16).1) (va_eqi (hg (Cond.eq (.static "java/lang/String" "COMPACT_STRINGS" "Z") (.int 1)) (by decide +kernel))) hA
  have hq : va_Zq "jdk/internal/util/Preconditions" "SIOOBE_FORMATTER" "Ljava/util/function/BiFunction;" A s s.heap := va_Zqof (hts _ cw_1) (hts _ (List.mem_filter.mp tw_19).1) (hg (Cond.isRef (.static "jdk/internal/util/Preconditions" "SIOOBE_FORMATTER" "Ljava/util/function/BiFunction;")) (by decide +kernel)) hA
  obtain ⟨w, hw⟩ : ∃ w : Nat, va_Z "jdk/internal/util/Preconditions" "SIOOBE_FORMATTER" "Ljava/util/function/BiFunction;" .null A s s.heap ∨ va_Z "jdk/internal/util/Preconditions" "SIOOBE_FORMATTER" "Ljava/util/function/BiFunction;" (.ref w) A s s.heap := by
    rcases hq with z | ⟨u, z⟩
    · exact ⟨0, Or.inl z⟩
    · exact ⟨u, Or.inr z⟩
  obtain ⟨adW, hadW⟩ : ∃ adW : Nat → Nat, adW = fun i => if i = 100 then w else adV i := ⟨_, rfl⟩
  have eW : ∀ i, i < 4 → adW i = adV i := fun i hi => by
    rw [hadW]
    show (if i = 100 then w else adV i) = adV i
    rw [if_neg (by omega)]
  obtain ⟨ad, had⟩ : ∃ ad : Nat → Nat, ad = fun a => if a = 1100 then b else if a < 2000 then adK (a - 1000) else adW (a - 2000) := ⟨_, rfl⟩
  have e : ∀ i, i < 4 → ad (1000 + i) = adK i := fun i hi => by
    rw [had]
    show (if 1000 + i = 1100 then b else if 1000 + i < 2000 then adK (1000 + i - 1000) else adW (1000 + i - 2000)) = adK i
    rw [if_neg (by omega), if_pos (by omega), Nat.add_sub_cancel_left]
  have e2 : ∀ i, ad (2000 + i) = adW i := fun i => by
    rw [had]
    show (if 2000 + i = 1100 then b else if 2000 + i < 2000 then adK (2000 + i - 1000) else adW (2000 + i - 2000)) = adW i
    rw [if_neg (by omega), if_neg (by omega), Nat.add_sub_cancel_left]
  have e3 : ad 2100 = w := by
    rw [show (2100 : Nat) = 2000 + 100 by decide, e2, hadW]
    show (if (100 : Nat) = 100 then w else adV 100) = w
    rw [if_pos rfl]
  refine ⟨ad, adW, by rw [had]; rfl, ⟨⟨fun i hi => ?_, fun i j hi hj hij => ?_⟩, e2, hc, by rw [e3]; exact hw⟩, ?_⟩
  · have z := h1.1 i hi
    rw [← e i hi, ← eW i hi] at z
    exact z
  · have z : ad (1000 + i) = ad (1000 + j) := hij
    rw [e i hi, e j hj] at z
    exact h1.2 i j hi hj z
  · have e0 := h2 0 (by decide)
    have e1 := h2 1 (by decide)
    have e2 := h2 2 (by decide)
    have e3 := h2 3 (by decide)
    have f4 : (Term.string "CountyWatch" 376).eval #[Value.ref b] s none [] s = some (.ref (adK 1)) := va_eqR (hg (Cond.eq (.string "CountyWatch$Reader" 108) (.string "CountyWatch" 376)) (by decide +kernel)) e1
    have f5 : (Term.string "CountyWatchModel" 565).eval #[Value.ref b] s none [] s = some (.ref (adK 1)) := va_eqR (hg (Cond.eq (.string "CountyWatch$Reader" 108) (.string "CountyWatchModel" 565)) (by decide +kernel)) e1
    unfold h_strs
    exact List.forall_mem_cons.mpr ⟨by show vk_R _ _ _ (ad (1000 + 0)) s; rw [e 0 (by decide)]; exact vk_str (hts _ sw_0) e0, List.forall_mem_cons.mpr ⟨by show vk_R _ _ _ (ad (1000 + 1)) s; rw [e 1 (by decide)]; exact vk_str (hts _ sw_1) e1, List.forall_mem_cons.mpr ⟨by show vk_R _ _ _ (ad (1000 + 2)) s; rw [e 2 (by decide)]; exact vk_str (hts _ sw_2) e2, List.forall_mem_cons.mpr ⟨by show vk_R _ _ _ (ad (1000 + 3)) s; rw [e 3 (by decide)]; exact vk_str (hts _ sw_3) e3, List.forall_mem_cons.mpr ⟨by show vk_R _ _ _ (ad (1000 + 1)) s; rw [e 1 (by decide)]; exact vk_str (hts _ sw_4) f4, List.forall_mem_cons.mpr ⟨by show vk_R _ _ _ (ad (1000 + 1)) s; rw [e 1 (by decide)]; exact vk_str (hts _ sw_5) f5, fun _ h => absurd h List.not_mem_nil⟩⟩⟩⟩⟩⟩
theorem zw_308 : Cond.stringRef "CountyWatch" 308 "no such constable" ∈ lw_tbl := lw_m8 28 (by decide +kernel)
theorem zw_316 : Cond.stringRef "CountyWatch" 316 "no such what" ∈ lw_tbl := lw_m8 54 (by decide +kernel)
theorem zw_us : Cond.laysStatic Bundle.tN "UNASSIGNED_STACK" Bundle.steD ∈ lw_tbl := lw_m8 16 (by decide +kernel)
theorem zw_ss : Cond.laysStatic Bundle.tN "SUPPRESSED_SENTINEL" Bundle.listD ∈ lw_tbl := lw_m8 18 (by decide +kernel)
theorem lw_mm {w : Cond} (h : w ∈ tables_1) : w ∈ lw_tbl := List.mem_append_right _ h
theorem zw_all : (aE).all (fun w => decide (w ∈ tables_1_8) || decide (w ∈ tables_1_7) || decide (w ∈ tables_1_12) || decide (w ∈ tables_1_1) || decide (w ∈ tables_1)) = true := by decide +kernel
theorem st_Z {b : Nat} {s : State} (hts : ∀ w ∈ lw_tbl, w.before #[Value.ref b] s = true) (hgv : (Jvm.Cond.and given_1 narrow_1).before #[Value.ref b] s = true) (A : Nat → Prop) (hA : ∀ a : Nat, a < s.heap.size → ¬ A a) : Zx A s := by
  have hg := flat_of_before _ hgv
  have hin : (Cond.initialized Bundle.tN).before #[Value.ref b] s = true := hts _ (List.mem_filter.mp tw_22).1
  refine ⟨vx_Zqof (hts _ zw_us) hin (hg _ (by decide +kernel)) hA, vx_Zqof (hts _ zw_ss) hin (hg _ (by decide +kernel)) hA, ?_, ?_, fun w hw => ?_⟩
  · obtain ⟨a, c, cA, kA, q1, -⟩ := Cond.exactly_spec (args := #[Value.ref b]) (first := s) (o := none) (s := s) (idx := []) (t := .string "CountyWatch" 308) (cls := "java/lang/String") (hg (Cond.exactly (.string "CountyWatch" 308) "java/lang/String") (by decide +kernel))
    exact ⟨a, vk_str (hts _ zw_308) q1⟩
  · obtain ⟨a, c, cA, kA, q1, -⟩ := Cond.exactly_spec (args := #[Value.ref b]) (first := s) (o := none) (s := s) (idx := []) (t := .string "CountyWatch" 316) (cls := "java/lang/String") (hg (Cond.exactly (.string "CountyWatch" 316) "java/lang/String") (by decide +kernel))
    exact ⟨a, vk_str (hts _ zw_316) q1⟩
  · have z := List.all_eq_true.mp zw_all w hw
    simp only [Bool.or_eq_true, decide_eq_true_eq] at z
    have hm : w ∈ lw_tbl := by
      rcases z with (((z | z) | z) | z) | z
      · obtain ⟨i, hi⟩ := List.getElem?_of_mem z
        exact lw_m8 i hi
      · obtain ⟨i, hi⟩ := List.getElem?_of_mem z
        exact lw_m7 i hi
      · obtain ⟨i, hi⟩ := List.getElem?_of_mem z
        exact lw_m12 i hi
      · obtain ⟨i, hi⟩ := List.getElem?_of_mem z
        exact lw_m1 i hi
      · exact lw_mm z
    exact va_tabs (ft_ot w hw) rfl (hts w hm)
