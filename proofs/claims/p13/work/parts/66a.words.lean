/-! the words of beats: steps, and steps within brackets -/
def stB (cd : Nat → Int32) (i i' : Nat) : Prop := (cd i = 0 ∧ rin (cd (i + 1)).toInt (0, 15) ∧ i' = i + 2) ∨ (cd i = 1 ∧ rin (cd (i + 1)).toInt (1, 240) ∧ i' = i + 2) ∨ (cd i = 2 ∧ rin (cd (i + 1)).toInt (0, 15) ∧ rin (cd (i + 2)).toInt (0, 1440) ∧ i' = i + 3) ∨ (cd i = 3 ∧ i' = i + 1)
def sqS (S : Nat → Nat → Prop) : Nat → Nat → Nat → Prop
  | 0, i, j => i = j
  | f + 1, i, j => ∃ i', S i i' ∧ sqS S f i' j
def stD (cd : Nat → Int32) : Nat → Nat → Nat → Prop
  | 0, i, i' => stB cd i i'
  | g + 1, i, i' => stB cd i i' ∨ (cd i = 4 ∧ ∃ f j, sqS (stD cd g) f (i + 1) j ∧ cd j = 5 ∧ rin (cd (j + 1)).toInt (1, 20) ∧ i' = j + 2)
theorem stB_lt {cd : Nat → Int32} {i i' : Nat} (s : stB cd i i') : i < i' ∧ i' ≤ i + 3 := by
  rcases s with ⟨_, _, e⟩ | ⟨_, _, e⟩ | ⟨_, _, _, e⟩ | ⟨_, e⟩
  · omega
  · omega
  · omega
  · omega
theorem stB_same {cd cd' : Nat → Int32} {i i' : Nat} (e : ∀ x, i ≤ x → x < i' → cd' x = cd x) (s : stB cd i i') : stB cd' i i' := by
  rcases s with ⟨a, b, c⟩ | ⟨a, b, c⟩ | ⟨a, b, b', c⟩ | ⟨a, c⟩
  · exact Or.inl ⟨by rw [e i (by omega) (by omega)]; exact a, by rw [e (i + 1) (by omega) (by omega)]; exact b, c⟩
  · exact Or.inr (Or.inl ⟨by rw [e i (by omega) (by omega)]; exact a, by rw [e (i + 1) (by omega) (by omega)]; exact b, c⟩)
  · exact Or.inr (Or.inr (Or.inl ⟨by rw [e i (by omega) (by omega)]; exact a, by rw [e (i + 1) (by omega) (by omega)]; exact b, by rw [e (i + 2) (by omega) (by omega)]; exact b', c⟩))
  · exact Or.inr (Or.inr (Or.inr ⟨by rw [e i (by omega) (by omega)]; exact a, c⟩))
theorem sqS_le {S : Nat → Nat → Prop} (hS : ∀ a b, S a b → a < b) : ∀ {f i j : Nat}, sqS S f i j → i ≤ j
  | 0, _, _, h => Nat.le_of_eq h
  | f + 1, i, j, h => by
    obtain ⟨i', a, b⟩ := h
    have l1 := hS _ _ a
    have l2 := sqS_le hS b
    omega
theorem stD_lt {cd : Nat → Int32} : ∀ {g i i' : Nat}, stD cd g i i' → i < i'
  | 0, _, _, s => (stB_lt s).1
  | g + 1, i, i', s => by
    rcases s with s | ⟨_, f, j, q, _, _, e⟩
    · exact (stB_lt s).1
    · have l := sqS_le (fun a b t => stD_lt (g := g) t) q
      omega
theorem sqS_same {cd cd' : Nat → Int32} {S S' : Nat → Nat → Prop} (hl : ∀ a b, S a b → a < b) (hS : ∀ a b, (∀ x, a ≤ x → x < b → cd' x = cd x) → S a b → S' a b) : ∀ {f i j : Nat}, (∀ x, i ≤ x → x < j → cd' x = cd x) → sqS S f i j → sqS S' f i j
  | 0, _, _, _, h => h
  | f + 1, i, j, e, h => by
    obtain ⟨i', a, b⟩ := h
    have l1 := hl _ _ a
    have l2 := sqS_le hl b
    exact ⟨i', hS _ _ (fun x u v => e x u (by omega)) a, sqS_same hl hS (fun x u v => e x (by omega) v) b⟩
theorem stD_same {cd cd' : Nat → Int32} : ∀ {g i i' : Nat}, (∀ x, i ≤ x → x < i' → cd' x = cd x) → stD cd g i i' → stD cd' g i i'
  | 0, _, _, e, s => stB_same e s
  | g + 1, i, i', e, s => by
    rcases s with s | ⟨a, f, j, q, b, c, x⟩
    · exact Or.inl (stB_same e s)
    · have l := sqS_le (fun _ _ t => stD_lt t) q
      refine Or.inr ⟨by rw [e i (by omega) (by omega)]; exact a, f, j, ?_, by rw [e j (by omega) (by omega)]; exact b, by rw [e (j + 1) (by omega) (by omega)]; exact c, x⟩
      exact sqS_same (cd := cd) (cd' := cd') (fun _ _ t => stD_lt t) (fun _ _ e' s' => stD_same (g := g) e' s') (fun x u v => e x (by omega) (by omega)) q
theorem sqD_same {cd cd' : Nat → Int32} {g f i j : Nat} (e : ∀ x, i ≤ x → x < j → cd' x = cd x) (q : sqS (stD cd g) f i j) : sqS (stD cd' g) f i j :=
  sqS_same (cd := cd) (cd' := cd') (fun _ _ t => stD_lt t) (fun _ _ e' s' => stD_same e' s') e q
theorem sqS_snoc {S : Nat → Nat → Prop} : ∀ {f i j k : Nat}, sqS S f i j → S j k → sqS S (f + 1) i k
  | 0, i, j, k, h, s => by
    have h : i = j := h
    subst h
    exact ⟨k, s, rfl⟩
  | f + 1, i, j, k, h, s => by
    obtain ⟨i', a, b⟩ := h
    exact ⟨i', a, sqS_snoc b s⟩
theorem stD.b {cd : Nat → Int32} {g i i' : Nat} (s : stB cd i i') : stD cd g i i' := by
  cases g with
  | zero => exact s
  | succ g => exact Or.inl s
/-- codes said behind what stood -/
def Sy (h : Hp_) (xs : List Int32) (h2 : Hp_) : Prop := Iv h2 ∧ Fr wzp h h2 ∧ (∀ k, k < sN h → h_i h2 226 k = h_i h 226 k) ∧ ps h2 = ps h + (xs.length : Int) ∧ ∀ i x, xs[i]? = some x → h_i h2 226 (sN h + i) = x
abbrev Sa (h : Hp_) (x : Int32) (h' : Hp_) : Prop := Iv h' ∧ Fr [1036, 226999] h h' ∧ (h_i h' 1 36).toInt = (h_i h 1 36).toInt + 1 ∧ h_i h' 226 (h_i h 1 36).toNatClampNeg = x ∧ ∀ k, k ≠ (h_i h 1 36).toNatClampNeg → h_i h' 226 k = h_i h 226 k
theorem Sa.q {h : Hp_} {x : Int32} {h' : Hp_} (S : Sa h x h') : pa h' = pa h ∧ h_i h' 1 34 = h_i h 1 34 ∧ pd h' = pd h ∧ ps h' = ps h + 1 ∧ pz h' = pz h := by
  refine ⟨?_, (S.2.1.2 1 34 (by decide +kernel)).1, ?_, S.2.2.1, zf S.2.1 (by decide +kernel)⟩
  · show (h_i h' 1 33).toInt = _; rw [(S.2.1.2 1 33 (by decide +kernel)).1]
  · show (h_i h' 1 35).toInt = _; rw [(S.2.1.2 1 35 (by decide +kernel)).1]
theorem Sy.rf {h : Hp_} (I : Iv h) : Sy h [] h := ⟨I, Fr.rf _ _, fun _ _ => rfl, by simp, fun i x e => by simp at e⟩
theorem Sy.say {h h2 h3 : Hp_} {xs : List Int32} {x : Int32} (I : Iv h) (S : Sy h xs h2) (T : Sa h2 x h3) : Sy h (xs ++ [x]) h3 := by
  obtain ⟨s1, s2, s3, s4, s5⟩ := S
  obtain ⟨t1, t2, t3, t4, t5⟩ := T
  have n0 := sN_i I
  have n2 := sN_i s1
  have m2 : sN h2 = sN h + xs.length := by omega
  have e3 : ps h3 = ps h2 + 1 := t3
  refine ⟨t1, s2.tr (t2.more (by decide +kernel)), fun k hk => ?_, ?_, fun i y e => ?_⟩
  · rw [t5 k (by show k ≠ sN h2; omega)]; exact s3 k hk
  · rw [List.length_append, List.length_singleton]; omega
  · rcases Nat.lt_or_ge i xs.length with u | u
    · rw [List.getElem?_append_left u] at e
      rw [t5 _ (by show sN h + i ≠ sN h2; omega)]; exact s5 i y e
    · have iu : i = xs.length := by
        rcases Nat.lt_or_ge xs.length i with v | v
        · rw [List.getElem?_eq_none (by rw [List.length_append, List.length_singleton]; omega)] at e; cases e
        · omega
      subst iu
      rw [List.getElem?_append_right (Nat.le_refl _), Nat.sub_self] at e
      have e' : x = y := by simpa using e
      rw [← m2, ← e']; exact t4
theorem Sy.mv {h h2 h3 : Hp_} {xs : List Int32} (S : Sy h xs h2) (I3 : Iv h3) (F : Fr [1033, 1034, 1035] h2 h3) : Sy h xs h3 := by
  obtain ⟨s1, s2, s3, s4, s5⟩ := S
  have e36 : ps h3 = ps h2 := by show (h_i h3 1 36).toInt = _; rw [(F.2 1 36 (by decide +kernel)).1]
  refine ⟨I3, s2.tr (F.more (by decide +kernel)), fun k hk => ?_, by omega, fun i y e => ?_⟩
  · rw [fr_i F (a := 226) (by decide +kernel)]; exact s3 k hk
  · rw [fr_i F (a := 226) (by decide +kernel)]; exact s5 i y e
/-- one sign further behind a look -/
theorem nx1 {h h1 : Hp_} {r : Int32} (I : Iv h) (L : Lk h r h1) (l : pa h1 < pz h) : Iv (h_im h1 1 33 ((h_i h1 1 33) + 1)) ∧ Fr [1033] h (h_im h1 1 33 ((h_i h1 1 33) + 1)) ∧ pa (h_im h1 1 33 ((h_i h1 1 33) + 1)) = pa h1 + 1 := by
  have z1 : pz h ≤ 160 := (pz_in I).2
  have a0 : 0 ≤ (h_i h1 1 33).toInt := (pa_in L.1).1
  have l' : (h_i h1 1 33).toInt < pz h := l
  have o1 : (1 : Int32).toInt = 1 := rfl
  have e33 : (h_i h1 1 33 + 1).toInt = (h_i h1 1 33).toInt + 1 := by rw [tx_add (by rw [o1]; omega) (by rw [o1]; omega), o1]
  refine ⟨i33 L.1 ⟨by rw [e33]; show (0 : Int) ≤ _; omega, by rw [e33]; show _ ≤ (180 : Int); omega⟩, L.2.1.im (by decide +kernel), ?_⟩
  show (h_i (h_im h1 1 33 _) 1 33).toInt = _
  rw [im_at]; exact e33
/-- a bracket's end: one further, one less deep -/
theorem cl1 {h : Hp_} (I : Iv h) (a : pa h ≤ 179) (e : 1 ≤ pd h) : Iv (h_im (h_im h 1 33 ((h_i h 1 33) + 1)) 1 35 ((h_i h 1 35) - 1)) ∧ Fr [1033, 1034, 1035] h (h_im (h_im h 1 33 ((h_i h 1 33) + 1)) 1 35 ((h_i h 1 35) - 1)) ∧ pa (h_im (h_im h 1 33 ((h_i h 1 33) + 1)) 1 35 ((h_i h 1 35) - 1)) = pa h + 1 ∧ pd (h_im (h_im h 1 33 ((h_i h 1 33) + 1)) 1 35 ((h_i h 1 35) - 1)) = pd h - 1 ∧ h_i (h_im (h_im h 1 33 ((h_i h 1 33) + 1)) 1 35 ((h_i h 1 35) - 1)) 1 34 = h_i h 1 34 := by
  have a0 : 0 ≤ (h_i h 1 33).toInt := (pa_in I).1
  have a1 : (h_i h 1 33).toInt ≤ 179 := a
  have d7 : (h_i h 1 35).toInt ≤ 7 := (dp_in7 I).2
  have d1 : 1 ≤ (h_i h 1 35).toInt := e
  have o1 : (1 : Int32).toInt = 1 := rfl
  have e33 : (h_i h 1 33 + 1).toInt = (h_i h 1 33).toInt + 1 := by rw [tx_add (by rw [o1]; omega) (by rw [o1]; omega), o1]
  have e35 : (h_i h 1 35 - 1).toInt = (h_i h 1 35).toInt - 1 := by rw [tx_sub (by rw [o1]; omega) (by rw [o1]; omega), o1]
  refine ⟨i35 (i33 I ⟨by rw [e33]; show (0 : Int) ≤ _; omega, by rw [e33]; show _ ≤ (180 : Int); omega⟩) ⟨by rw [e35]; show (0 : Int) ≤ _; omega, by rw [e35]; show _ ≤ (7 : Int); omega⟩, ((Fr.rf _ _).im (by decide +kernel)).im (by decide +kernel), ?_, ?_, by rw [f_ne (by decide), f_ne (by decide)]⟩
  · show (h_i (h_im (h_im h 1 33 _) 1 35 _) 1 33).toInt = _
    rw [f_ne (by decide), im_at]; exact e33
  · show (h_i (h_im (h_im h 1 33 _) 1 35 _) 1 35).toInt = _
    rw [im_at]; exact e35
def Pr (h : Hp_) : Prop := h_i h 1 34 = -1 ∧ pa h ≤ pz h ∧ pd h ≤ 4 ∧ ps h ≤ pa h
/-- what a step or steps read leave -/
def Ptt (Q : (Nat → Int32) → Nat → Nat → Prop) (h h' : Hp_) : Prop := Iv h' ∧ Fr wzp h h' ∧ pd h' = pd h ∧ pa h ≤ pa h' ∧ (∀ k, k < sN h → h_i h' 226 k = h_i h 226 k) ∧ ps h ≤ ps h' ∧
  (h_i h' 1 34 = -1 → pa h' ≤ pz h ∧ pa h < pa h' ∧ ps h' ≤ ps h + (pa h' - pa h) ∧ Q (h_i h' 226) (sN h) (sN h')) ∧
  (¬ h_i h' 1 34 = -1 → pa h' + pd h ≤ pz h + 5 ∧ ps h' ≤ ps h + (pa h' - pa h) + 1)
theorem Ptt.of {Q : (Nat → Int32) → Nat → Nat → Prop} {h h5 : Hp_} {xs : List Int32} (I : Iv h) (S : Sy h xs h5) (ed : pd h5 = pd h) (a : pa h ≤ pa h5) (ok : h_i h5 1 34 = -1 → pa h5 ≤ pz h ∧ pa h + (xs.length : Int) ≤ pa h5 ∧ 0 < xs.length ∧ Q (h_i h5 226) (sN h) (sN h + xs.length)) (no : ¬ h_i h5 1 34 = -1 → pa h5 + pd h ≤ pz h + 5 ∧ (xs.length : Int) ≤ pa h5 - pa h + 1) : Ptt Q h h5 := by
  obtain ⟨s1, s2, s3, s4, s5⟩ := S
  have n0 := sN_i I
  have n5 := sN_i s1
  have m5 : sN h5 = sN h + xs.length := by omega
  refine ⟨s1, s2, ed, a, s3, by omega, fun w => ?_, fun w => ?_⟩
  · obtain ⟨o1, o2, o3, o4⟩ := ok w
    refine ⟨o1, by omega, by omega, ?_⟩
    rw [m5]; exact o4
  · obtain ⟨o1, o2⟩ := no w
    exact ⟨o1, by omega⟩
theorem Ptt.lk {Q : (Nat → Int32) → Nat → Nat → Prop} {h h2 h5 : Hp_} {r : Int32} (I : Iv h) (q : Pr h) (P : Ptt Q h h2) (L : Lk h2 r h5) : Ptt Q h h5 := by
  obtain ⟨p1, p2, p3, p4, p5, p6, p7, p8⟩ := P
  obtain ⟨l1, l2, l3, l4, l5⟩ := L
  obtain ⟨q1, q2, q3, q4⟩ := q
  have z2 := zf p2 (by decide +kernel)
  have e34 : h_i h5 1 34 = h_i h2 1 34 := (l2.2 1 34 (by decide +kernel)).1
  have e35 : pd h5 = pd h2 := by show (h_i h5 1 35).toInt = _; rw [(l2.2 1 35 (by decide +kernel)).1]
  have e36 : h_i h5 1 36 = h_i h2 1 36 := (l2.2 1 36 (by decide +kernel)).1
  have p36 : ps h5 = ps h2 := by show (h_i h5 1 36).toInt = _; rw [e36]
  have n36 : sN h5 = sN h2 := by show (h_i h5 1 36).toNatClampNeg = _; rw [e36]
  have f226 : h_i h5 226 = h_i h2 226 := funext (fun k => fr_i l2 (by decide +kernel) k)
  refine ⟨l1, p2.tr (l2.more (by decide +kernel)), by omega, by omega, fun k hk => by rw [f226]; exact p5 k hk, by omega, fun w => ?_, fun w => ?_⟩
  · rw [e34] at w
    obtain ⟨t1, t2, t3, t4⟩ := p7 w
    refine ⟨by omega, by omega, by omega, ?_⟩
    rw [n36, f226]; exact t4
  · rw [e34] at w
    obtain ⟨t1, t2⟩ := p8 w
    exact ⟨by omega, by omega⟩
def RdS (D : Int) (Q : (Nat → Int32) → Nat → Nat → Prop) (C : Nat → Hp_ → (Hp_ → Prop) → Prop) : Prop := ∀ (d : Nat) (h : Hp_), Iv h → Pr h → pd h = D → C d h (fun h' => Ptt Q h h')
