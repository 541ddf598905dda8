section
/-! clauses (what must hold, what is answered), and what the class's code of them is -/
abbrev Cl2 : Type := List Tk2 × List Tk2
abbrev Rcl : Type := Nat → Bool × Nat × Cl2
def anX (s o : Nat) (A : List Tk2) : List Int32 := pk4 3 (Int32.ofNat (o + 1 + A.length + 1)) :: (A.map (tkx s) ++ [pk4 4 0])
def clX (s o : Nat) (c : Cl2) : List Int32 := if c.1.length = 0 then c.2.map (tkx s) ++ [pk4 4 0] else c.1.map (tkx s) ++ anX s (o + c.1.length) c.2
def clN (c : Cl2) : Nat := if c.1.length = 0 then c.2.length + 1 else c.1.length + (c.2.length + 2)
theorem anX_l (s o : Nat) (A : List Tk2) : (anX s o A).length = A.length + 2 := by
  unfold anX
  rw [List.length_cons, List.length_append, List.length_map]
  rfl
theorem clX_l (s o : Nat) (c : Cl2) : (clX s o c).length = clN c := by
  unfold clX clN
  split
  · rw [List.length_append, List.length_map]
    rfl
  · rw [List.length_append, List.length_map, anX_l]
def rlX (s : Nat) : Nat → List Cl2 → List Int32
  | _, [] => []
  | o, c :: C => clX s o c ++ rlX s (o + clN c) C
def rlN : List Cl2 → Nat
  | [] => 0
  | c :: C => clN c + rlN C
theorem rlX_l (s : Nat) : ∀ (C : List Cl2) (o : Nat), (rlX s o C).length = rlN C
  | [], _ => rfl
  | c :: C, o => by
    show (clX s o c ++ rlX s (o + clN c) C).length = clN c + rlN C
    rw [List.length_append, clX_l, rlX_l s C]
theorem rlN_a : ∀ (C D : List Cl2), rlN (C ++ D) = rlN C + rlN D
  | [], D => (Nat.zero_add _).symm
  | c :: C, D => by
    show clN c + rlN (C ++ D) = clN c + rlN C + rlN D
    rw [rlN_a C D]
    omega
theorem rlX_a (s : Nat) : ∀ (C D : List Cl2) (o : Nat), rlX s o (C ++ D) = rlX s o C ++ rlX s (o + rlN C) D
  | [], D, o => rfl
  | c :: C, D, o => by
    show clX s o c ++ rlX s (o + clN c) (C ++ D) = (clX s o c ++ rlX s (o + clN c) C) ++ rlX s (o + (clN c + rlN C)) D
    rw [rlX_a s C D, List.append_assoc, Nat.add_assoc]
/-! the clauses' grammar -/
def k2pr (f g : Rce) : Rcl := fun a => if (f a).1 = true then ((g (f a).2.1).1, (g (f a).2.1).2.1, ((f a).2.2, (g (f a).2.1).2.2)) else (false, (f a).2.1, ([], []))
def vdv (x : Int32) : Int32 := if x = 120 then 0 else if x = 110 then 1 else if x = 114 then 2 else 3
def k2vd (b : Nat → Int32) (n : Nat) : Rce := fun a => if vdb (skv b n a) = true then (true, ska b n (ska b n a + 1), [(0, vdv (skv b n a))]) else (false, ska b n a, [])
def k2av (b : Nat → Int32) (n : Nat) : Rce := k2sq (k2ex b n 63) (k2vd b n)
def k2pa (b : Nat → Int32) (n : Nat) : Rce := k2sq (k2ex b n 63) (k2ss b n ltp 6)
def k2ac (b : Nat → Int32) (n : Nat) : Rcl := k2pr (k2cd b n (k2un b n lta 6)) (k2av b n)
def k2p1 (b : Nat → Int32) (n : Nat) : Rce := k2sq (k2ss b n ltp 6) (k2sq (k2cm b n (k2ss b n ltp 6)) (k2mp b n (k2un b n ltp 6)))
def k2pc (b : Nat → Int32) (n : Nat) : Rcl := fun a => if skv b n a = 33 ∨ skv b n a = 40 then k2pr (k2cd b n (k2un b n ltp 6)) (k2pa b n) a else if (k2ss b n ltp 6 a).1 = true then (if sgb (skv b n (k2ss b n ltp 6 a).2.1) = true then k2pr (k2p1 b n) (k2pa b n) a else (true, (k2ss b n ltp 6 a).2.1, ([], (k2ss b n ltp 6 a).2.2))) else (false, (k2ss b n ltp 6 a).2.1, ([], []))
def k2c (b : Nat → Int32) (n s : Nat) : Rcl := if s = 1 then k2ac b n else k2pc b n
def k21 (cl : Rcl) : Rcf Cl2 := fun a => ((cl a).1, (cl a).2.1, [(cl a).2.2])
def k2ru (b : Nat → Int32) (n s : Nat) : Rcf Cl2 := k2sq (k21 (k2c b n s)) (k2lp b n (isq 59) (fun _ => []) (k21 (k2c b n s)) 160)
theorem Cne.vd {b : Nat → Int32} {n : Nat} : Cne b n (k2vd b n) := fun a => by
  unfold k2vd
  rw [skv_i, ska_i]
theorem k2pr_c {b : Nat → Int32} {n : Nat} {f g : Rce} (c : Cne b n f) (a : Nat) : k2pr f g (ska b n a) = k2pr f g a := by
  unfold k2pr
  rw [c a]
theorem k2ac_c {b : Nat → Int32} {n : Nat} (a : Nat) : k2ac b n (ska b n a) = k2ac b n a := k2pr_c (Cne.cd (Cne.un 6)) a
theorem k2pc_c {b : Nat → Int32} {n : Nat} (a : Nat) : k2pc b n (ska b n a) = k2pc b n a := by
  unfold k2pc
  rw [skv_i, k2pr_c (Cne.cd (Cne.un 6)), Cne.ss 6, k2pr_c (f := k2p1 b n) (Cne.sq (Cne.ss 6))]
theorem k2c_c {b : Nat → Int32} {n s : Nat} (a : Nat) : k2c b n s (ska b n a) = k2c b n s a := by
  unfold k2c
  split
  · exact k2ac_c a
  · exact k2pc_c a
theorem Cne.cl {b : Nat → Int32} {n s : Nat} : Cne b n (k21 (k2c b n s)) := fun a => by
  unfold k21
  rw [k2c_c]
/-- how far a clause goes -/
def Fwc (b : Nat → Int32) (n : Nat) (f : Rcl) : Prop := ∀ a, (f a).1 = true → ska b n a < (f a).2.1 ∧ (f a).2.1 ≤ n ∧ ska b n (f a).2.1 = (f a).2.1 ∧ clN (f a).2.2 + ska b n a ≤ (f a).2.1 + 1
theorem Fwe.vd {b : Nat → Int32} {n : Nat} : Fwe b n (k2vd b n) := fun a h => by
  unfold k2vd at h ⊢
  by_cases q : vdb (skv b n a) = true
  · rw [if_pos q] at h ⊢
    have z := nxt_f (skv_l (fun e => by rw [e] at q; exact absurd q (by decide)))
    exact ⟨z.1, z.2.1, z.2.2, by show 1 + ska b n a ≤ ska b n (ska b n a + 1); have := z.1; omega⟩
  · rw [if_neg q] at h
    exact absurd h (by simp)
/-- an answer behind its '?': a sign more than tokens -/
def Fwa (b : Nat → Int32) (n : Nat) (g : Rce) : Prop := ∀ p, ska b n p = p → p ≤ n → (g p).1 = true → p < (g p).2.1 ∧ (g p).2.1 ≤ n ∧ ska b n (g p).2.1 = (g p).2.1 ∧ (g p).2.2.length + 1 + p ≤ (g p).2.1
theorem Fwa.of {b : Nat → Int32} {n : Nat} {g : Rce} (hg : Fwe b n g) : Fwa b n (k2sq (k2ex b n 63) g) := fun p e l h => by
  unfold k2sq at h ⊢
  by_cases c : (k2ex b n 63 p).1 = true
  · rw [if_pos c] at h ⊢
    have q := Fwe.ex (b := b) (n := n) (c := 63) (by decide) p c
    have r := hg _ h
    have r1 : ska b n (k2ex b n 63 p).2.1 < (g (k2ex b n 63 p).2.1).2.1 := r.1
    have e2 : (k2ex b n 63 p).2.2 = [] := by
      unfold k2ex
      split <;> rfl
    rw [q.2.2.1] at r r1
    rw [e] at q
    refine ⟨?_, r.2.1, r.2.2.1, ?_⟩
    · show p < (g (k2ex b n 63 p).2.1).2.1
      omega
    · show ((k2ex b n 63 p).2.2 ++ (g (k2ex b n 63 p).2.1).2.2).length + 1 + p ≤ (g (k2ex b n 63 p).2.1).2.1
      rw [e2, List.nil_append]
      have := r.2.2.2
      omega
  · rw [if_neg c] at h
    exact absurd h c
theorem Fwc.pr {b : Nat → Int32} {n : Nat} {f g : Rce} (hf : Fwe b n f) (hg : Fwa b n g) : Fwc b n (k2pr f g) := fun a h => by
  unfold k2pr at h ⊢
  by_cases c : (f a).1 = true
  · rw [if_pos c] at h ⊢
    have q := hf a c
    have r := hg _ q.2.2.1 q.2.1 h
    refine ⟨?_, r.2.1, r.2.2.1, ?_⟩
    · show ska b n a < (g (f a).2.1).2.1
      omega
    · show clN ((f a).2.2, (g (f a).2.1).2.2) + ska b n a ≤ (g (f a).2.1).2.1 + 1
      have u := q.2.2.2
      have v := r.2.2.2
      unfold clN
      split
      · show (g (f a).2.1).2.2.length + 1 + ska b n a ≤ _
        omega
      · show (f a).2.2.length + ((g (f a).2.1).2.2.length + 2) + ska b n a ≤ _
        omega
  · rw [if_neg c] at h
    exact absurd h (by simp)
theorem Fwe.p1 {b : Nat → Int32} {n : Nat} : Fwe b n (k2p1 b n) := (Fwe.ss (by decide) 6).sq ((Fwe.ss (by decide) 6).cm.z.sq (Fwz.mp (Fwe.un (by decide) 6)))
theorem Fwc.c {b : Nat → Int32} {n s : Nat} : Fwc b n (k2c b n s) := by
  unfold k2c
  split
  · exact Fwc.pr (Fwe.cd (Fwe.un (by decide) 6)) (Fwa.of Fwe.vd)
  · intro a h
    unfold k2pc at h ⊢
    by_cases c : skv b n a = 33 ∨ skv b n a = 40
    · rw [if_pos c] at h ⊢
      exact Fwc.pr (Fwe.cd (Fwe.un (by decide) 6)) (Fwa.of (Fwe.ss (by decide) 6)) a h
    · rw [if_neg c] at h ⊢
      by_cases d : (k2ss b n ltp 6 a).1 = true
      · rw [if_pos d] at h ⊢
        by_cases e : sgb (skv b n (k2ss b n ltp 6 a).2.1) = true
        · rw [if_pos e] at h ⊢
          exact Fwc.pr Fwe.p1 (Fwa.of (Fwe.ss (by decide) 6)) a h
        · rw [if_neg e]
          have q := Fwe.ss (b := b) (n := n) (lt := ltp) (by decide) 6 a d
          refine ⟨q.1, q.2.1, q.2.2.1, ?_⟩
          show (k2ss b n ltp 6 a).2.2.length + 1 + ska b n a ≤ (k2ss b n ltp 6 a).2.1 + 1
          have := q.2.2.2
          omega
      · rw [if_neg d] at h
        exact absurd h (by simp)
/-- what is found is what the recognizers find -/
theorem pj_pr {f g : Rce} {f' g' : Rcg} (p : Pje f f') (q : Pje g g') (a : Nat) : (k2pr f g a).1 = (sqr f' g' a).1 ∧ (k2pr f g a).2.1 = (sqr f' g' a).2 := by
  unfold k2pr sqr
  rw [(p a).1, (p a).2]
  by_cases c : (f' a).1 = true
  · rw [if_pos c, if_pos c]
    exact q _
  · rw [if_neg c, if_neg c]
    exact ⟨(by simpa using c : (f' a).1 = false).symm, rfl⟩
theorem Pje.vd {b : Nat → Int32} {n : Nat} : Pje (k2vd b n) (onr b n vdb) := fun a => by
  unfold k2vd onr
  split <;> exact ⟨rfl, rfl⟩
theorem pj_c {b : Nat → Int32} {n s : Nat} (hs : s = 1 ∨ s = 2) : Pje (k21 (k2c b n s)) (clq b n s) := fun a => by
  have P2 : Pje (k2pa b n) (pan b n) := Pje.ex.sq (Pje.ss 6)
  rcases hs with u | u <;> subst u
  · exact pj_pr (Pje.cd (Pje.un 6)) (Pje.ex.sq Pje.vd) a
  · show (k2pc b n a).1 = (pcl_ b n a).1 ∧ (k2pc b n a).2.1 = (pcl_ b n a).2
    unfold k2pc pcl_
    by_cases c : skv b n a = 33 ∨ skv b n a = 40
    · rw [if_pos c, if_pos c]
      exact pj_pr (Pje.cd (Pje.un 6)) P2 a
    · rw [if_neg c, if_neg c]
      have S := Pje.ss (b := b) (n := n) (lt := ltp) 6 a
      by_cases d : (sms b n ltp 6 a).1 = true
      · rw [S.1, if_pos d, S.2]
        have e1 : ∀ g : Rcg, sqr (sms b n ltp 6) g a = g (sms b n ltp 6 a).2 := fun g => by
          unfold sqr
          exact if_pos d
        rw [e1]
        by_cases e : sgb (skv b n (sms b n ltp 6 a).2) = true
        · rw [if_pos e, if_pos e]
          have P1 : Pje (k2p1 b n) (sqr (sms b n ltp 6) (sqr (cmq b n (sms b n ltp 6)) (mpt b n (unt b n ltp 6)))) := (Pje.ss 6).sq ((Pje.ss 6).cm.sq (Pje.un 6).mp)
          have z := pj_pr P1 P2 a
          rw [sqr_a, sqr_a, e1] at z
          exact z
        · rw [if_neg e, if_neg e]
          exact ⟨rfl, rfl⟩
      · rw [S.1, if_neg d, S.2]
        have e1 : ∀ g : Rcg, sqr (sms b n ltp 6) g a = sms b n ltp 6 a := fun g => by
          unfold sqr
          exact if_neg d
        rw [e1]
        exact ⟨(by simpa using d : (sms b n ltp 6 a).1 = false).symm, rfl⟩
theorem pj_ru {b : Nat → Int32} {n s : Nat} (hs : s = 1 ∨ s = 2) : Pje (k2ru b n s) (ruq b n (clq b n s)) := (pj_c hs).sq ((pj_c hs).lp 160)
/-- what a clause is made of -/
def clO (s : Nat) (c : Cl2) : Prop := (c.1.length = 0 ∨ Put1 true c.1) ∧ Put1 false c.2 ∧ (∀ t ∈ c.1, tkO (ltb s) t) ∧ ∀ t ∈ c.2, tkO (ltb s) t
theorem Wty.vd {b : Nat → Int32} {n : Nat} : Wty false (k2vd b n) := fun a h => by
  unfold k2vd at h ⊢
  by_cases q : vdb (skv b n a) = true
  · rw [if_pos q]
    exact fun _ => rfl
  · rw [if_neg q] at h
    exact absurd h (by simp)
theorem Otk.vd {b : Nat → Int32} {n : Nat} {lt : Int32 → Bool} : Otk lt (k2vd b n) := fun a h => by
  unfold k2vd at h ⊢
  by_cases q : vdb (skv b n a) = true
  · rw [if_pos q]
    intro t ht
    rw [List.mem_singleton.mp ht]
    refine ⟨fun e => absurd (show (0 : Int32) = 1 from e) (by decide), fun _ => ?_, fun e => absurd rfl e, Or.inl rfl⟩
    show 0 ≤ (vdv (skv b n a)).toInt ∧ (vdv (skv b n a)).toInt ≤ 9999
    unfold vdv
    split
    · decide
    · split
      · decide
      · split <;> decide
  · rw [if_neg q] at h
    exact absurd h (by simp)
theorem Wty.aw {b : Nat → Int32} {n : Nat} {c : Int32} {y : Bool} {g : Rce} (p : Wty y g) : Wty y (k2sq (k2ex b n c) g) := fun a h => by
  unfold k2sq at h ⊢
  by_cases q : (k2ex b n c a).1 = true
  · rw [if_pos q] at h ⊢
    have e2 : (k2ex b n c a).2.2 = [] := by
      unfold k2ex
      split <;> rfl
    show Put1 y ((k2ex b n c a).2.2 ++ (g (k2ex b n c a).2.1).2.2)
    rw [e2, List.nil_append]
    exact p _ h
  · rw [if_neg q] at h
    exact absurd h q
theorem clO_pr {s : Nat} {f g : Rce} (wf : Wty true f) (wg : Wty false g) (of_ : Otk (ltb s) f) (og : Otk (ltb s) g) (a : Nat) (h : (k2pr f g a).1 = true) : clO s (k2pr f g a).2.2 := by
  unfold k2pr at h ⊢
  by_cases c : (f a).1 = true
  · rw [if_pos c] at h ⊢
    exact ⟨Or.inr (wf a c), wg _ h, of_ a c, og _ h⟩
  · rw [if_neg c] at h
    exact absurd h (by simp)
theorem clO_c {b : Nat → Int32} {n s : Nat} (hs : s = 1 ∨ s = 2) (a : Nat) (h : (k2c b n s a).1 = true) : clO s (k2c b n s a).2.2 := by
  rcases hs with u | u <;> subst u
  · exact clO_pr (s := 1) (Wty.cd (Wty.un 6)) (Wty.aw Wty.vd) (Otk.cd (Otk.un 6)) (Otk.ex.sq Otk.vd) a h
  · have h : (k2pc b n a).1 = true := h
    show clO 2 (k2pc b n a).2.2
    unfold k2pc at h ⊢
    have wa : Wty false (k2pa b n) := Wty.aw (Wty.ss 6)
    have oa : Otk (ltb 2) (k2pa b n) := Otk.ex.sq (Otk.ss 6)
    by_cases c : skv b n a = 33 ∨ skv b n a = 40
    · rw [if_pos c] at h ⊢
      exact clO_pr (s := 2) (Wty.cd (Wty.un 6)) wa (Otk.cd (Otk.un 6)) oa a h
    · rw [if_neg c] at h ⊢
      by_cases d : (k2ss b n ltp 6 a).1 = true
      · rw [if_pos d] at h ⊢
        by_cases e : sgb (skv b n (k2ss b n ltp 6 a).2.1) = true
        · rw [if_pos e] at h ⊢
          exact clO_pr (s := 2) (f := k2p1 b n) ((Wty.ss 6).cp ((Wcp.cm (Wty.ss 6)).sw (Wsw.mp (Wty.un 6)))) wa ((Otk.ss 6).sq ((Otk.cm (Otk.ss 6)).sq (Otk.mp (Otk.un 6)))) oa a h
        · rw [if_neg e]
          exact ⟨Or.inl rfl, Wty.ss 6 a d, fun t ht => (by cases ht), Otk.ss (lt := ltp) 6 a d⟩
      · rw [if_neg d] at h
        exact absurd h (by simp)
theorem clO_lp {b : Nat → Int32} {n s : Nat} (hs : s = 1 ∨ s = 2) : ∀ (k a : Nat), (k2lp b n (isq 59) (fun _ => []) (k21 (k2c b n s)) k a).1 = true → ∀ c ∈ (k2lp b n (isq 59) (fun _ => []) (k21 (k2c b n s)) k a).2.2, clO s c
  | 0, a, _ => fun c hc => by cases hc
  | k + 1, a, h => by
    unfold k2lp at h ⊢
    by_cases q : isq 59 (skv b n a) = true
    · rw [if_pos q] at h ⊢
      by_cases d : (k21 (k2c b n s) (ska b n a + 1)).1 = true
      · rw [if_pos d] at h ⊢
        intro c hc
        rcases List.mem_append.mp hc with z | z
        · rw [List.append_nil] at z
          rw [List.mem_singleton.mp z]
          exact clO_c hs _ d
        · exact clO_lp hs k _ h c z
      · rw [if_neg d] at h
        exact absurd h d
    · rw [if_neg q]
      exact fun c hc => by cases hc
theorem clO_ru {b : Nat → Int32} {n s : Nat} (hs : s = 1 ∨ s = 2) (h : (k2ru b n s 0).1 = true) : ∀ c ∈ (k2ru b n s 0).2.2, clO s c := by
  unfold k2ru k2sq at h ⊢
  by_cases d : (k21 (k2c b n s) 0).1 = true
  · rw [if_pos d] at h ⊢
    intro c hc
    rcases List.mem_append.mp hc with z | z
    · rw [List.mem_singleton.mp z]
      exact clO_c hs _ d
    · exact clO_lp hs 160 _ h c z
  · rw [if_neg d] at h
    exact absurd h d
/-! the class: clauses and rules, with what they put down -/
theorem pk_4 (o x : Int32) : o ||| (x <<< ((4 : Int32) &&& 31)) = pk4 o x := rfl
/-- the end of a clause that has no condition -/
theorem c_ec0 (d : Nat) {h : Hp_} (I : Iv h) (l : xc h < 164) : Cv (m_X8_endClause (d + 2) 0 0) [.ref 11, .int (-1)] h (fun h' => Iv h' ∧ Fr [11009, 33999] h h' ∧ Cdx h h' [pk4 4 0]) := by
  refine t_X8_endClause d h I.1 (-1) _ (Ci.mono (c_eme d I 4 0 l) (fun r h1 k => ⟨k.1.1, fun _ => ⟨k.1, k.2.1, k.2.2.2⟩, fun y => absurd y.1 (by decide)⟩))
/-- the end of a clause whose condition ends at j -/
theorem c_ecj (d : Nat) {h0 h1 h : Hp_} (I : Iv h) {A B : List Int32} {x : Int32} (ca : Cdx h0 h1 [x]) (cb : Cdx h1 h B) (l : xc h < 164) : Cv (m_X8_endClause (d + 2) 0 0) [.ref 11, .int (Int32.ofNat (xc h0))] h (fun h' => Iv h' ∧ Fr [11009, 33999] h h' ∧ Cdx h0 h' (pk4 3 (Int32.ofNat (xc h0 + 1 + B.length + 1)) :: (B ++ [pk4 4 0]))) := by
  have e1 : xc h1 = xc h0 + 1 := ca.1
  have e2 : xc h = xc h1 + B.length := cb.1
  refine t_X8_endClause d h I.1 _ _ (Ci.mono (c_eme d I 4 0 l) (fun r h2 k => ?_))
  obtain ⟨I2, F2, _, c2⟩ := k
  have e3 : xc h2 = xc h + 1 := c2.1
  have ci := xc_i I2
  have b9 := x9_in I2
  have o0 : (Int32.ofNat (xc h0)).toInt = (xc h0 : Int) := on_j (by omega)
  have k0 : (Int32.ofNat (xc h0)).toNatClampNeg = xc h0 := on_k (by omega)
  have t1 : (1 : Int32).toInt = 1 := rfl
  have t0 : (0 : Int32).toInt = 0 := rfl
  have m1 : (h_i h2 11 9 - 1).toInt = (h_i h2 11 9).toInt - 1 := by rw [tx_sub (by rw [t1]; omega) (by rw [t1]; omega), t1]
  refine ⟨I2.1, fun n => absurd ⟨q_le.mpr (by rw [o0, t0]; omega), q_le.mpr (by rw [o0, m1]; omega)⟩ n, fun _ => t_X10_pack d h2 3 _ _ ⟨I2.1, dp_in (lo := 0) (hi := 163) ⟨by rw [o0]; omega, by rw [o0]; show _ ≤ (163 : Int); omega⟩ (by decide) (by decide), tr_ 33 (by decide +kernel) I2 _ _ (by decide) (by decide), F2.im (inw_row (by decide +kernel) _), ?_, fun i hi => ?_, fun i v e => ?_⟩⟩
  · show (h_i (h_im h2 33 _ _) 11 9).toNatClampNeg = _
    rw [im_ne (by decide)]
    show xc h2 = xc h0 + ((B ++ [pk4 4 0]).length + 1)
    rw [List.length_append]
    show xc h2 = xc h0 + (B.length + 1 + 1)
    omega
  · rw [k0, h_i_im, if_neg (fun y => by have := y.2; omega), c2.2.1 i (by omega), cb.2.1 i (by omega), ca.2.1 i hi]
  · have s9 : h_i h2 11 9 = Int32.ofNat (xc h0 + 1 + B.length + 1) := by
      have e9 : (h_i h2 11 9).toNatClampNeg = xc h0 + 1 + B.length + 1 := by
        show xc h2 = _
        omega
      rw [← of_nat32 b9.1, e9]
    cases i with
    | zero =>
      have e : some (pk4 3 (Int32.ofNat (xc h0 + 1 + B.length + 1))) = some v := e
      rw [k0, Nat.add_zero, im_at, s9, ← Option.some.inj e]
      rfl
    | succ i =>
      have e : (B ++ [pk4 4 0])[i]? = some v := e
      rw [k0, h_i_im, if_neg (fun y => by have := y.2; omega)]
      by_cases lb : i < B.length
      · rw [List.getElem?_append_left lb] at e
        rw [c2.2.1 _ (by omega)]
        have z := cb.2.2 i v e
        rw [e1, show xc h0 + 1 + i = xc h0 + (i + 1) by omega] at z
        exact z
      · rw [List.getElem?_append_right (by omega)] at e
        have z := c2.2.2 _ v e
        have lt : i - B.length < 1 := (List.getElem?_eq_some_iff.mp e).1
        rw [show xc h + (i - B.length) = xc h0 + (i + 1) by omega] at z
        exact z
/-- what a clause, or an answer, has put down -/
def Fce (b : Nat → Int32) (n : Nat) (T : Bool × Nat) (E : List Int32) (h0 : Hp_) (r : Int32) (h : Hp_) : Prop := (r = 1 ∧ T.1 = true ∧ ska b n (xa h) = T.2 ∧ h_i h 11 3 = h_i h0 11 3 ∧ Cdx h0 h E) ∨ (r = 0 ∧ T.1 = false ∧ h_i h 11 3 = Int32.ofNat T.2)
def Xce (b : Nat → Int32) (n : Nat) (T : Bool × Nat) (E : List Int32) (h : Hp_) (r : Int32) (h' : Hp_) : Prop := Iv h' ∧ Fr wzx h h' ∧ Fce b n T E h r h'
theorem Fce.z {b : Nat → Int32} {n : Nat} {T : Bool × Nat} {E : List Int32} {h0 : Hp_} {r : Int32} {h : Hp_} (F : Fce b n T E h0 r h) : r = 0 ∨ r = 1 := F.elim (fun y => Or.inr y.1) (fun y => Or.inl y.1)
theorem Fce.n {b : Nat → Int32} {n : Nat} {T : Bool × Nat} {E : List Int32} {h0 : Hp_} {r : Int32} {h : Hp_} (F : Fce b n T E h0 r h) (e : r = 0) : Fce b n T E h0 0 h := by
  rcases F with F | F
  · rw [e] at F
    exact absurd F.1 (by decide)
  · exact Or.inr ⟨rfl, F.2⟩
theorem Fce.y {b : Nat → Int32} {n : Nat} {T : Bool × Nat} {E : List Int32} {h0 : Hp_} {r : Int32} {h : Hp_} (F : Fce b n T E h0 r h) (e : ¬ r = 0) : Fce b n T E h0 1 h := by
  rcases F with F | F
  · exact Or.inl ⟨rfl, F.2⟩
  · exact absurd F.1 e
theorem Fce.b {b : Nat → Int32} {n : Nat} {T : Bool × Nat} {E : List Int32} {h0 h1 : Hp_} {r : Int32} {h : Hp_} (F : Fce b n T E h0 r h) (e : h_i h0 11 3 = h_i h1 11 3) (c : Cdx h1 h0 []) : Fce b n T E h1 r h := by
  rcases F with F | F
  · exact Or.inl ⟨F.1, F.2.1, F.2.2.1, F.2.2.2.1.trans e, c.tr F.2.2.2.2⟩
  · exact Or.inr F
/-- a failing part fails the clause -/
theorem fce_n {b : Nat → Int32} {n s : Nat} {f g : Rce} {a : Nat} {E : List Int32} {h0 : Hp_} {r : Int32} {h : Hp_} (F : Fxe b n s (f a) h0 r h) (e : r = 0) : Fce b n ((k2pr f g a).1, (k2pr f g a).2.1) E h0 0 h := by
  have k := F.n e
  rcases k with k | k
  · exact absurd k.1 (by decide)
  · have e1 : k2pr f g a = (false, (f a).2.1, ([], [])) := by
      unfold k2pr
      exact if_neg (by rw [k.2.1]; decide)
    rw [e1]
    exact Or.inr ⟨rfl, rfl, k.2.2⟩
/-- a condition and its answer -/
theorem fce_2 {b : Nat → Int32} {n s : Nat} {f g : Rce} {a : Nat} {h0 : Hp_} {r r2 : Int32} {h h2 : Hp_} (c : Cne b n g) (nz : ¬ (f a).2.2.length = 0) (F : Fxe b n s (f a) h0 r h) (e : ¬ r = 0) (G : Fce b n ((g (xa h)).1, (g (xa h)).2.1) (anX s (xc h) (g (xa h)).2.2) h r2 h2) : Fce b n ((k2pr f g a).1, (k2pr f g a).2.1) (clX s (xc h0) (k2pr f g a).2.2) h0 r2 h2 := by
  have k := F.ok e
  have e1 : k2pr f g a = ((g (xa h)).1, (g (xa h)).2.1, ((f a).2.2, (g (xa h)).2.2)) := by
    unfold k2pr
    rw [if_pos k.1, ← k.2.1, c]
  rw [e1]
  rcases G with G | G
  · refine Or.inl ⟨G.1, G.2.1, G.2.2.1, G.2.2.2.1.trans k.2.2.1, ?_⟩
    show Cdx h0 h2 (clX s (xc h0) ((f a).2.2, (g (xa h)).2.2))
    unfold clX
    rw [if_neg nz]
    have z := k.2.2.2.1
    rw [List.length_map] at z
    have q := k.2.2.2.tr G.2.2.2.2
    rw [z] at q
    exact q
  · exact Or.inr G
theorem Put1.nz {y : Bool} {E : List Tk2} (p : Put1 y E) : ¬ E.length = 0 := fun e => by
  have z : E = [] := List.eq_nil_of_length_eq_zero e
  have q := p []
  rw [z] at q
  exact absurd (Option.some.inj q) (by simp)
theorem c_rpae {b : Nat → Int32} {n : Nat} (d : Nat) {h : Hp_} (I : Iv h) (t : Tx b n 2 h) (cb : Cbx b n h) : Ci (m_X8_readPayAnswer (d + 80 + 54) 0 0) [.ref 11] h (fun r h' => Xce b n ((k2pa b n (xa h)).1, (k2pa b n (xa h)).2.1) (anX 2 (xc h) (k2pa b n (xa h)).2.2) h r h') := by
  have S := e_sums (b := b) (n := n) (s := 2) (Or.inr rfl) 6 (by omega)
  have fs : Fwe b n (k2ss b n ltp 6) := Fwe.ss (by decide) 6
  have ni := xn_i I
  rw [t.2.1] at ni
  have z1 := (x1_in I).2
  refine t_X8_readPayAnswer (d + 80) h I.1 _ (Ci.mono (c_exe (d + 80) I t 63 (by decide)) (fun r3 h1 X => ⟨X.1.1, fun y1 => ?_, fun y0 => ⟨X.1, X.2.1, ?_⟩⟩))
  · have ok := X.2.2.ok y1
    have fe := Fwe.ex (b := b) (n := n) (c := 63) (by decide) (xa h) ok.1
    have e2 : (k2ex b n 63 (xa h)).2.2 = [] := by
      unfold k2ex
      split <;> rfl
    have c1 : Cdx h h1 [] := by
      have z := ok.2.2.2
      rw [e2] at z
      exact z
    have x1 : xc h1 = xc h := c1.1
    have lc : xc h1 < 164 := by
      unfold Cbx at cb
      omega
    refine Ci.mono (c_eme (d + 80) X.1 3 0 lc) (fun r7 h5 k => ⟨k.1.1, ?_⟩)
    obtain ⟨I5, F5', er7, c5⟩ := k
    have F5 : Fr wzx h h5 := X.2.1.tr (F5'.more (by decide +kernel))
    have t5 : Tx b n 2 h5 := t.fr F5 (by decide +kernel)
    have a5 : xa h5 = xa h1 := by
      show (h_i h5 11 2).toNatClampNeg = _
      rw [(F5'.2 11 2 (by decide +kernel)).1]
    have g5 : h_i h5 11 3 = h_i h 11 3 := ((F5'.2 11 3 (by decide +kernel)).1).trans ok.2.2.1
    have x5 : xc h5 = xc h1 + 1 := c5.1
    have cb5 : Cbx b n h5 := by
      unfold Cbx at cb ⊢
      rw [a5, ok.2.1]
      omega
    have s6 : Ci (m_X8_readSum (d + 10 + 10 * (6 + 1) + 53) 0 0) [.ref 11, .int (Int32.ofNat (6 - 6))] h5 (fun q h' => Xe b n 2 (k2ss b n (ltb 2) 6 (xa h5)) h5 q h') := S (d + 10) h5 I5 t5 cb5
    rw [show d + 10 + 10 * (6 + 1) + 53 = d + 80 + 53 by omega] at s6
    have ea : k2pa b n (xa h) = k2ss b n ltp 6 (xa h5) := by
      unfold k2pa k2sq
      rw [if_pos ok.1, ← ok.2.1, Cne.ss 6, e2, a5]
      rfl
    rw [ea]
    refine Ci.mono s6 (fun r10 h8 Y => ⟨Y.1.1, fun w1 => ?_, fun w0 => ⟨Y.1, F5.tr Y.2.1, ?_⟩⟩)
    · have oy := Y.2.2.ok w1
      have lc8 : xc h8 < 164 := by
        have z := oy.2.2.2.1
        rw [List.length_map] at z
        have q := cb5.em I5 t5 fs oy.1
        have q : xc h5 + (k2ss b n (ltb 2) 6 (xa h5)).2.2.length < 164 := q
        omega
      have ej := c_ecj (d + 80) (A := []) Y.1 (c1.tr c5) oy.2.2.2 lc8
      rw [er7, x1]
      refine Cv.mono ej (fun h12 k2 => ⟨k2.1.1, k2.1, (F5.tr Y.2.1).tr (k2.2.1.more (by decide +kernel)), Or.inl ⟨rfl, oy.1, ?_, ?_, ?_⟩⟩)
      · show ska b n (h_i h12 11 2).toNatClampNeg = _
        rw [(k2.2.1.2 11 2 (by decide +kernel)).1]
        exact oy.2.1
      · rw [(k2.2.1.2 11 3 (by decide +kernel)).1, oy.2.2.1]
        exact g5
      · have z := k2.2.2
        rw [List.length_map] at z
        exact z
    · rcases Y.2.2.n w0 with G | G
      · exact absurd G.1 (by decide)
      · exact Or.inr G
  · rcases X.2.2.n y0 with G | G
    · exact absurd G.1 (by decide)
    · have ea : k2pa b n (xa h) = k2ex b n 63 (xa h) := by
        unfold k2pa k2sq
        exact if_neg (by rw [G.2.1]; decide)
      rw [ea]
      exact Or.inr G
theorem vd_all : (List.range 256).all (fun j => decide (vdb (Int32.ofNat j) = true → ixq 3 (xch (Int32.ofNat j)) = vdv (Int32.ofNat j))) = true := by decide +kernel
theorem vd_ix {x : Int32} (b : 0 ≤ x.toInt ∧ x.toInt ≤ 255) (h : vdb x = true) : ixq 3 (xch x) = vdv x := by
  have e := of_nat32 b.1
  have k := n_nat b.1
  rw [← e] at h ⊢
  exact of_decide_eq_true (List.all_eq_true.mp vd_all _ (List.mem_range.mpr (by omega))) h
theorem c_race {b : Nat → Int32} {n : Nat} (d : Nat) {h : Hp_} (I : Iv h) (t : Tx b n 1 h) (cb : Cbx b n h) : Ci (m_X8_readActClause (d + 80 + 59) 0 0) [.ref 11] h (fun r h' => Xce b n ((k2ac b n (xa h)).1, (k2ac b n (xa h)).2.1) (clX 1 (xc h) (k2ac b n (xa h)).2.2) h r h') := by
  have U := e_units (b := b) (n := n) (s := 1) (Or.inl rfl) 6 (by omega)
  have fu : Fwe b n (k2un b n (ltb 1) 6) := Fwe.un (by decide) 6
  have C := c_rcde _ _ _ fu U
  have fc : Fwe b n (k2cd b n (k2un b n (ltb 1) 6)) := fu.cd
  have ni := xn_i I
  rw [t.2.1] at ni
  have z1 := (x1_in I).2
  refine t_X8_readActClause (d + 80) h I.1 _ (Ci.mono (C d h I t cb) (fun r3 h1 X => ⟨X.1.1, fun y0 => ⟨X.1, X.2.1, fce_n (f := k2cd b n (k2un b n (ltb 1) 6)) (g := k2av b n) X.2.2 y0⟩, fun y1 => ?_⟩))
  have cb1 : Cbx b n h1 := X.2.2.cb y1 fc cb
  have okX := X.2.2.ok y1
  have nz : ¬ (k2cd b n (k2un b n (ltb 1) 6) (xa h)).2.2.length = 0 := (Wty.cd (Wty.un 6) (xa h) okX.1).nz
  have up : ∀ (r : Int32) (h' : Hp_), Fce b n ((k2av b n (xa h1)).1, (k2av b n (xa h1)).2.1) (anX 1 (xc h1) (k2av b n (xa h1)).2.2) h1 r h' → Fce b n ((k2ac b n (xa h)).1, (k2ac b n (xa h)).2.1) (clX 1 (xc h) (k2ac b n (xa h)).2.2) h r h' := fun r h' G => fce_2 (f := k2cd b n (k2un b n (ltb 1) 6)) (g := k2av b n) (Cne.sq Cne.ex) nz X.2.2 y1 G
  refine Ci.mono (c_exe (d + 80) X.1 (X.t t) 63 (by decide)) (fun r7 h5 Y => ?_)
  have F5 : Fr wzx h h5 := X.2.1.tr Y.2.1
  refine ⟨Y.1.1, fun w1 => ?_, fun w0 => ⟨Y.1, F5, up 0 h5 ?_⟩⟩
  · have okY := Y.2.2.ok w1
    have fe := Fwe.ex (b := b) (n := n) (c := 63) (by decide) (xa h1) okY.1
    have e2 : (k2ex b n 63 (xa h1)).2.2 = [] := by
      unfold k2ex
      split <;> rfl
    have c5 : Cdx h1 h5 [] := by
      have z := okY.2.2.2
      rw [e2] at z
      exact z
    have x5 : xc h5 = xc h1 := c5.1
    have lc : xc h5 < 164 := by
      unfold Cbx at cb1
      omega
    refine Ci.mono (c_eme (d + 80) Y.1 3 0 lc) (fun r11 h9 k => ⟨k.1.1, ?_⟩)
    obtain ⟨I9, F9', er, c9⟩ := k
    have F9 : Fr wzx h h9 := F5.tr (F9'.more (by decide +kernel))
    have t9 : Tx b n 1 h9 := t.fr F9 (by decide +kernel)
    have a9 : xa h9 = xa h5 := by
      show (h_i h9 11 2).toNatClampNeg = _
      rw [(F9'.2 11 2 (by decide +kernel)).1]
    have g9 : h_i h9 11 3 = h_i h1 11 3 := ((F9'.2 11 3 (by decide +kernel)).1).trans okY.2.2.1
    have ea : k2av b n (xa h1) = k2vd b n (xa h9) := by
      unfold k2av k2sq
      rw [if_pos okY.1, ← okY.2.1, Cne.vd, e2, a9]
      rfl
    rw [ea] at up
    have fl : ∀ (h12 : Hp_) (r14 : Int32), Pk b n h9 r14 h12 → ¬ vdb r14 = true → Ci (m_X8_fail (d + 80 + 0) 0 0) [.ref 11] h12 (fun r h' => Wf h' ∧ ((r = 0 ∨ r = 1) ∧ Xce b n ((k2ac b n (xa h)).1, (k2ac b n (xa h)).2.1) (clX 1 (xc h) (k2ac b n (xa h)).2.2) h r h')) := fun h12 r14 L nv => by
      have e : k2vd b n (xa h9) = (false, ska b n (xa h9), []) := by
        unfold k2vd
        exact if_neg (by rw [← L.2.2.2]; exact nv)
      refine Ci.mono (c_fl (d + 80) L.1) (fun r2 h2 k => ⟨k.2.1.1, Or.inl k.1, k.2.1, F9.tr ((L.2.1.more (by decide +kernel)).tr (k.2.2.1.more (by decide +kernel))), up r2 h2 ?_⟩)
      rw [e]
      exact Or.inr ⟨k.1, rfl, by rw [k.2.2.2, L.2.2.1]⟩
    refine Ci.mono (c_pk (d + 80) I9 t9) (fun r14 h12 L => ⟨L.1.1, fun nm => ?_, fun em => fl h12 r14 L (by rw [em]; decide)⟩)
    have bb := L.in I9 t9 nm
    have il := (ix_let bb).2.2
    have ir := ix_rng bb (i := 3) (by decide)
    refine Ci.mono (c_ix1f (d + 80) 3 (by decide) h12 (xch r14)) (fun r18 h16 q => ?_)
    obtain ⟨er18, eh⟩ := q
    subst eh
    subst er18
    refine ⟨L.1.1, fun p => ?_, fun np => fl h16 r14 L (fun y => np (il.mpr y))⟩
    have yv := il.mp p
    obtain ⟨I6, F6, a6⟩ := nxx I9 t9 L nm
    have lsk : ska b n (xa h9) < n := skv_l (b := b) (n := n) (a := xa h9) (by rw [← L.2.2.2]; exact nm)
    have e6 : Cdx h9 _ [] := Cdx.f0 F6 (by decide +kernel)
    have x9 : xc h9 = xc h5 + 1 := c9.1
    have g9' := ska_ge (b := b) (n := n) (a := xa h9)
    have l6 : xc (h_im h16 11 2 ((h_i h16 11 2) + 1)) < 164 := by
      have z : xc (h_im h16 11 2 ((h_i h16 11 2) + 1)) = xc h9 := e6.1
      unfold Cbx at cb1
      omega
    refine Ci.mono (c_eme (d + 80) I6 0 (ixq 3 (xch r14)) l6) (fun r22 h20 k2 => ⟨k2.1.1, ?_⟩)
    obtain ⟨I20, F20, _, c20⟩ := k2
    have c20' : Cdx h9 h20 [pk4 0 (ixq 3 (xch r14))] := e6.tr c20
    have l20 : xc h20 < 164 := by
      have z : xc h20 = xc h9 + 1 := c20'.1
      unfold Cbx at cb1
      omega
    have ej := c_ecj (d + 80) (A := []) I20 (c5.tr c9) c20' l20
    have er' : r11 = Int32.ofNat (xc h1) := by rw [er, x5]
    rw [er']
    refine Cv.mono ej (fun h23 k3 => ⟨k3.1.1, k3.1, ((F9.tr (F6.more (by decide +kernel))).tr (F20.more (by decide +kernel))).tr (k3.2.1.more (by decide +kernel)), up 1 h23 ?_⟩)
    have e : k2vd b n (xa h9) = (true, ska b n (ska b n (xa h9) + 1), [(0, vdv r14)]) := by
      unfold k2vd
      rw [← L.2.2.2, if_pos yv]
    rw [e]
    have f23 : Fr [11009, 33999] _ h23 := F20.tr k3.2.1
    refine Or.inl ⟨rfl, rfl, ?_, ?_, ?_⟩
    · show ska b n (h_i h23 11 2).toNatClampNeg = _
      rw [(f23.2 11 2 (by decide +kernel)).1, ← a6]
    · rw [(f23.2 11 3 (by decide +kernel)).1, fw3 F6 (by decide +kernel)]
      exact g9
    · have z := k3.2.2
      rw [vd_ix bb yv] at z
      exact z
  · rcases Y.2.2.n w0 with G | G
    · exact absurd G.1 (by decide)
    · have ea : k2av b n (xa h1) = k2ex b n 63 (xa h1) := by
        unfold k2av k2sq
        exact if_neg (by rw [G.2.1]; decide)
      rw [ea]
      exact Or.inr G
/-! a fault lies on the tape -/
def Fzb (b : Nat → Int32) (n : Nat) (f : Rcg) : Prop := ∀ a, a ≤ n → (f a).1 = false → (f a).2 ≤ n
theorem Fzb.ex {b : Nat → Int32} {n : Nat} {c : Int32} : Fzb b n (exr b n c) := fun a l h => by
  unfold exr at h ⊢
  by_cases q : skv b n a = c
  · rw [if_pos q] at h
    exact absurd h (by simp)
  · rw [if_neg q]
    exact ska_le l
theorem Fzb.on {b : Nat → Int32} {n : Nat} {sp : Int32 → Bool} : Fzb b n (onr b n sp) := fun a l h => by
  unfold onr at h ⊢
  by_cases q : sp (skv b n a) = true
  · rw [if_pos q] at h
    exact absurd h (by simp)
  · rw [if_neg q]
    exact ska_le l
theorem Fzb.nm {b : Nat → Int32} {n : Nat} : Fzb b n (nm0 b n) := fun a l h => by
  unfold nm0 at h ⊢
  by_cases c : dgb (skv b n a) = true
  · rw [if_pos c] at h ⊢
    by_cases d : (nml b n 4 0 (ska b n a)).1 = true
    · rw [if_pos d] at h
      exact absurd h (by simp)
    · rw [if_neg d]
      exact (nml_p (b := b) (n := n) 4 0 (ska b n a) (ska_le l)).2.1
  · rw [if_neg c]
    exact ska_le l
theorem Fzb.sq {b : Nat → Int32} {n : Nat} {f g : Rcg} (wf : ∀ a, a ≤ n → (f a).1 = true → (f a).2 ≤ n) (zf : Fzb b n f) (zg : Fzb b n g) : Fzb b n (sqr f g) := fun a l h => by
  unfold sqr at h ⊢
  by_cases c : (f a).1 = true
  · rw [if_pos c] at h ⊢
    exact zg _ (wf a l c) h
  · rw [if_neg c]
    exact zf a l (by simpa using c)
theorem Fwd.l {b : Nat → Int32} {n : Nat} {f : Rcg} (h : Fwd b n f) (a : Nat) (_ : a ≤ n) (y : (f a).1 = true) : (f a).2 ≤ n := (h a y).2.1
theorem Fzb.lp {b : Nat → Int32} {n : Nat} {sp : Int32 → Bool} {f : Rcg} (hs : sp (-1) = false) (wf : Fwd b n f) (zf : Fzb b n f) : ∀ k : Nat, Fzb b n (lpr b n sp f k)
  | 0 => fun a l h => by
    exact absurd (show (true : Bool) = false from h) (by decide)
  | k + 1 => fun a l h => by
    unfold lpr at h ⊢
    by_cases c : sp (skv b n a) = true
    · rw [if_pos c] at h ⊢
      have s1 : ska b n a < n := skv_l (fun e => by rw [e, hs] at c; exact absurd c (by decide))
      by_cases d : (f (ska b n a + 1)).1 = true
      · rw [if_pos d] at h ⊢
        exact Fzb.lp hs wf zf k _ (wf _ d).2.1 h
      · rw [if_neg d]
        exact zf _ (by omega) (by simpa using d)
    · rw [if_neg c] at h
      exact absurd h (by simp)
theorem lpr_l {b : Nat → Int32} {n : Nat} {sp : Int32 → Bool} {f : Rcg} (wf : Fwd b n f) (k a : Nat) (l : a ≤ n) (h : (lpr b n sp f k a).1 = true) : (lpr b n sp f k a).2 ≤ n := by
  have e := lpr_c (b := b) (n := n) (sp := sp) (f := f) k a
  rw [← e] at h ⊢
  exact (lpr_f wf k _ ska_i (ska_le l) h).2.1
theorem Fzb.at {b : Nat → Int32} {n : Nat} {lt : Int32 → Bool} {z : Bool} {f : Rcg} (hf : z = false → Fwd b n f ∧ Fzb b n f) : Fzb b n (atm b n lt z f) := fun a l h => by
  unfold atm at h ⊢
  by_cases c : dgb (skv b n a) = true
  · rw [if_pos c] at h ⊢
    exact Fzb.nm a l h
  · rw [if_neg c] at h ⊢
    by_cases d : skv b n a = 91
    · rw [if_pos d] at h ⊢
      have s1 : ska b n a < n := skv_l (by rw [d]; decide)
      by_cases e : z = true
      · rw [if_pos e]
        exact ska_le l
      · rw [if_neg e] at h ⊢
        have q := hf (by simpa using e)
        exact Fzb.sq q.1.l q.2 Fzb.ex _ (by omega) h
    · rw [if_neg d] at h ⊢
      exact Fzb.on a l h
theorem Fzb.tm {b : Nat → Int32} {n : Nat} {f : Rcg} (wf : Fwd b n f) (zf : Fzb b n f) : Fzb b n (trm b n f) := Fzb.sq wf.l zf (Fzb.lp (by decide) wf zf 160)
theorem Fzb.sm {b : Nat → Int32} {n : Nat} {f : Rcg} (wf : Fwd b n f) (zf : Fzb b n f) : Fzb b n (smm b n f) := Fzb.sq (trm_f wf).l (Fzb.tm wf zf) (Fzb.lp (by decide) (trm_f wf) (Fzb.tm wf zf) 160)
theorem Fzb.ss {b : Nat → Int32} {n : Nat} {lt : Int32 → Bool} (hl : lt (-1) = false) : ∀ r : Nat, Fzb b n (sms b n lt r)
  | 0 => Fzb.sm (atm_f hl (Or.inl rfl)) (Fzb.at (fun e => absurd e (by decide)))
  | r + 1 => Fzb.sm (atm_f hl (Or.inr (sms_f hl r))) (Fzb.at (fun _ => ⟨sms_f hl r, Fzb.ss hl r⟩))
theorem Fzb.cm {b : Nat → Int32} {n : Nat} {f : Rcg} (zf : Fzb b n f) : Fzb b n (cmq b n f) := fun a l h => by
  unfold cmq at h ⊢
  by_cases c : sgb (skv b n a) = true
  · rw [if_pos c] at h ⊢
    have s1 : ska b n a < n := skv_l (fun e => by rw [e] at c; exact absurd c (by decide))
    exact zf _ (by omega) h
  · rw [if_neg c]
    exact ska_le l
theorem Fzb.mu {b : Nat → Int32} {n : Nat} {u : Rcg} (wu : Fwd b n u) (zu : Fzb b n u) : Fzb b n (mun b n u) := Fzb.lp (by decide) wu zu 160
theorem Fzb.pt {b : Nat → Int32} {n : Nat} {u : Rcg} (wu : Fwd b n u) (zu : Fzb b n u) : Fzb b n (prt b n u) := Fzb.sq wu.l zu (Fzb.mu wu zu)
theorem Fzb.mp {b : Nat → Int32} {n : Nat} {u : Rcg} (wu : Fwd b n u) (zu : Fzb b n u) : Fzb b n (mpt b n u) := Fzb.sq (fun a l h => lpr_l wu 160 a l h) (Fzb.mu wu zu) (Fzb.lp (by decide) (prt_f wu) (Fzb.pt wu zu) 160)
theorem Fzb.cd {b : Nat → Int32} {n : Nat} {u : Rcg} (wu : Fwd b n u) (zu : Fzb b n u) : Fzb b n (cnd b n u) := Fzb.sq wu.l zu (Fzb.mp wu zu)
theorem Fzb.un {b : Nat → Int32} {n : Nat} {lt : Int32 → Bool} (hl : lt (-1) = false) : ∀ r : Nat, Fzb b n (unt b n lt r)
  | 0 => fun a l h => by
    unfold unt at h ⊢
    by_cases c : skv b n a = 33 ∨ skv b n a = 40
    · rw [if_pos c]
      exact ska_le l
    · rw [if_neg c] at h ⊢
      exact Fzb.sq (sms_f hl 0).l (Fzb.ss hl 0) (Fzb.cm (Fzb.ss hl 0)) a l h
  | r + 1 => fun a l h => by
    unfold unt at h ⊢
    by_cases c : skv b n a = 33
    · rw [if_pos c] at h ⊢
      have s1 : ska b n a < n := skv_l (by rw [c]; decide)
      exact Fzb.un hl r _ (by omega) h
    · rw [if_neg c] at h ⊢
      by_cases d : skv b n a = 40
      · rw [if_pos d] at h ⊢
        have s1 : ska b n a < n := skv_l (by rw [d]; decide)
        exact Fzb.sq (cnd_f (unt_f hl r)).l (Fzb.cd (unt_f hl r) (Fzb.un hl r)) Fzb.ex _ (by omega) h
      · rw [if_neg d] at h ⊢
        exact Fzb.sq (sms_f hl (r + 1)).l (Fzb.ss hl (r + 1)) (Fzb.cm (Fzb.ss hl (r + 1))) a l h
theorem Fzb.pa {b : Nat → Int32} {n : Nat} : Fzb b n (pan b n) := Fzb.sq (exr_f (by decide)).l Fzb.ex (Fzb.ss (by decide) 6)
theorem Fzb.cl {b : Nat → Int32} {n s : Nat} : Fzb b n (clq b n s) := by
  have hl : ltp (-1) = false := by decide
  unfold clq
  split
  · exact Fzb.sq (cnd_f (unt_f (by decide) 6)).l (Fzb.cd (unt_f (by decide) 6) (Fzb.un (by decide) 6)) (Fzb.sq (exr_f (by decide)).l Fzb.ex Fzb.on)
  · intro a l h
    unfold pcl_ at h ⊢
    by_cases c : skv b n a = 33 ∨ skv b n a = 40
    · rw [if_pos c] at h ⊢
      exact Fzb.sq (cnd_f (unt_f hl 6)).l (Fzb.cd (unt_f hl 6) (Fzb.un hl 6)) Fzb.pa a l h
    · rw [if_neg c] at h ⊢
      refine Fzb.sq (sms_f hl 6).l (Fzb.ss hl 6) (fun p lp hp => ?_) a l h
      by_cases d : sgb (skv b n p) = true
      · rw [if_pos d] at hp ⊢
        exact Fzb.sq (cmq_f (sms_f hl 6)).l (Fzb.cm (Fzb.ss hl 6)) (Fzb.sq (fun a l h => by
          have e := mpt_c (b := b) (n := n) (u := unt b n ltp 6) a
          rw [← e] at h ⊢
          exact (mpt_w (unt_f hl 6) _ ska_i (ska_le l) h).2.1) (Fzb.mp (unt_f hl 6) (Fzb.un hl 6)) Fzb.pa) p lp hp
      · rw [if_neg d] at hp
        exact absurd hp (by simp)
theorem fault_le {b : Nat → Int32} {n s : Nat} (hs : s = 1 ∨ s = 2) (h : (k2ru b n s 0).1 = false) : (k2ru b n s 0).2.1 ≤ n := by
  have pj := pj_ru (b := b) (n := n) hs 0
  rw [pj.1] at h
  rw [pj.2]
  exact Fzb.sq (clq_f s).l Fzb.cl (Fzb.lp (by decide) (clq_f s) Fzb.cl 160) 0 (Nat.zero_le _) h
/-! the class: clauses of pay, and whole rules, with what they put down -/
theorem c_rpce {b : Nat → Int32} {n : Nat} (d : Nat) {h : Hp_} (I : Iv h) (t : Tx b n 2 h) (cb : Cbx b n h) : Ci (m_X8_readPayClause (d + 80 + 59) 0 0) [.ref 11] h (fun r h' => Xce b n ((k2pc b n (xa h)).1, (k2pc b n (xa h)).2.1) (clX 2 (xc h) (k2pc b n (xa h)).2.2) h r h') := by
  have S0 := e_sums (b := b) (n := n) (s := 2) (Or.inr rfl) 6 (by omega)
  have S : Rxe b n 2 (k2ss b n ltp 6) (fun d h K => Ci (m_X8_readSum (d + 80 + 53) 0 0) [.ref 11, .int 0] h K) := fun d h I t cb => by
    have s6 : Ci (m_X8_readSum (d + 10 + 10 * (6 + 1) + 53) 0 0) [.ref 11, .int (Int32.ofNat (6 - 6))] h (fun q h' => Xe b n 2 (k2ss b n (ltb 2) 6 (xa h)) h q h') := S0 (d + 10) h I t cb
    rw [show d + 10 + 10 * (6 + 1) + 53 = d + 80 + 53 by omega] at s6
    exact s6
  have fs : Fwe b n (k2ss b n ltp 6) := Fwe.ss (by decide) 6
  have fu : Fwe b n (k2un b n ltp 6) := Fwe.un (by decide) 6
  have U : Rxe b n 2 (k2un b n ltp 6) (fun d h K => Ci (m_X8_readUnit (d + 80 + 55) 0 0) [.ref 11, .int 0] h K) := e_units (b := b) (n := n) (s := 2) (Or.inr rfl) 6 (by omega)
  have C := c_rcde 80 0 _ fu U
  have CM := c_rcme 80 0 _ fs S
  refine t_X8_readPayClause (d + 80) h I.1 _ (Ci.mono (c_pk (d + 80) I t) (fun r3 h1 L => ?_))
  have t1 : Tx b n 2 h1 := t.fr L.2.1 (by decide +kernel)
  have F1 : Fr wzx h h1 := L.2.1.more (by decide +kernel)
  have g3 : h_i h1 11 3 = h_i h 11 3 := fw3 L.2.1 (by decide +kernel)
  have c1 : Cdx h h1 [] := Cdx.f0 L.2.1 (by decide +kernel)
  have x1 : xc h1 = xc h := c1.1
  have cb1 : Cbx b n h1 := cb.pk L
  have e1 : k2pc b n (xa h) = k2pc b n (xa h1) := by rw [L.2.2.1, k2pc_c]
  have v1 : skv b n (xa h1) = r3 := by rw [L.2.2.1, skv_i]; exact L.2.2.2.symm
  have up : ∀ (r : Int32) (h' : Hp_), Fce b n ((k2pc b n (xa h1)).1, (k2pc b n (xa h1)).2.1) (clX 2 (xc h1) (k2pc b n (xa h1)).2.2) h1 r h' → Fce b n ((k2pc b n (xa h)).1, (k2pc b n (xa h)).2.1) (clX 2 (xc h) (k2pc b n (xa h)).2.2) h r h' := fun r h' G => by
    rw [e1, ← x1]
    exact G.b g3 c1
  have cond : (r3 = 33 ∨ r3 = 40) → Ci (m_X8_readCondition (d + 80 + 58) 0 0) [.ref 11, .int 0] h1 (fun r7 h5 => Wf h5 ∧ ((r7 = 0 → Xce b n ((k2pc b n (xa h)).1, (k2pc b n (xa h)).2.1) (clX 2 (xc h) (k2pc b n (xa h)).2.2) h 0 h5) ∧ (¬ r7 = 0 → Ci (m_X8_readPayAnswer (d + 80 + 54) 0 0) [.ref 11] h5 (fun r11 h9 => Wf h9 ∧ ((r11 = 0 → Xce b n ((k2pc b n (xa h)).1, (k2pc b n (xa h)).2.1) (clX 2 (xc h) (k2pc b n (xa h)).2.2) h 0 h9) ∧ (¬ r11 = 0 → Xce b n ((k2pc b n (xa h)).1, (k2pc b n (xa h)).2.1) (clX 2 (xc h) (k2pc b n (xa h)).2.2) h 1 h9)))))) := fun c => by
    have ea : k2pc b n (xa h1) = k2pr (k2cd b n (k2un b n ltp 6)) (k2pa b n) (xa h1) := by
      unfold k2pc
      rw [if_pos (by rw [v1]; exact c)]
    rw [ea] at up
    refine Ci.mono (C d h1 L.1 t1 cb1) (fun r7 h5 X => ⟨X.1.1, fun y0 => ⟨X.1, F1.tr X.2.1, up 0 h5 (fce_n X.2.2 y0)⟩, fun y1 => Ci.mono (c_rpae d X.1 (X.t t1) (X.2.2.cb y1 fu.cd cb1)) (fun r11 h9 Y => ?_)⟩)
    have nz : ¬ (k2cd b n (k2un b n ltp 6) (xa h1)).2.2.length = 0 := (Wty.cd (Wty.un 6) (xa h1) (X.2.2.ok y1).1).nz
    have G := fce_2 (f := k2cd b n (k2un b n ltp 6)) (g := k2pa b n) (Cne.sq Cne.ex) nz X.2.2 y1 Y.2.2
    exact ⟨Y.1.1, fun w0 => ⟨Y.1, (F1.tr X.2.1).tr Y.2.1, up 0 h9 (G.n w0)⟩, fun w1 => ⟨Y.1, (F1.tr X.2.1).tr Y.2.1, up 1 h9 (G.y w1)⟩⟩
  refine ⟨L.1.1, fun e33 => cond (Or.inl e33), fun n33 => ⟨fun n40 => ?_, fun e40 => cond (Or.inr e40)⟩⟩
  have eb : k2pc b n (xa h1) = if (k2ss b n ltp 6 (xa h1)).1 = true then (if sgb (skv b n (k2ss b n ltp 6 (xa h1)).2.1) = true then k2pr (k2p1 b n) (k2pa b n) (xa h1) else (true, (k2ss b n ltp 6 (xa h1)).2.1, ([], (k2ss b n ltp 6 (xa h1)).2.2))) else (false, (k2ss b n ltp 6 (xa h1)).2.1, ([], [])) := by
    unfold k2pc
    rw [if_neg (by rw [v1]; exact fun y => y.elim n33 n40)]
  refine Ci.mono (S d h1 L.1 t1 cb1) (fun r16 h14 X => ⟨X.1.1, fun y1 => ?_, fun y0 => ⟨X.1, F1.tr X.2.1, up 0 h14 ?_⟩⟩)
  · have ok := X.2.2.ok y1
    have t14 := X.t t1
    have F14 : Fr wzx h h14 := F1.tr X.2.1
    have cb14 : Cbx b n h14 := X.2.2.cb y1 fs cb1
    rw [eb, if_pos ok.1, ← ok.2.1, skv_i] at up
    refine Ci.mono (c_pk (d + 80) X.1 t14) (fun r20 h18 M => ⟨M.1.1, Ci.mono (c_cpx (d + 80) h18 r20) (fun r23 h21 q => ?_)⟩)
    obtain ⟨eh, q⟩ := q
    subst eh
    have t21 : Tx b n 2 h21 := t14.fr M.2.1 (by decide +kernel)
    have F21 : Fr wzx h h21 := F14.tr (M.2.1.more (by decide +kernel))
    have g21 : h_i h21 11 3 = h_i h14 11 3 := fw3 M.2.1 (by decide +kernel)
    have c21 : Cdx h14 h21 [] := Cdx.f0 M.2.1 (by decide +kernel)
    have cb21 : Cbx b n h21 := cb14.pk M
    refine ⟨M.1.1, fun q0 => ?_, fun q1 => ?_⟩
    · have ns : ¬ sgb (skv b n (xa h14)) = true := by
        rw [← M.2.2.2]
        rcases q with q | q
        · exact absurd q0 q.1
        · rw [q.2]
          decide
      rw [if_neg ns] at up
      have lc : xc h21 < 164 := by
        have z := ok.2.2.2.1
        rw [List.length_map] at z
        have q := cb1.em L.1 t1 fs ok.1
        have z2 : xc h21 = xc h14 := c21.1
        omega
      refine Cv.mono (c_ec0 (d + 80) M.1 lc) (fun h25 k => ⟨k.1.1, k.1, F21.tr (k.2.1.more (by decide +kernel)), up 1 h25 (Or.inl ⟨rfl, rfl, ?_, ?_, ?_⟩)⟩)
      · show ska b n (h_i h25 11 2).toNatClampNeg = ska b n (xa h14)
        rw [(k.2.1.2 11 2 (by decide +kernel)).1]
        show ska b n (xa h21) = _
        rw [M.i, M.2.2.1]
      · rw [(k.2.1.2 11 3 (by decide +kernel)).1, g21]
        exact ok.2.2.1
      · show Cdx h1 h25 (clX 2 (xc h1) ([], (k2ss b n ltp 6 (xa h1)).2.2))
        exact (ok.2.2.2.fr M.2.1 (by decide +kernel)).tr k.2.2
    · have ys : sgb (skv b n (xa h14)) = true := by
        rw [← M.2.2.2]
        rcases q with q | q
        · exact q.2.1
        · exact absurd q.1 q1
      rw [if_pos ys] at up
      have fcm : Fwe b n (k2cm b n (k2ss b n ltp 6)) := fs.cm
      have join : ∀ (r : Int32) (h' : Hp_), Fxe b n 2 (k2sq (k2cm b n (k2ss b n ltp 6)) (k2mp b n (k2un b n ltp 6)) (xa h21)) h21 r h' → Fxe b n 2 (k2p1 b n (xa h1)) h1 r h' := fun r h' G => by
        rw [M.2.2.1, Cne.sq Cne.cm] at G
        exact sqe2 (g := k2sq (k2cm b n (k2ss b n ltp 6)) (k2mp b n (k2un b n ltp 6))) (Cne.sq Cne.cm) X.2.2 y1 (G.b g21 c21)
      refine Ci.mono (CM d h21 M.1 t21 cb21) (fun r30 h28 Y => ⟨Y.1.1, fun w0 => ⟨Y.1, F21.tr Y.2.1, up 0 h28 (fce_n (join 0 h28 (sqen Y.2.2 w0)) rfl)⟩, fun w1 => ?_⟩)
      have okY := Y.2.2.ok w1
      have cb28 : Cbx b n h28 := Y.2.2.cb w1 fcm cb21
      refine Ci.mono (c_rmpe 80 0 _ fu U d h28 Y.1 (Y.t t21) cb28 (xa_n Y.2.2 w1 (fcm _ okY.1).2.1)) (fun r34 h32 Z => ⟨Z.1.1, fun z0 => ⟨Z.1, (F21.tr Y.2.1).tr Z.2.1, up 0 h32 (fce_n (join r34 h32 (sqe2 Cne.mp Y.2.2 w1 Z.2.2)) z0)⟩, fun z1 => ?_⟩)
      have J := join r34 h32 (sqe2 Cne.mp Y.2.2 w1 Z.2.2)
      have cb32 : Cbx b n h32 := J.cb z1 Fwe.p1 cb1
      refine Ci.mono (c_rpae d Z.1 (Z.t (Y.t t21)) cb32) (fun r38 h36 V => ?_)
      have nz : ¬ (k2p1 b n (xa h1)).2.2.length = 0 := ((Wty.ss 6).cp ((Wcp.cm (Wty.ss 6)).sw (Wsw.mp (Wty.un 6))) (xa h1) (J.ok z1).1).nz
      have G := fce_2 (f := k2p1 b n) (g := k2pa b n) (Cne.sq Cne.ex) nz J z1 V.2.2
      exact ⟨V.1.1, fun v0 => ⟨V.1, ((F21.tr Y.2.1).tr Z.2.1).tr V.2.1, up 0 h36 (G.n v0)⟩, fun v1 => ⟨V.1, ((F21.tr Y.2.1).tr Z.2.1).tr V.2.1, up 1 h36 (G.y v1)⟩⟩
  · rcases X.2.2.n y0 with G | G
    · exact absurd G.1 (by decide)
    · rw [eb, if_neg (by rw [G.2.1]; decide)]
      exact Or.inr ⟨rfl, rfl, G.2.2⟩
/-! rules -/
def Fre (b : Nat → Int32) (n s : Nat) (T : Bool × Nat × List Cl2) (h0 : Hp_) (r : Int32) (h : Hp_) : Prop := (r = 1 ∧ T.1 = true ∧ ska b n (xa h) = T.2.1 ∧ h_i h 11 3 = h_i h0 11 3 ∧ Cdx h0 h (rlX s 0 T.2.2)) ∨ (r = 0 ∧ T.1 = false ∧ h_i h 11 3 = Int32.ofNat T.2.1)
def Sre (b : Nat → Int32) (n s : Nat) (T : Bool × Nat × List Cl2) (g : Rcf Cl2) (h0 : Hp_) (x : Int32) (h : Hp_) : Prop := (x = 1 ∧ (∃ C : List Cl2, T = k2pre C (g (xa h)) ∧ Cdx h0 h (rlX s 0 C)) ∧ Cbx b n h ∧ h_i h 11 3 = h_i h0 11 3) ∨ (x = 0 ∧ T.1 = false ∧ h_i h 11 3 = Int32.ofNat T.2.1)
theorem sre_1 {b : Nat → Int32} {n s : Nat} {g : Rcf Cl2} {h0 : Hp_} {r : Int32} {h : Hp_} (c : Cne b n g) (a0 : xa h0 = 0) (x0 : xc h0 = 0) (F : Fce b n ((k2c b n s (xa h0)).1, (k2c b n s (xa h0)).2.1) (clX s (xc h0) (k2c b n s (xa h0)).2.2) h0 r h) : Sre b n s (k2sq (k21 (k2c b n s)) g 0) g h0 r h := by
  rw [a0, x0] at F
  rcases F with F | F
  · have y : (k21 (k2c b n s) 0).1 = true := F.2.1
    have p : ska b n (xa h) = (k21 (k2c b n s) 0).2.1 := F.2.2.1
    refine Or.inl ⟨F.1, ⟨[(k2c b n s 0).2.2], ?_, ?_⟩, ?_, F.2.2.2.1⟩
    · unfold k2sq
      rw [if_pos y, ← p, c]
      rfl
    · show Cdx h0 h (clX s 0 (k2c b n s 0).2.2 ++ [])
      rw [List.append_nil]
      exact F.2.2.2.2
    · have z := F.2.2.2.2.1
      rw [clX_l, x0] at z
      have q := Fwc.c (s := s) 0 F.2.1
      have p' : ska b n (xa h) = (k2c b n s 0).2.1 := p
      unfold Cbx
      omega
  · have e : k2sq (k21 (k2c b n s)) g 0 = k21 (k2c b n s) 0 := by
      unfold k2sq
      exact if_neg (by rw [show (k21 (k2c b n s) 0).1 = false from F.2.1]; decide)
    rw [e]
    exact Or.inr F
theorem Sre.ok {b : Nat → Int32} {n s : Nat} {T : Bool × Nat × List Cl2} {g : Rcf Cl2} {h0 : Hp_} {x : Int32} {h : Hp_} (F : Sre b n s T g h0 x h) (e : ¬ x = 0) : x = 1 ∧ (∃ C : List Cl2, T = k2pre C (g (xa h)) ∧ Cdx h0 h (rlX s 0 C)) ∧ Cbx b n h ∧ h_i h 11 3 = h_i h0 11 3 := by
  rcases F with F | F
  · exact F
  · exact absurd F.1 e
theorem Sre.n {b : Nat → Int32} {n s : Nat} {T : Bool × Nat × List Cl2} {g : Rcf Cl2} {h0 : Hp_} {x : Int32} {h : Hp_} (F : Sre b n s T g h0 x h) (e : x = 0) : Fre b n s T h0 0 h := by
  rcases F with F | F
  · rw [e] at F
    exact absurd F.1 (by decide)
  · exact Or.inr ⟨rfl, F.2⟩
theorem lre_0 {b : Nat → Int32} {n s : Nat} {T : Bool × Nat × List Cl2} {sp : Int32 → Bool} {op : Int32 → List Cl2} {f : Rcf Cl2} {h0 : Hp_} {x : Int32} {h : Hp_} (F : Sre b n s T (k2lp b n sp op f 0) h0 x h) : Fre b n s T h0 x h := by
  rcases F with ⟨e, ⟨C, e1, c⟩, _, e3⟩ | F
  · refine Or.inl ⟨e, by rw [e1]; rfl, by rw [e1]; rfl, e3, ?_⟩
    rw [e1]
    show Cdx h0 h (rlX s 0 (C ++ []))
    rw [List.append_nil]
    exact c
  · exact Or.inr F
theorem lre_x {b : Nat → Int32} {n s k : Nat} {T : Bool × Nat × List Cl2} {sp : Int32 → Bool} {op : Int32 → List Cl2} {f : Rcf Cl2} {h0 : Hp_} {x r : Int32} {h h5 : Hp_} (F : Sre b n s T (k2lp b n sp op f (k + 1)) h0 x h) (w : ¬ x = 0) (L : Pk b n h r h5) (ns : sp r = false) : Fre b n s T h0 x h5 := by
  obtain ⟨e, ⟨C, e1, c⟩, _, e3⟩ := F.ok w
  have e2 : k2lp b n sp op f (k + 1) (xa h) = (true, ska b n (xa h), []) := by
    unfold k2lp
    exact if_neg (by rw [← L.2.2.2, ns]; decide)
  rw [e2] at e1
  refine Or.inl ⟨e, by rw [e1]; rfl, by rw [e1, L.i, L.2.2.1]; rfl, by rw [(L.2.1.2 11 3 (by decide +kernel)).1]; exact e3, ?_⟩
  rw [e1]
  show Cdx h0 h5 (rlX s 0 (C ++ []))
  rw [List.append_nil]
  exact c.fr L.2.1 (by decide +kernel)
theorem lre_s {b : Nat → Int32} {n s k : Nat} {T : Bool × Nat × List Cl2} {sp : Int32 → Bool} {h0 : Hp_} {x r r9 : Int32} {h h6 h9 : Hp_} (x0 : xc h0 = 0) (F : Sre b n s T (k2lp b n sp (fun _ => []) (k21 (k2c b n s)) (k + 1)) h0 x h) (w : ¬ x = 0) (er : r = skv b n (xa h)) (ys : sp r = true) (e6 : h_i h6 11 3 = h_i h 11 3) (c6 : Cdx h h6 []) (a6 : xa h6 = ska b n (xa h) + 1) (G : Fce b n ((k2c b n s (xa h6)).1, (k2c b n s (xa h6)).2.1) (clX s (xc h6) (k2c b n s (xa h6)).2.2) h6 r9 h9) : Sre b n s T (k2lp b n sp (fun _ => []) (k21 (k2c b n s)) k) h0 r9 h9 := by
  obtain ⟨_, ⟨C, e1, c⟩, cb, e3⟩ := F.ok w
  have e2 : k2lp b n sp (fun _ => []) (k21 (k2c b n s)) (k + 1) (xa h) = if (k21 (k2c b n s) (ska b n (xa h) + 1)).1 = true then k2pre ((k21 (k2c b n s) (ska b n (xa h) + 1)).2.2 ++ []) (k2lp b n sp (fun _ => []) (k21 (k2c b n s)) k (k21 (k2c b n s) (ska b n (xa h) + 1)).2.1) else k21 (k2c b n s) (ska b n (xa h) + 1) := by
    show (if sp (skv b n (xa h)) = true then _ else _) = _
    rw [if_pos (by rw [← er]; exact ys)]
  rw [e2, List.append_nil] at e1
  have x6 : xc h6 = xc h := c6.1
  have xh : xc h = rlN C := by
    have z := c.1
    rw [rlX_l, x0, Nat.zero_add] at z
    exact z
  have gg := ska_ge (b := b) (n := n) (a := xa h6)
  rw [a6] at G
  rcases G with ⟨g1, g2, g3, g4, g5⟩ | ⟨g1, g2, g3⟩
  · have g2 : (k21 (k2c b n s) (ska b n (xa h) + 1)).1 = true := g2
    have g3 : ska b n (xa h9) = (k21 (k2c b n s) (ska b n (xa h) + 1)).2.1 := g3
    rw [if_pos g2, ← g3, Cne.lp k, k2pre_a] at e1
    refine Or.inl ⟨g1, ⟨_, e1, ?_⟩, ?_, (g4.trans e6).trans e3⟩
    · show Cdx h0 h9 (rlX s 0 (C ++ [(k2c b n s (ska b n (xa h) + 1)).2.2]))
      rw [rlX_a]
      have z := c.tr (c6.tr g5)
      rw [x6, xh] at z
      show Cdx h0 h9 (rlX s 0 C ++ (clX s (0 + rlN C) (k2c b n s (ska b n (xa h) + 1)).2.2 ++ []))
      rw [List.append_nil, Nat.zero_add]
      exact z
    · have z := g5.1
      rw [clX_l, x6] at z
      have q := Fwc.c (s := s) (ska b n (xa h) + 1) g2
      have p' : ska b n (xa h9) = (k2c b n s (ska b n (xa h) + 1)).2.1 := g3
      have g := ska_ge (b := b) (n := n) (a := ska b n (xa h) + 1)
      unfold Cbx at cb ⊢
      omega
  · have g2 : (k21 (k2c b n s) (ska b n (xa h) + 1)).1 = false := g2
    rw [if_neg (by rw [g2]; decide)] at e1
    refine Or.inr ⟨g1, by rw [e1]; exact g2, ?_⟩
    rw [e1]
    exact g3
/-- the code of a rule stands in the reader -/
def Crx (s : Nat) (C : List Cl2) (h : Hp_) : Prop := xc h = rlN C ∧ ∀ i v, (rlX s 0 C)[i]? = some v → h_i h 33 i = v
theorem c_rre {b : Nat → Int32} {n : Nat} (s : Nat) (hs : s = 1 ∨ s = 2) (d : Nat) {h : Hp_} (I : Iv h) (hb : h_i h 31 = b) (hn : xn h = n) (x1 : Int32) (hx : (x1 = 0 ∧ s = 2) ∨ (¬ x1 = 0 ∧ s = 1)) : Ci (m_X8_readRule (d + 80 + 60) 0 0) [.ref 11, .int x1] h (fun r h' => r = h_i h' 11 3 ∧ Iv h' ∧ Fr wzr h h' ∧ h_i h' 11 3 = enq b n (ruq b n (clq b n s)) ∧ (h_i h' 11 3 = -1 → (k2ru b n s 0).1 = true ∧ Crx s (k2ru b n s 0).2.2 h')) := by
  have pj := pj_ru (b := b) (n := n) hs 0
  have cl : ∀ (d : Nat) (h : Hp_), Iv h → Tx b n s h → Cbx b n h → (x1 = 0 → Ci (m_X8_readPayClause (d + 80 + 59) 0 0) [.ref 11] h (fun r h' => Xce b n ((k2c b n s (xa h)).1, (k2c b n s (xa h)).2.1) (clX s (xc h) (k2c b n s (xa h)).2.2) h r h')) ∧ (¬ x1 = 0 → Ci (m_X8_readActClause (d + 80 + 59) 0 0) [.ref 11] h (fun r h' => Xce b n ((k2c b n s (xa h)).1, (k2c b n s (xa h)).2.1) (clX s (xc h) (k2c b n s (xa h)).2.2) h r h')) := fun d h I t cb => by
    rcases hx with u | u
    · obtain ⟨u, v⟩ := u
      subst v
      exact ⟨fun _ => c_rpce d I t cb, fun y => absurd u y⟩
    · obtain ⟨u, v⟩ := u
      subst v
      exact ⟨fun y => absurd y u, fun _ => c_race d I t cb⟩
  have body : ∀ h0, Iv h0 → Fr wzr h h0 → Tx b n s h0 → xa h0 = 0 → xc h0 = 0 → h_i h0 11 3 = -1 → ∀ (k : Nat) (x2 x3 : Int32) (h2 : Hp_), x3.toInt + k = 160 → Iv h2 → Fr wzx h0 h2 → Sre b n s (k2ru b n s 0) (k2lp b n (isq 59) (fun _ => []) (k21 (k2c b n s)) k) h0 x2 h2 → AW (m_X8_readRule (d + 80 + 60) 0 0) 0 0 33 [(0, .ref 11), (1, .int x1), (2, .int x2), (3, .int x3)] [] h2 (kI (fun r h' => r = h_i h' 11 3 ∧ Iv h' ∧ Fr wzr h h' ∧ h_i h' 11 3 = enq b n (ruq b n (clq b n s)) ∧ (h_i h' 11 3 = -1 → (k2ru b n s 0).1 = true ∧ Crx s (k2ru b n s 0).2.2 h'))) := by
    intro h0 I0 F0 t0 a0 x0 w0
    have n160 : n ≤ 160 := by
      have a := xn_i I0
      rw [t0.2.1] at a
      have c := (x1_in I0).2
      omega
    have fin0 : ∀ h3, Iv h3 → Fr wzx h0 h3 → Fre b n s (k2ru b n s 0) h0 0 h3 → (h_i h3 11 3 = h_i h3 11 3 ∧ Iv h3 ∧ Fr wzr h h3 ∧ h_i h3 11 3 = enq b n (ruq b n (clq b n s)) ∧ (h_i h3 11 3 = -1 → (k2ru b n s 0).1 = true ∧ Crx s (k2ru b n s 0).2.2 h3)) := fun h3 I3 F3 G => by
      rcases G with G | G
      · exact absurd G.1 (by decide)
      · have e : h_i h3 11 3 = enq b n (ruq b n (clq b n s)) := by
          unfold enq
          rw [if_neg (by rw [← pj.1, G.2.1]; decide), ← pj.2]
          exact G.2.2
        refine ⟨rfl, I3, F0.tr (F3.more (by decide +kernel)), e, fun y => ?_⟩
        have p160 : (k2ru b n s 0).2.1 ≤ 160 := by
          have q := fault_le (b := b) (n := n) hs G.2.1
          omega
        exact absurd (G.2.2.symm.trans y) (on_mm p160)
    have fin1 : ∀ h3 x, Iv h3 → Fr wzx h0 h3 → ¬ x = 0 → Fre b n s (k2ru b n s 0) h0 x h3 → Ci (m_X8_peek (d + 80 + 0) 0 0) [.ref 11] h3 (fun r26 h24 => Wf h24 ∧ ((r26 = (-1) → (h_i h24 11 3 = h_i h24 11 3 ∧ Iv h24 ∧ Fr wzr h h24 ∧ h_i h24 11 3 = enq b n (ruq b n (clq b n s)) ∧ (h_i h24 11 3 = -1 → (k2ru b n s 0).1 = true ∧ Crx s (k2ru b n s 0).2.2 h24))) ∧ (¬ r26 = (-1) → Ci (m_X8_fail (d + 80 + 0) 0 0) [.ref 11] h24 (fun r30 h28 => Wf h28 ∧ (h_i h28 11 3 = h_i h28 11 3 ∧ Iv h28 ∧ Fr wzr h h28 ∧ h_i h28 11 3 = enq b n (ruq b n (clq b n s)) ∧ (h_i h28 11 3 = -1 → (k2ru b n s 0).1 = true ∧ Crx s (k2ru b n s 0).2.2 h28)))))) := fun h3 x I3 F3 nx G => by
      have ok : (k2ru b n s 0).1 = true ∧ ska b n (xa h3) = (k2ru b n s 0).2.1 ∧ h_i h3 11 3 = h_i h0 11 3 ∧ Cdx h0 h3 (rlX s 0 (k2ru b n s 0).2.2) := by
        rcases G with G | G
        · exact G.2
        · exact absurd G.1 nx
      have t3 : Tx b n s h3 := t0.fr F3 (by decide +kernel)
      have y1 : (ruq b n (clq b n s) 0).1 = true := by rw [← pj.1]; exact ok.1
      have y2 : ska b n (xa h3) = (ruq b n (clq b n s) 0).2 := by rw [← pj.2]; exact ok.2.1
      refine Ci.mono (c_pk (d + 80) I3 t3) (fun r h5 L => ⟨L.1.1, fun em => ⟨rfl, L.1, F0.tr ((F3.tr (L.2.1.more (by decide +kernel))).more (by decide +kernel)), ?_, fun _ => ⟨ok.1, ?_⟩⟩, fun nm => Ci.mono (c_fl (d + 80) L.1) (fun r2 h6 k => ⟨k.2.1.1, rfl, k.2.1, F0.tr ((F3.tr ((L.2.1.more (by decide +kernel)).tr (k.2.2.1.more (by decide +kernel)))).more (by decide +kernel)), ?_, fun y => ?_⟩)⟩)
      · have nl := ska_0 (L.2.2.2.symm.trans em) (fun k _ => b_nm I0 t0 k)
        unfold enq
        rw [if_pos y1, ← y2, if_neg nl, fw3 L.2.1 (by decide +kernel), ok.2.2.1]
        exact w0
      · have z := ok.2.2.2.fr L.2.1 (by decide +kernel)
        have z1 := z.1
        rw [rlX_l, x0, Nat.zero_add] at z1
        refine ⟨z1, fun i v e => ?_⟩
        have q := z.2.2 i v e
        rw [x0, Nat.zero_add] at q
        exact q
      · have l := skv_l (by rw [← L.2.2.2]; exact nm)
        unfold enq
        rw [if_pos y1, ← y2, if_pos l, k.2.2.2, L.2.2.1]
      · have l : ska b n (xa h3) < n := skv_l (by rw [← L.2.2.2]; exact nm)
        rw [k.2.2.2, L.2.2.1] at y
        exact absurd y (on_mm (by omega))
    intro k
    induction k with
    | zero =>
      intro x2 x3 h2 m I2 F2 S
      refine t_X8_readRule_33 (d + 80) h2 I2.1 x1 x2 x3 _ ⟨fun _ => ⟨fun y0 => fin0 h2 I2 F2 (S.n y0), fun y1 => fin1 h2 x2 I2 F2 y1 (lre_0 S)⟩, fun z => absurd ((x160 m).1 rfl) z⟩
    | succ k ih =>
      intro x2 x3 h2 m I2 F2 S
      have t2 : Tx b n s h2 := t0.fr F2 (by decide +kernel)
      refine t_X8_readRule_33 (d + 80) h2 I2.1 x1 x2 x3 _ ⟨fun z => absurd z ((x160 m).2 (by omega)), fun _ => ⟨fun y0 => ⟨fun _ => fin0 h2 I2 F2 (S.n y0), fun y1 => absurd y0 y1⟩, fun y1 => Ci.mono (c_pk (d + 80) I2 t2) (fun r h5 L => ⟨L.1.1, fun nr => ⟨fun y0 => absurd y0 y1, fun _ => fin1 h5 x2 L.1 (F2.tr (L.2.1.more (by decide +kernel))) y1 (lre_x S y1 L (decide_eq_false nr))⟩, fun er => ?_⟩)⟩⟩
      obtain ⟨I6, F6, a6⟩ := nxx I2 t2 L (by rw [er]; decide)
      have C := cl d _ I6 (t2.fr F6 (by decide +kernel)) ((S.ok y1).2.2.1.nx F6 a6)
      have go : ∀ r15 h13, Xce b n ((k2c b n s (xa (h_im h5 11 2 ((h_i h5 11 2) + 1)))).1, (k2c b n s (xa (h_im h5 11 2 ((h_i h5 11 2) + 1)))).2.1) (clX s (xc (h_im h5 11 2 ((h_i h5 11 2) + 1))) (k2c b n s (xa (h_im h5 11 2 ((h_i h5 11 2) + 1)))).2.2) (h_im h5 11 2 ((h_i h5 11 2) + 1)) r15 h13 → Wf h13 ∧ AW (m_X8_readRule (d + 80 + 60) 0 0) 0 0 33 [(0, .ref 11), (1, .int x1), (2, .int r15), (3, .int (x3 + 1))] [] h13 (kI (fun r h' => r = h_i h' 11 3 ∧ Iv h' ∧ Fr wzr h h' ∧ h_i h' 11 3 = enq b n (ruq b n (clq b n s)) ∧ (h_i h' 11 3 = -1 → (k2ru b n s 0).1 = true ∧ Crx s (k2ru b n s 0).2.2 h'))) := fun r15 h13 X => ⟨X.1.1, ih r15 (x3 + 1) h13 (x161 m) X.1 (F2.tr ((F6.more (by decide +kernel)).tr X.2.1)) (lre_s x0 S y1 L.2.2.2 (decide_eq_true er) (fw3 F6 (by decide +kernel)) (Cdx.f0 F6 (by decide +kernel)) a6 X.2.2)⟩
      exact ⟨fun y => Ci.mono (C.1 y) go, fun y => Ci.mono (C.2 y) go⟩
  have st : ∀ i, i = s → Cv (m_X8_restart (d + 80 + 0) 0 0) [.ref 11, .ref (1000 + i)] h (fun h2 => Wf h2 ∧ ((x1 = 0 → Ci (m_X8_readPayClause (d + 80 + 59) 0 0) [.ref 11] h2 (fun r8 h6 => Wf h6 ∧ (AW (m_X8_readRule (d + 80 + 60) 0 0) 0 0 33 [(0, .ref 11), (1, .int x1), (2, .int r8), (3, .int 0)] [] h6 (kI (fun r h' => r = h_i h' 11 3 ∧ Iv h' ∧ Fr wzr h h' ∧ h_i h' 11 3 = enq b n (ruq b n (clq b n s)) ∧ (h_i h' 11 3 = -1 → (k2ru b n s 0).1 = true ∧ Crx s (k2ru b n s 0).2.2 h')))))) ∧ (¬ x1 = 0 → Ci (m_X8_readActClause (d + 80 + 59) 0 0) [.ref 11] h2 (fun r11 h9 => Wf h9 ∧ (AW (m_X8_readRule (d + 80 + 60) 0 0) 0 0 33 [(0, .ref 11), (1, .int x1), (2, .int r11), (3, .int 0)] [] h9 (kI (fun r h' => r = h_i h' 11 3 ∧ Iv h' ∧ Fr wzr h h' ∧ h_i h' 11 3 = enq b n (ruq b n (clq b n s)) ∧ (h_i h' 11 3 = -1 → (k2ru b n s 0).1 = true ∧ Crx s (k2ru b n s 0).2.2 h')))))))) := fun i ei => by
    subst ei
    refine Cv.mono (c_rst (d + 80) I i (by omega)) (fun h2 k => ?_)
    have t2 : Tx b n i h2 := ⟨(funext (fun j => fr_i k.2.1 (by decide +kernel) j)).trans hb, by show (h_i h2 11 1).toNatClampNeg = n; rw [(k.2.1.2 11 1 (by decide +kernel)).1]; exact hn, k.2.2.2.2.1⟩
    have a2 : xa h2 = 0 := by
      show (h_i h2 11 2).toNatClampNeg = 0
      rw [k.2.2.1]
      rfl
    have x2 : xc h2 = 0 := by
      show (h_i h2 11 9).toNatClampNeg = 0
      rw [k.2.2.2.2.2.2.2]
      rfl
    have F2 : Fr wzr h h2 := k.2.1.more (by decide +kernel)
    have C := cl d h2 k.1 t2 (by unfold Cbx; omega)
    have go : ∀ r8 h6, Xce b n ((k2c b n i (xa h2)).1, (k2c b n i (xa h2)).2.1) (clX i (xc h2) (k2c b n i (xa h2)).2.2) h2 r8 h6 → Wf h6 ∧ AW (m_X8_readRule (d + 80 + 60) 0 0) 0 0 33 [(0, .ref 11), (1, .int x1), (2, .int r8), (3, .int 0)] [] h6 (kI (fun r h' => r = h_i h' 11 3 ∧ Iv h' ∧ Fr wzr h h' ∧ h_i h' 11 3 = enq b n (ruq b n (clq b n i)) ∧ (h_i h' 11 3 = -1 → (k2ru b n i 0).1 = true ∧ Crx i (k2ru b n i 0).2.2 h'))) := fun r8 h6 X => ⟨X.1.1, body h2 k.1 F2 t2 a2 x2 k.2.2.2.1 160 r8 0 h6 (by decide) X.1 X.2.1 (sre_1 (Cne.lp 160) a2 x2 X.2.2)⟩
    exact ⟨k.1.1, fun y => Ci.mono (C.1 y) go, fun y => Ci.mono (C.2 y) go⟩
  refine t_X8_readRule (d + 80) h I.1 x1 _ ⟨fun y => ?_, fun y => ?_⟩
  · refine st 2 ?_
    rcases hx with u | u
    · exact u.2.symm
    · exact absurd y u.1
  · refine st 1 ?_
    rcases hx with u | u
    · exact absurd u.1 y
    · exact u.2.symm
end
section
/-! the reference's reader, with what it puts down -/
def opm (o : Int32) : Int32 := if o = 2 then 33 else if o = 5 then 43 else if o = 6 then 45 else if o = 7 then 42 else if o = 8 then 61 else if o = 9 then 60 else if o = 10 then 62 else if o = 11 then 38 else 124
def tkm (t : Tk2) : List Int32 := if t.1 = 0 then [0, t.2] else if t.1 = 1 then [1, t.2] else [opm t.1]
theorem fm_1 (E : List Tk2) (t : Tk2) : (E ++ [t]).flatMap tkm = E.flatMap tkm ++ tkm t := by
  rw [List.flatMap_append]
  simp
theorem fm_a (E F : List Tk2) : (E ++ F).flatMap tkm = E.flatMap tkm ++ F.flatMap tkm := List.flatMap_append
def Cdm (h0 h : Hp_) (E : List Int32) : Prop := sN h = sN h0 + E.length ∧ (∀ k, k < sN h0 → h_i h 226 k = h_i h0 226 k) ∧ ∀ i v, E[i]? = some v → h_i h 226 (sN h0 + i) = v
theorem Cdm.rf (h : Hp_) : Cdm h h [] := ⟨rfl, fun _ _ => rfl, fun i v e => by cases e⟩
theorem Cdm.tr {h0 h1 h2 : Hp_} {E F : List Int32} (a : Cdm h0 h1 E) (c : Cdm h1 h2 F) : Cdm h0 h2 (E ++ F) := by
  refine ⟨by rw [c.1, a.1, List.length_append]; omega, fun k hk => (c.2.1 k (by rw [a.1]; omega)).trans (a.2.1 k hk), fun i v e => ?_⟩
  by_cases l : i < E.length
  · rw [List.getElem?_append_left l] at e
    rw [c.2.1 _ (by rw [a.1]; omega)]
    exact a.2.2 i v e
  · rw [List.getElem?_append_right (by omega)] at e
    have z := c.2.2 _ v e
    rw [a.1, show sN h0 + E.length + (i - E.length) = sN h0 + i by omega] at z
    exact z
theorem Cdm.fr {h0 h h' : Hp_} {E : List Int32} {ws : List Nat} (a : Cdm h0 h E) (f : Fr ws h h') (o : (off ws 226 && !inw ws 1 36) = true) : Cdm h0 h' E := by
  rw [Bool.and_eq_true, Bool.not_eq_true'] at o
  refine ⟨?_, fun k hk => (fr_i f o.1 k).trans (a.2.1 k hk), fun i v e => (fr_i f o.1 _).trans (a.2.2 i v e)⟩
  show (h_i h' 1 36).toNatClampNeg = _
  rw [(f.2 1 36 o.2).1]
  exact a.1
theorem Cdm.f0 {h h' : Hp_} {ws : List Nat} (f : Fr ws h h') (o : (off ws 226 && !inw ws 1 36) = true) : Cdm h h' [] := (Cdm.rf h).fr f o
theorem Cdm.say {h h' : Hp_} {x : Int32} (I : Iv h) (S : Iv h' ∧ Fr [1036, 226999] h h' ∧ (h_i h' 1 36).toInt = (h_i h 1 36).toInt + 1 ∧ h_i h' 226 (h_i h 1 36).toNatClampNeg = x ∧ ∀ k, k ≠ (h_i h 1 36).toNatClampNeg → h_i h' 226 k = h_i h 226 k) : Cdm h h' [x] := by
  have n0 := sN_i I
  have n1 := sN_i S.1
  have e : ps h' = ps h + 1 := S.2.2.1
  refine ⟨by show sN h' = sN h + 1; omega, fun k hk => S.2.2.2.2 k (by show k ≠ sN h; omega), fun i v e => ?_⟩
  cases i with
  | zero =>
    have e : some x = some v := e
    rw [← Option.some.inj e]
    exact S.2.2.2.1
  | succ i => cases e
def Fte (b : Nat → Int32) (n : Nat) (T : Bool × Nat × List Tk2) (h0 h : Hp_) : Prop := (h_i h 1 34 = -1 ∧ T.1 = true ∧ ska b n (ta h) = T.2.1 ∧ Cdm h0 h (T.2.2.flatMap tkm)) ∨ (¬ h_i h 1 34 = -1 ∧ T.1 = false ∧ h_i h 1 34 = Int32.ofNat T.2.1)
theorem Fte.fr {b : Nat → Int32} {n : Nat} {T : Bool × Nat × List Tk2} {ws : List Nat} {h0 h h' : Hp_} (F : Fte b n T h0 h) (f : Fr ws h h') (o : (!inw ws 1 34 && !inw ws 1 33) = true) (o2 : (off ws 226 && !inw ws 1 36) = true) : Fte b n T h0 h' := by
  rw [Bool.and_eq_true, Bool.not_eq_true', Bool.not_eq_true'] at o
  have e4 : h_i h' 1 34 = h_i h 1 34 := (f.2 1 34 o.1).1
  have e3 : ta h' = ta h := by
    show (h_i h' 1 33).toNatClampNeg = _
    rw [(f.2 1 33 o.2).1]
  rcases F with F | F
  · exact Or.inl ⟨by rw [e4]; exact F.1, F.2.1, by rw [e3]; exact F.2.2.1, F.2.2.2.fr f o2⟩
  · exact Or.inr ⟨by rw [e4]; exact F.1, F.2.1, by rw [e4]; exact F.2.2⟩
theorem Fte.ok {b : Nat → Int32} {n : Nat} {T : Bool × Nat × List Tk2} {h0 h : Hp_} (F : Fte b n T h0 h) (w : h_i h 1 34 = -1) : T.1 = true ∧ ska b n (ta h) = T.2.1 ∧ Cdm h0 h (T.2.2.flatMap tkm) := by
  rcases F with F | F
  · exact F.2
  · exact absurd w F.1
theorem Fte.no {b : Nat → Int32} {n : Nat} {T : Bool × Nat × List Tk2} {h0 h : Hp_} (F : Fte b n T h0 h) (w : ¬ h_i h 1 34 = -1) : T.1 = false ∧ h_i h 1 34 = Int32.ofNat T.2.1 := by
  rcases F with F | F
  · exact absurd F.1 w
  · exact F.2
theorem Fte.wr {b : Nat → Int32} {n : Nat} {T : Bool × Nat × List Tk2} {h0 h1 h h' : Hp_} (F : Fte b n T h0 h) (w : ¬ h_i h 1 34 = -1) (e : h_i h' 1 34 = h_i h 1 34) : Fte b n T h1 h' := Or.inr ⟨by rw [e]; exact w, (F.no w).1, by rw [e]; exact (F.no w).2⟩
theorem Fte.b {b : Nat → Int32} {n : Nat} {T : Bool × Nat × List Tk2} {h0 h1 h : Hp_} (F : Fte b n T h0 h) (c : Cdm h1 h0 []) : Fte b n T h1 h := by
  rcases F with F | F
  · exact Or.inl ⟨F.1, F.2.1, F.2.2.1, c.tr F.2.2.2⟩
  · exact Or.inr F
theorem Fte.lk {b : Nat → Int32} {n : Nat} {T : Bool × Nat × List Tk2} {h0 h h' : Hp_} {r : Int32} (F : Fte b n T h0 h) (L : Lkf b n h r h') : Fte b n T h0 h' := by
  have e4 : h_i h' 1 34 = h_i h 1 34 := (L.1.2.1.2 1 34 (by decide +kernel)).1
  rcases F with F | F
  · exact Or.inl ⟨by rw [e4]; exact F.1, F.2.1, by rw [L.i, L.2.1]; exact F.2.2.1, F.2.2.2.fr L.1.2.1 (by decide +kernel)⟩
  · exact Or.inr ⟨by rw [e4]; exact F.1, F.2.1, by rw [e4]; exact F.2.2⟩
/-- a token of one sign more -/
theorem Fte.sy {b : Nat → Int32} {n : Nat} {T : Bool × Nat × List Tk2} {h0 h h' : Hp_} {x : Int32} (F : Fte b n T h0 h) (I : Iv h) (S : Iv h' ∧ Fr [1036, 226999] h h' ∧ (h_i h' 1 36).toInt = (h_i h 1 36).toInt + 1 ∧ h_i h' 226 (h_i h 1 36).toNatClampNeg = x ∧ ∀ k, k ≠ (h_i h 1 36).toNatClampNeg → h_i h' 226 k = h_i h 226 k) (t : Tk2) (e : tkm t = [x]) : Fte b n (k2app T [t]) h0 h' := by
  have e4 : h_i h' 1 34 = h_i h 1 34 := (S.2.1.2 1 34 (by decide +kernel)).1
  have e3 : ta h' = ta h := by
    show (h_i h' 1 33).toNatClampNeg = _
    rw [(S.2.1.2 1 33 (by decide +kernel)).1]
  rcases F with F | F
  · refine Or.inl ⟨by rw [e4]; exact F.1, F.2.1, by rw [e3]; exact F.2.2.1, ?_⟩
    show Cdm h0 h' ((T.2.2 ++ [t]).flatMap tkm)
    rw [fm_1, e]
    exact F.2.2.2.tr (Cdm.say I S)
  · exact Or.inr ⟨by rw [e4]; exact F.1, F.2.1, by rw [e4]; exact F.2.2⟩
/-- a token of two numbers more -/
theorem Fte.sz {b : Nat → Int32} {n : Nat} {T : Bool × Nat × List Tk2} {h0 h h1 h' : Hp_} {x y : Int32} (F : Fte b n T h0 h) (I : Iv h) (S : Iv h1 ∧ Fr [1036, 226999] h h1 ∧ (h_i h1 1 36).toInt = (h_i h 1 36).toInt + 1 ∧ h_i h1 226 (h_i h 1 36).toNatClampNeg = x ∧ ∀ k, k ≠ (h_i h 1 36).toNatClampNeg → h_i h1 226 k = h_i h 226 k) (S' : Iv h' ∧ Fr [1036, 226999] h1 h' ∧ (h_i h' 1 36).toInt = (h_i h1 1 36).toInt + 1 ∧ h_i h' 226 (h_i h1 1 36).toNatClampNeg = y ∧ ∀ k, k ≠ (h_i h1 1 36).toNatClampNeg → h_i h' 226 k = h_i h1 226 k) (t : Tk2) (e : T.1 = true → tkm t = [x, y]) : Fte b n (k2app T [t]) h0 h' := by
  have f := S.2.1.tr S'.2.1
  have e4 : h_i h' 1 34 = h_i h 1 34 := (f.2 1 34 (by decide +kernel)).1
  have e3 : ta h' = ta h := by
    show (h_i h' 1 33).toNatClampNeg = _
    rw [(f.2 1 33 (by decide +kernel)).1]
  rcases F with F | F
  · refine Or.inl ⟨by rw [e4]; exact F.1, F.2.1, by rw [e3]; exact F.2.2.1, ?_⟩
    show Cdm h0 h' ((T.2.2 ++ [t]).flatMap tkm)
    rw [fm_1, e F.2.1]
    exact F.2.2.2.tr ((Cdm.say I S).tr (Cdm.say S.1 S'))
  · exact Or.inr ⟨by rw [e4]; exact F.1, F.2.1, by rw [e4]; exact F.2.2⟩
def Rdg (b : Nat → Int32) (n s : Nat) (D : Int) (S : Rce) (C : Nat → Hp_ → (Hp_ → Prop) → Prop) : Prop := ∀ (d : Nat) (h : Hp_), Iv h → Pq h → pd h = D → h_i h 1 37 = Int32.ofNat s → Tp b n h → C d h (fun h' => Pe s h h' ∧ Fte b n (S (ta h)) h h')
def Sfe (b : Nat → Int32) (n : Nat) (T : Bool × Nat × List Tk2) (g : Rce) (h0 h : Hp_) : Prop := (h_i h 1 34 = -1 → ∃ E : List Tk2, T = k2pre E (g (ta h)) ∧ Cdm h0 h (E.flatMap tkm)) ∧ (¬ h_i h 1 34 = -1 → Fte b n T h0 h)
theorem Sfe.lk {b : Nat → Int32} {n : Nat} {T : Bool × Nat × List Tk2} {g : Rce} {h0 h h' : Hp_} {r : Int32} (F : Sfe b n T g h0 h) (c : Cne b n g) (L : Lkf b n h r h') : Sfe b n T g h0 h' := by
  have e4 : h_i h' 1 34 = h_i h 1 34 := (L.1.2.1.2 1 34 (by decide +kernel)).1
  refine ⟨fun w => ?_, fun w => ?_⟩
  · rw [e4] at w
    obtain ⟨E, e, k⟩ := F.1 w
    exact ⟨E, by rw [L.2.1, c]; exact e, k.fr L.1.2.1 (by decide +kernel)⟩
  · rw [e4] at w
    exact (F.2 w).lk L
theorem sqg {b : Nat → Int32} {n : Nat} {f g : Rce} {a : Nat} {h0 h : Hp_} (c : Cne b n g) (F : Fte b n (f a) h0 h) : Sfe b n (k2sq f g a) g h0 h := by
  refine ⟨fun w => ?_, fun w => ?_⟩
  · have k := F.ok w
    refine ⟨(f a).2.2, ?_, k.2.2⟩
    unfold k2sq
    rw [if_pos k.1, ← k.2.1, c]
  · have k := F.no w
    have e : k2sq f g a = f a := by
      unfold k2sq
      exact if_neg (by rw [k.1]; decide)
    rw [e]
    exact F
theorem Sfe.ft {b : Nat → Int32} {n : Nat} {T : Bool × Nat × List Tk2} {g : Rce} {h0 h h2 : Hp_} (F : Sfe b n T g h0 h) (w : h_i h 1 34 = -1) (G : Fte b n (g (ta h)) h h2) : Fte b n T h0 h2 := by
  obtain ⟨E, e, k⟩ := F.1 w
  rw [e]
  rcases G with G | G
  · refine Or.inl ⟨G.1, G.2.1, G.2.2.1, ?_⟩
    show Cdm h0 h2 ((E ++ (g (ta h)).2.2).flatMap tkm)
    rw [fm_a]
    exact k.tr G.2.2.2
  · exact Or.inr G
theorem Sfe.sq {b : Nat → Int32} {n : Nat} {T : Bool × Nat × List Tk2} {f g : Rce} {h0 h h2 : Hp_} (F : Sfe b n T (k2sq f g) h0 h) (w : h_i h 1 34 = -1) (c : Cne b n g) (G : Fte b n (f (ta h)) h h2) : Sfe b n T g h0 h2 := by
  obtain ⟨E, e, k⟩ := F.1 w
  have z := sqg (f := f) c G
  refine ⟨fun w2 => ?_, fun w2 => ?_⟩
  · obtain ⟨E2, e2, k2⟩ := z.1 w2
    exact ⟨E ++ E2, by rw [e, e2, k2pre_a], by rw [fm_a]; exact k.tr k2⟩
  · have q := (z.2 w2).no w2
    rw [e]
    exact Or.inr ⟨w2, q.1, q.2⟩
theorem lp0e {b : Nat → Int32} {n : Nat} {T : Bool × Nat × List Tk2} {sp : Int32 → Bool} {op : Int32 → List Tk2} {f : Rce} {h0 h h5 : Hp_} {r : Int32} (F : Sfe b n T (k2lp b n sp op f 0) h0 h) (w : h_i h 1 34 = -1) (L : Lkf b n h r h5) : Fte b n T h0 h5 := by
  have e4 : h_i h5 1 34 = h_i h 1 34 := (L.1.2.1.2 1 34 (by decide +kernel)).1
  obtain ⟨E, e, k⟩ := F.1 w
  rw [e]
  refine Or.inl ⟨by rw [e4]; exact w, rfl, by rw [L.i, L.2.1]; rfl, ?_⟩
  show Cdm h0 h5 ((E ++ []).flatMap tkm)
  rw [List.append_nil]
  exact k.fr L.1.2.1 (by decide +kernel)
theorem lpxe {b : Nat → Int32} {n k : Nat} {T : Bool × Nat × List Tk2} {sp : Int32 → Bool} {op : Int32 → List Tk2} {f : Rce} {h0 h h5 : Hp_} {r : Int32} (F : Sfe b n T (k2lp b n sp op f (k + 1)) h0 h) (w : h_i h 1 34 = -1) (L : Lkf b n h r h5) (ns : sp r = false) : Fte b n T h0 h5 := by
  have e4 : h_i h5 1 34 = h_i h 1 34 := (L.1.2.1.2 1 34 (by decide +kernel)).1
  obtain ⟨E, e, c⟩ := F.1 w
  have e2 : k2lp b n sp op f (k + 1) (ta h) = (true, ska b n (ta h), []) := by
    unfold k2lp
    exact if_neg (by rw [← L.2.2, ns]; decide)
  rw [e, e2]
  refine Or.inl ⟨by rw [e4]; exact w, rfl, by rw [L.i, L.2.1]; rfl, ?_⟩
  show Cdm h0 h5 ((E ++ []).flatMap tkm)
  rw [List.append_nil]
  exact c.fr L.1.2.1 (by decide +kernel)
theorem lpse {b : Nat → Int32} {n k : Nat} {T : Bool × Nat × List Tk2} {sp : Int32 → Bool} {op : Int32 → List Tk2} {f : Rce} {h0 h h6 h9 : Hp_} {r : Int32} (F : Sfe b n T (k2lp b n sp op f (k + 1)) h0 h) (w : h_i h 1 34 = -1) (er : r = skv b n (ta h)) (ys : sp r = true) (c6 : Cdm h h6 []) (G : Fte b n (k2app (f (ska b n (ta h) + 1)) (op r)) h6 h9) : Sfe b n T (k2lp b n sp op f k) h0 h9 := by
  obtain ⟨E, e, c⟩ := F.1 w
  have e2 : k2lp b n sp op f (k + 1) (ta h) = if (f (ska b n (ta h) + 1)).1 = true then k2pre ((f (ska b n (ta h) + 1)).2.2 ++ op r) (k2lp b n sp op f k (f (ska b n (ta h) + 1)).2.1) else f (ska b n (ta h) + 1) := by
    rw [er]
    show (if sp (skv b n (ta h)) = true then _ else _) = _
    rw [if_pos (by rw [← er]; exact ys)]
  rw [e2] at e
  rcases G with ⟨g1, g2, g3, g4⟩ | ⟨g1, g2, g3⟩
  · have g2 : (f (ska b n (ta h) + 1)).1 = true := g2
    have g3 : ska b n (ta h9) = (f (ska b n (ta h) + 1)).2.1 := g3
    rw [if_pos g2, ← g3, Cne.lp k, k2pre_a] at e
    refine ⟨fun _ => ⟨_, e, ?_⟩, fun y => absurd g1 y⟩
    rw [fm_a]
    exact c.tr (c6.tr g4)
  · have g2 : (f (ska b n (ta h) + 1)).1 = false := g2
    rw [if_neg (by rw [g2]; decide)] at e
    refine ⟨fun y => absurd y g1, fun _ => Or.inr ⟨g1, by rw [e]; exact g2, ?_⟩⟩
    rw [e]
    exact g3
/-! the reference: sums and comparisons, with what they put down -/
theorem c_termg {b : Nat → Int32} {n : Nat} (s e : Nat) (D : Int) (f : Rce) (A : Rdg b n s D f (fun d h K => Cv (m_X12_atom (d + e + 51) 0 0) [.ref 1] h K)) : Rdg b n s D (k2tm b n f) (fun d h K => Cv (m_X12_term (d + e + 52) 0 0) [.ref 1] h K) := by
  intro d h I q eD es t
  have z1 : pz h ≤ 160 := (pz_in I).2
  have lp : ∀ (k : Nat) (h2 : Hp_), Pe s h h2 → Sfe b n (k2tm b n f (ta h)) (k2lp b n (isq 42) (fun _ => [(7, 0)]) f k) h h2 → pz h - pa h2 ≤ k → AW (m_X12_term (d + e + 52) 0 0) 0 0 4 [(0, .ref 1)] [] h2 (kV (fun h' => Pe s h h' ∧ Fte b n (k2tm b n f (ta h)) h h')) := by
    intro k
    induction k with
    | zero =>
      intro h2 P F m
      refine t_X12_term_4 (d + e) h2 P.1.1 _ ⟨fun w => ⟨P, F.2 w⟩, fun w => Ci.mono (c_lookf (d + e) P.1 (P.tp t)) (fun r h5 L => ⟨L.1.1.1, fun _ => ⟨P.lk I L.1, lp0e F w L⟩, fun er => ?_⟩)⟩
      have z2 := zf P.2.1 (by decide +kernel)
      have l3 := L.1.2.2.1
      rcases L.1.2.2.2.2 with u | u
      · rw [er] at u; exact absurd u.1 (by decide)
      · have := u.1
        omega
    | succ k ih =>
      intro h2 P F m
      refine t_X12_term_4 (d + e) h2 P.1.1 _ ⟨fun w => ⟨P, F.2 w⟩, fun w => Ci.mono (c_lookf (d + e) P.1 (P.tp t)) (fun r h5 L => ⟨L.1.1.1, fun nr => ⟨P.lk I L.1, lpxe F w L (decide_eq_false nr)⟩, fun er => ?_⟩)⟩
      have P5 := P.lk I L.1
      have w5 : h_i h5 1 34 = -1 := by rw [(L.1.2.1.2 1 34 (by decide +kernel)).1]; exact w
      have z2 := zf P.2.1 (by decide +kernel)
      have l3 := L.1.2.2.1
      have l5 : pa h5 < pz h := by
        rcases L.1.2.2.2.2 with u | u
        · rw [er] at u; exact absurd u.1 (by decide)
        · have := u.1
          omega
      obtain ⟨I6, F6, a6, q6, d6, s6⟩ := P5.nx I q w5 l5
      refine Cv.mono (A d _ I6 q6 (by omega) (by rw [s6]; exact es) ((P5.tp t).fr F6 (by decide +kernel))) (fun h9 Q => ⟨Q.1.1.1, Cv.mono (c_say (d + e) Q.1.1 42 (Q.1.room I6 q6)) (fun h12 S => ?_)⟩)
      have P12 := P5.op w5 I I6 F6 (by omega) Q.1 S (by decide)
      have e33 : pa h12 = pa h9 := by show (h_i h12 1 33).toInt = _; rw [(S.2.1.2 1 33 (by decide +kernel)).1]
      have q4 := Q.1.2.2.2.1
      have G := Q.2.sy Q.1.1 S (7, 0) rfl
      rw [nxa L I6 a6] at G
      exact ⟨S.1.1, ih h12 P12 (lpse F w L.2.2 (decide_eq_true er) (Cdm.f0 (L.1.2.1.tr F6) (by decide +kernel)) G) (by omega)⟩
  refine t_X12_term (d + e) h I.1 _ (Cv.mono (A d h I q eD es t) (fun h1 P => ⟨P.1.1.1, lp 160 h1 P.1 (sqg (f := f) (Cne.lp 160) P.2) ?_⟩))
  have a1 : 0 ≤ pa h1 := (pa_in P.1.1).1
  omega
theorem c_sumg {b : Nat → Int32} {n : Nat} (s e : Nat) (D : Int) (f : Rce) (A : Rdg b n s D (k2tm b n f) (fun d h K => Cv (m_X12_term (d + e + 52) 0 0) [.ref 1] h K)) : Rdg b n s D (k2sm b n f) (fun d h K => Cv (m_X12_sum (d + e + 53) 0 0) [.ref 1] h K) := by
  intro d h I q eD es t
  have z1 : pz h ≤ 160 := (pz_in I).2
  have ni := tn_i I
  rw [t.2] at ni
  have lp : ∀ (k : Nat) (x1 : Int32) (h4 : Hp_), Pe s h h4 → Sfe b n (k2sm b n f (ta h)) (k2lp b n pmb pmo (k2tm b n f) k) h h4 → (x1 = skv b n (ta h4) ∧ ska b n (ta h4) = ta h4) → (x1 = -1 ∨ pa h4 < pz h) → pz h - pa h4 ≤ k → AW (m_X12_sum (d + e + 53) 0 0) 0 0 9 [(0, .ref 1), (1, .int x1)] [] h4 (kV (fun h' => Pe s h h' ∧ Fte b n (k2sm b n f (ta h)) h h')) := by
    intro k
    induction k with
    | zero =>
      intro x1 h4 P F er c m
      have fin : h_i h4 1 34 = -1 → Fte b n (k2sm b n f (ta h)) h h4 := fun w => by
        obtain ⟨E, e, c⟩ := F.1 w
        rw [e]
        refine Or.inl ⟨w, rfl, rfl, ?_⟩
        show Cdm h h4 ((E ++ []).flatMap tkm)
        rw [List.append_nil]
        exact c
      refine t_X12_sum_9 (d + e) h4 P.1.1 x1 _ ⟨fun w => ⟨P, F.2 w⟩, fun w => ⟨fun e1 => ?_, fun _ => ⟨fun _ => ⟨P, fin w⟩, fun e1 => ?_⟩⟩⟩
      · rcases c with u | u
        · rw [e1] at u; exact absurd u (by decide)
        · omega
      · rcases c with u | u
        · rw [e1] at u; exact absurd u (by decide)
        · omega
    | succ k ih =>
      intro x1 h4 P F er c m
      have go : h_i h4 1 34 = -1 → pmb x1 = true → (∃ o, pmo x1 = [(o, 0)] ∧ tkm (o, 0) = [x1]) → opc x1 = true → ¬ x1 = -1 → Cv (m_X12_term (d + e + 52) 0 0) [.ref 1] (h_im h4 1 33 ((h_i h4 1 33) + 1)) (fun h9 => Wf h9 ∧ (Cv (m_X12_say (d + e + 0) 0 0) [.ref 1, .int x1] h9 (fun h12 => Wf h12 ∧ (Ci (m_X12_look (d + e + 0) 0 0) [.ref 1] h12 (fun r17 h15 => Wf h15 ∧ (AW (m_X12_sum (d + e + 53) 0 0) 0 0 9 [(0, .ref 1), (1, .int r17)] [] h15 (kV (fun h' => Pe s h h' ∧ Fte b n (k2sm b n f (ta h)) h h')))))))) := by
        intro w hp hm ho hn
        have l5 : pa h4 < pz h := by
          rcases c with u | u
          · exact absurd u hn
          · exact u
        obtain ⟨I6, F6, a6, q6, d6, s6⟩ := P.nx I q w l5
        refine Cv.mono (A d _ I6 q6 (by omega) (by rw [s6]; exact es) ((P.tp t).fr F6 (by decide +kernel))) (fun h9 Q => ⟨Q.1.1.1, Cv.mono (c_say (d + e) Q.1.1 x1 (Q.1.room I6 q6)) (fun h12 S => ?_)⟩)
        have P12 := P.op w I I6 F6 (by omega) Q.1 S ho
        have e33 : pa h12 = pa h9 := by show (h_i h12 1 33).toInt = _; rw [(S.2.1.2 1 33 (by decide +kernel)).1]
        have q4 := Q.1.2.2.2.1
        obtain ⟨o, eo, et⟩ := hm
        have G := Q.2.sy Q.1.1 S (o, 0) et
        have a6' : ta (h_im h4 1 33 ((h_i h4 1 33) + 1)) = ska b n (ta h4) + 1 := by
          have k1 := ta_i I6
          have k2 := ta_i P.1
          rw [er.2]
          omega
        rw [a6', ← eo] at G
        have F12 := lpse F w er.1 hp (Cdm.f0 F6 (by decide +kernel)) G
        refine ⟨S.1.1, Ci.mono (c_lookf (d + e) P12.1 (P12.tp t)) (fun r h15 L => ?_)⟩
        have l3 := L.1.2.2.1
        exact ⟨L.1.1.1, ih r h15 (P12.lk I L.1) (F12.lk (Cne.lp k) L) ⟨by rw [L.2.1, skv_i]; exact L.2.2, L.i⟩ (L.1.fwd (zf P12.2.1 (by decide +kernel))) (by omega)⟩
      have fin : h_i h4 1 34 = -1 → ¬ x1 = 43 → ¬ x1 = 45 → Fte b n (k2sm b n f (ta h)) h h4 := fun w n1 n2 => by
        have e : k2lp b n pmb pmo (k2tm b n f) (k + 1) (ta h4) = (true, ska b n (ta h4), []) := by
          unfold k2lp
          exact if_neg (by rw [← er.1]; exact fun y => (of_decide_eq_true y).elim n1 n2)
        obtain ⟨E, e1, c⟩ := F.1 w
        rw [e1, e]
        refine Or.inl ⟨w, rfl, rfl, ?_⟩
        show Cdm h h4 ((E ++ []).flatMap tkm)
        rw [List.append_nil]
        exact c
      refine t_X12_sum_9 (d + e) h4 P.1.1 x1 _ ⟨fun w => ⟨P, F.2 w⟩, fun w => ⟨fun e1 => go w (by rw [e1]; decide) ⟨5, by rw [e1]; rfl, by rw [e1]; rfl⟩ (by rw [e1]; decide) (by rw [e1]; decide), fun n1 => ⟨fun n2 => ⟨P, fin w n1 n2⟩, fun e1 => go w (by rw [e1]; decide) ⟨6, by rw [e1]; rfl, by rw [e1]; rfl⟩ (by rw [e1]; decide) (by rw [e1]; decide)⟩⟩⟩
  refine t_X12_sum (d + e) h I.1 _ (Cv.mono (A d h I q eD es t) (fun h1 P => ⟨P.1.1.1, Ci.mono (c_lookf (d + e) P.1.1 (P.1.tp t)) (fun r h4 L => ⟨L.1.1.1, lp 160 r h4 (P.1.lk I L.1) ((sqg (f := k2tm b n f) (Cne.lp 160) P.2).lk (Cne.lp 160) L) ⟨by rw [L.2.1, skv_i]; exact L.2.2, L.i⟩ (L.1.fwd (zf P.1.2.1 (by decide +kernel))) ?_⟩)⟩))
  have a1 : 0 ≤ pa h4 := (pa_in L.1.1).1
  omega
theorem c_compareg {b : Nat → Int32} {n : Nat} (s e : Nat) (D : Int) (f : Rce) (A : Rdg b n s D f (fun d h K => Cv (m_X12_sum (d + e + 53) 0 0) [.ref 1] h K)) (d : Nat) {h h2 : Hp_} (I : Iv h) (q : Pq h) (eD : pd h = D) (es : h_i h 1 37 = Int32.ofNat s) (t : Tp b n h) (P : Pe s h h2) {T : Bool × Nat × List Tk2} {hb : Hp_} (F : Sfe b n T (k2cm b n f) hb h2) : Cv (m_X12_compare (d + e + 54) 0 0) [.ref 1] h2 (fun h' => Pe s h h' ∧ Fte b n T hb h') := by
  refine t_X12_compare (d + e) h2 P.1.1 _ ⟨fun w => Ci.mono (c_isSignf (d + e) h2 (-1)) (fun r h3 k => ?_), fun w => Ci.mono (c_lookf (d + e) P.1 (P.tp t)) (fun r h5 L => ⟨L.1.1.1, Ci.mono (c_isSignf (d + e) h5 r) (fun r2 h6 k => ?_)⟩)⟩
  · obtain ⟨e3, k⟩ := k
    subst e3
    refine ⟨P.1.1, fun r0 => ?_, fun _ => Cv.mono (c_badw (d + e) P.1 w) (fun h4 b4 => ⟨b4.1.1, P.bad I q b4.1 b4.2.1 (by rw [b4.2.2]; exact w), (F.2 w).wr w b4.2.2⟩)⟩
    rcases k with k | k
    · exact absurd rfl k.2.2.2
    · exact absurd k.1 r0
  · obtain ⟨e6, k⟩ := k
    subst e6
    have P5 := P.lk I L.1
    have w5 : h_i h6 1 34 = -1 := by rw [(L.1.2.1.2 1 34 (by decide +kernel)).1]; exact w
    refine ⟨L.1.1.1, fun r0 => ?_, fun r0 => Cv.mono (c_badf (d + e) L.1.1 w5) (fun h4 b4 => ⟨b4.1.1, P5.bad I q b4.1 b4.2.1 b4.2.2.1, ?_⟩)⟩
    · rcases k with k | k
      · have l5 : pa h6 < pz h := by
          rcases L.1.fwd (zf P.2.1 (by decide +kernel)) with u | u
          · exact absurd u k.2.2.2
          · exact u
        obtain ⟨I6, F6, a6, q6, d6, s6⟩ := P5.nx I q w5 l5
        refine Cv.mono (A d _ I6 q6 (by omega) (by rw [s6]; exact es) ((P5.tp t).fr F6 (by decide +kernel))) (fun h9 Q => ⟨Q.1.1.1, Cv.mono (c_say (d + e) Q.1.1 r (Q.1.room I6 q6)) (fun h12 S => ⟨S.1.1, P5.op w5 I I6 F6 (by omega) Q.1 S k.2.2.1, ?_⟩)⟩)
        have et : tkm (cpo r) = [r] := by
          have sg := of_decide_eq_true (show decide (r = 61 ∨ r = 60 ∨ r = 62) = true from k.2.1)
          rcases sg with u | u | u <;> rw [u] <;> rfl
        have G := Q.2.sy Q.1.1 S (cpo r) et
        rw [nxa L I6 a6] at G
        refine F.ft w ?_
        have ec : k2cm b n f (ta h2) = k2app (f (ska b n (ta h2) + 1)) [cpo r] := by
          unfold k2cm
          rw [if_pos (by rw [← L.2.2]; exact k.2.1), ← L.2.2]
        rw [ec]
        exact G.b (Cdm.f0 (L.1.2.1.tr F6) (by decide +kernel))
      · exact absurd k.1 r0
    · rcases k with k | k
      · rw [r0] at k
        exact absurd k.1 (by decide)
      · obtain ⟨E, e1, _⟩ := F.1 w
        have ec : k2cm b n f (ta h2) = (false, ska b n (ta h2), []) := by
          unfold k2cm
          rw [if_neg (by rw [← L.2.2, k.2]; decide)]
        rw [e1, ec]
        exact Or.inr ⟨b4.2.2.1, rfl, by rw [b4.2.2.2, L.2.1]; rfl⟩
/-! the reference: atoms, conditions, units, with what they put down -/
theorem c_closesg (d : Nat) {b : Nat → Int32} {n : Nat} {h : Hp_} (I : Iv h) (t : Tp b n h) (x : Int32) (l : (h_i h 1 34 = -1 → pa h ≤ pz h) ∧ pa h ≤ 179) (hx : ¬ x = -1) (dl : 1 ≤ (h_i h 1 35).toInt) {T : Bool × Nat × List Tk2} {hb : Hp_} (F : Sfe b n T (k2ex b n x) hb h) : Cv (m_X12_closes (d + 1) 0 0) [.ref 1, .int x] h (fun h' => (Iv h' ∧ Fr [1033, 1034, 1035] h h' ∧ (h_i h' 1 35).toInt = (h_i h 1 35).toInt - 1 ∧ pa h + 1 ≤ pa h' ∧ (¬ h_i h 1 34 = -1 → h_i h' 1 34 = h_i h 1 34 ∧ pa h' = pa h + 1) ∧ (h_i h 1 34 = -1 → pa h' ≤ pz h + 1 ∧ (h_i h' 1 34 = -1 → pa h' ≤ pz h))) ∧ Fte b n T hb h') := by
  have t1 : (1 : Int32).toInt = 1 := rfl
  have p0 : 0 ≤ (h_i h 1 33).toInt := (pa_in I).1
  have z1 : (h_i h 1 32).toInt ≤ 160 := (pz_in I).2
  have d7 : (h_i h 1 35).toInt ≤ 7 := (dp_in7 I).2
  have st : ∀ h2, Iv h2 → Fr [1033, 1034, 1035] h h2 → h_i h2 1 35 = h_i h 1 35 → 0 ≤ pa h2 → pa h2 ≤ 179 → Iv (h_im (h_im h2 1 33 ((h_i h2 1 33) + 1)) 1 35 ((h_i h2 1 35) - 1)) ∧ Fr [1033, 1034, 1035] h (h_im (h_im h2 1 33 ((h_i h2 1 33) + 1)) 1 35 ((h_i h2 1 35) - 1)) ∧ (h_i (h_im (h_im h2 1 33 ((h_i h2 1 33) + 1)) 1 35 ((h_i h2 1 35) - 1)) 1 35).toInt = (h_i h 1 35).toInt - 1 ∧ pa (h_im (h_im h2 1 33 ((h_i h2 1 33) + 1)) 1 35 ((h_i h2 1 35) - 1)) = pa h2 + 1 ∧ h_i (h_im (h_im h2 1 33 ((h_i h2 1 33) + 1)) 1 35 ((h_i h2 1 35) - 1)) 1 34 = h_i h2 1 34 := by
    intro h2 I2 F2 e5 a0 a1
    have a0' : 0 ≤ (h_i h2 1 33).toInt := a0
    have a1' : (h_i h2 1 33).toInt ≤ 179 := a1
    have e33 : (h_i h2 1 33 + 1).toInt = (h_i h2 1 33).toInt + 1 := tx_add (by rw [t1]; omega) (by rw [t1]; omega)
    have e35 : (h_i h2 1 35 - 1).toInt = (h_i h 1 35).toInt - 1 := by rw [e5, tx_sub (by rw [t1]; omega) (by rw [t1]; omega), t1]
    refine ⟨i35 (i33 I2 ⟨by show (0 : Int) ≤ _; omega, by show _ ≤ (180 : Int); omega⟩) ⟨by show (0 : Int) ≤ _; omega, by show _ ≤ (7 : Int); omega⟩, (F2.im (by decide +kernel)).im (by decide +kernel), by rw [im_at]; exact e35, ?_, by rw [f_ne (by decide), f_ne (by decide)]⟩
    show (h_i (h_im (h_im h2 1 33 _) 1 35 _) 1 33).toInt = _
    rw [f_ne (by decide), im_at]; exact e33
  refine t_X12_closes d h I.1 x _ ⟨fun nw => ?_, fun w => ?_⟩
  · obtain ⟨s1, s2, s3, s4, s5⟩ := st h I (Fr.rf _ _) rfl p0 l.2
    exact ⟨⟨s1, s2, s3, by omega, fun _ => ⟨s5, s4⟩, fun y => absurd y nw⟩, (F.2 nw).wr nw s5⟩
  · have lw : (h_i h 1 33).toInt ≤ (h_i h 1 32).toInt := l.1 w
    refine Ci.mono (c_lookf d I t) (fun r h2 LL => ?_)
    have L := LL.1
    obtain ⟨I2, F2, l1, l2, lr⟩ := L
    have F2' : Fr [1033, 1034, 1035] h h2 := F2.more (by decide +kernel)
    have e5 : h_i h2 1 35 = h_i h 1 35 := (F2.2 1 35 (by decide +kernel)).1
    have e4 : h_i h2 1 34 = h_i h 1 34 := (F2.2 1 34 (by decide +kernel)).1
    have l1' : (h_i h 1 33).toInt ≤ (h_i h2 1 33).toInt := l1
    have l2' : (h_i h2 1 33).toInt ≤ (h_i h 1 32).toInt := by
      rcases l2 with u | u
      · have u' : (h_i h2 1 33).toInt ≤ (h_i h 1 33).toInt := u
        omega
      · exact u
    refine ⟨I2.1, fun er => ?_, fun nr => ?_⟩
    · have at2 : (h_i h2 1 33).toInt < (h_i h 1 32).toInt := by
        rcases lr with u | u
        · exact absurd (er.symm.trans u.1) hx
        · exact u.1
      obtain ⟨s1, s2, s3, s4, s5⟩ := st h2 I2 F2' e5 (by show 0 ≤ (h_i h2 1 33).toInt; omega) (by show (h_i h2 1 33).toInt ≤ 179; omega)
      refine ⟨⟨s1, s2, s3, ?_, fun y => absurd w y, fun _ => ⟨?_, fun _ => ?_⟩⟩, ?_⟩
      · rw [s4]; show (h_i h 1 33).toInt + 1 ≤ (h_i h2 1 33).toInt + 1; omega
      · rw [s4]; show (h_i h2 1 33).toInt + 1 ≤ (h_i h 1 32).toInt + 1; omega
      · rw [s4]; show (h_i h2 1 33).toInt + 1 ≤ (h_i h 1 32).toInt; omega
      · refine F.ft w ?_
        have ec : k2ex b n x (ta h) = (true, ska b n (ska b n (ta h) + 1), []) := by
          unfold k2ex
          rw [if_pos (by rw [← LL.2.2]; exact er)]
        rw [ec]
        exact Or.inl ⟨by rw [s5, e4]; exact w, rfl, by rw [nxa LL s1 s4], Cdm.f0 s2 (by decide +kernel)⟩
    · have w2 : h_i h2 1 34 = -1 := by rw [e4]; exact w
      refine Cv.mono (c_badf d I2 w2) (fun h3 k => ?_)
      have f3 : h_i h3 1 33 = h_i h2 1 33 := (k.2.1.2 1 33 (by decide +kernel)).1
      have f5 : h_i h3 1 35 = h_i h 1 35 := (k.2.1.2 1 35 (by decide +kernel)).1.trans e5
      obtain ⟨s1, s2, s3, s4, s5⟩ := st h3 k.1 (F2'.tr (k.2.1.more (by decide +kernel))) f5 (by show 0 ≤ (h_i h3 1 33).toInt; rw [f3]; omega) (by show (h_i h3 1 33).toInt ≤ 179; rw [f3]; omega)
      refine ⟨k.1.1, ⟨s1, s2, s3, ?_, fun y => absurd w y, fun _ => ⟨?_, fun y => absurd (s5.symm.trans y) k.2.2.1⟩⟩, ?_⟩
      · rw [s4]; show (h_i h 1 33).toInt + 1 ≤ (h_i h3 1 33).toInt + 1; rw [f3]; omega
      · rw [s4]; show (h_i h3 1 33).toInt + 1 ≤ (h_i h 1 32).toInt + 1; rw [f3]; omega
      · refine F.ft w ?_
        have ec : k2ex b n x (ta h) = (false, ska b n (ta h), []) := by
          unfold k2ex
          rw [if_neg (by rw [← LL.2.2]; exact nr)]
        rw [ec]
        exact Or.inr ⟨by rw [s5]; exact k.2.2.1, rfl, by rw [s5, k.2.2.2, LL.2.1]⟩
theorem c_atomg {b : Nat → Int32} {n : Nat} (s e : Nat) (D : Int) (hs : s = 1 ∨ s = 2) (z : Bool) (f : Rce) (hz : z = true ↔ ¬ D ≤ 5) (B : D ≤ 5 → Rdg b n s (D + 1) f (fun d h K => Cv (m_X12_sum (d + e + 53) 0 0) [.ref 1] h K)) : Rdg b n s D (k2at b n (ltb s) z f) (fun d h K => Cv (m_X12_atom (d + e + 61) 0 0) [.ref 1] h K) := by
  intro d h I q eD es t
  have z1 : pz h ≤ 160 := (pz_in I).2
  have q1 := q.1
  have q2 := q.2.1
  have q3 := q.2.2.1
  have q5 := q.said I
  refine t_X12_atom (d + e) h I.1 _ (Ci.mono (c_lookf (d + e) I t) (fun r h1 LL => ⟨LL.1.1.1, fun n91 => ?_, fun er => ?_⟩))
  · have L := LL.1
    have s1 : h_i h1 1 37 = Int32.ofNat s := by rw [(L.2.1.2 1 37 (by decide +kernel)).1]; exact es
    rw [s1]
    refine Ci.mono (c_isLetterf (d + e) h1 r hs) (fun r2 h2 k => ?_)
    obtain ⟨e2, k⟩ := k
    subst e2
    have w1 : h_i h2 1 34 = -1 := by rw [(L.2.1.2 1 34 (by decide +kernel)).1]; exact q1
    have z2 := zf L.2.1 (by decide +kernel)
    have a1 : pa h2 ≤ pz h := by
      rcases L.2.2.2.1 with u | u
      · omega
      · exact u
    have l3 := L.2.2.1
    have p1 : ps h2 = ps h := by show (h_i h2 1 36).toInt = _; rw [(L.2.1.2 1 36 (by decide +kernel)).1]
    refine ⟨L.1.1, fun r0 => ?_, fun r0 => ?_⟩
    · have nl : ltb s r = false := by
        rcases k with k | k
        · exact k.2
        · exact absurd r0 k.1
      have ea : ∀ v : Int32, ((nm0 b n (ta h)).1 = true → v = k2nv b n (ta h)) → ∃ t : Tk2, ((nm0 b n (ta h)).1 = true → tkm t = [0, v]) ∧ ((nm0 b n (ta h)).1 = true → k2at b n (ltb s) z f (ta h) = k2app ((nm0 b n (ta h)).1, (nm0 b n (ta h)).2, []) [t]) ∧ (k2at b n (ltb s) z f (ta h)).1 = (nm0 b n (ta h)).1 ∧ (k2at b n (ltb s) z f (ta h)).2.1 = (nm0 b n (ta h)).2 := fun v ev => by
        refine ⟨(0, k2nv b n (ta h)), fun y => by rw [ev y]; rfl, ?_⟩
        unfold k2at
        by_cases c : dgb (skv b n (ta h)) = true
        · rw [if_pos c]
          exact ⟨fun _ => rfl, rfl, rfl⟩
        · rw [if_neg c, if_neg (by rw [← LL.2.2]; exact n91)]
          unfold k2on nm0
          rw [if_neg c, if_neg (show ¬ ltb s (skv b n (ta h)) = true by rw [← LL.2.2, nl]; decide)]
          exact ⟨fun y => absurd y (by simp), rfl, rfl⟩
      refine Ci.mono (c_numberf (d + e) L.1 (LL.t t) w1 (by omega)) (fun v h3 NN => ⟨NN.1.1.1, ?_⟩)
      obtain ⟨N, NF, NV⟩ := NN
      obtain ⟨n1, n2, n3, n4, n5⟩ := N
      rw [LL.2.1, nm0_c] at NF
      have p3 : ps h3 = ps h2 := by show (h_i h3 1 36).toInt = _; rw [(n2.2 1 36 (by decide +kernel)).1]
      refine Cv.mono (c_say (d + e) n1 0 (by show ps h3 ≤ 558; omega)) (fun h4 S => ⟨S.1.1, Cv.mono (c_say (d + e) S.1 v ?_) (fun h5 S' => ⟨S'.1.1, ?_, ?_⟩)⟩)
      · have := S.2.2.1
        show ps h4 ≤ 558
        have e4 : ps h4 = ps h3 + 1 := this
        omega
      · exact Pe.two I q ((L.2.1.more (by decide +kernel)).tr n2) (by omega) (by omega) (fun w => by have := n5 w; omega) S S' (Or.inl rfl)
      · have w3 : (nm0 b n (ta h)).1 = true → h_i h3 1 34 = -1 := fun y => by
          rcases NF with NF | NF
          · exact NF.1
          · exact absurd (NF.2.1.symm.trans y) (by decide)
        obtain ⟨tk, k1, k2, k3, k4⟩ := ea v (fun y => by
          have z := (NV (w3 y)).2
          unfold k2nv
          rw [LL.2.1, ska_i] at z
          rw [z])
        have f03 : Fr [1033, 1034] h h3 := (L.2.1.more (by decide +kernel)).tr n2
        have cd3 : Cdm h h3 [] := Cdm.f0 f03 (by decide +kernel)
        rcases NF with NF | NF
        · have G : Fte b n ((nm0 b n (ta h)).1, (nm0 b n (ta h)).2, []) h h3 := Or.inl ⟨NF.1, NF.2.1, NF.2.2, cd3⟩
          have G' := G.sz n1 S S' tk k1
          rw [← k2 NF.2.1] at G'
          exact G'
        · have f := S.2.1.tr S'.2.1
          have e4 : h_i h5 1 34 = h_i h3 1 34 := (f.2 1 34 (by decide +kernel)).1
          exact Or.inr ⟨by rw [e4]; exact NF.1, k3.trans NF.2.1, by rw [e4, k4]; exact NF.2.2⟩
    · have k : ltb s r = true ∧ ¬ r = -1 ∧ okl s r = true := by
        rcases k with k | k
        · exact absurd k.1 r0
        · exact k.2
      have l5 : pa h2 < pz h := by
        rcases L.fwd rfl with u | u
        · exact absurd u k.2.1
        · exact u
      have nd := lt_dg hs k.1
      have ea : k2at b n (ltb s) z f (ta h) = k2app (true, ska b n (ska b n (ta h) + 1), []) [(1, r)] := by
        unfold k2at
        rw [if_neg (by rw [← LL.2.2]; exact nd.1), if_neg (by rw [← LL.2.2]; exact nd.2)]
        unfold k2on
        rw [if_pos (by rw [← LL.2.2]; exact k.1), ← LL.2.2]
        rfl
      have a0 : 0 ≤ pa h2 := (pa_in L.1).1
      have o1 : (1 : Int32).toInt = 1 := rfl
      have e33 : (h_i h2 1 33 + 1).toInt = pa h2 + 1 := by
        show (h_i h2 1 33 + 1).toInt = (h_i h2 1 33).toInt + 1
        have a0' : 0 ≤ (h_i h2 1 33).toInt := a0
        have l' : (h_i h2 1 33).toInt < pz h := l5
        rw [tx_add (by rw [o1]; omega) (by rw [o1]; omega), o1]
      have I3 : Iv (h_im h2 1 33 ((h_i h2 1 33) + 1)) := i33 L.1 ⟨by rw [e33]; show (0 : Int) ≤ _; omega, by rw [e33]; show _ ≤ (180 : Int); omega⟩
      have F3 : Fr [1033] h2 (h_im h2 1 33 ((h_i h2 1 33) + 1)) := (Fr.rf _ _).im (by decide +kernel)
      have ea3 : pa (h_im h2 1 33 ((h_i h2 1 33) + 1)) = pa h2 + 1 := by
        show (h_i (h_im h2 1 33 _) 1 33).toInt = _
        rw [im_at]; exact e33
      have es' : ps (h_im h2 1 33 ((h_i h2 1 33) + 1)) = ps h2 := by
        show (h_i (h_im h2 1 33 _) 1 36).toInt = _
        rw [f_ne (by decide)]
      have F0 : Fte b n (true, ska b n (ska b n (ta h) + 1), []) h (h_im h2 1 33 ((h_i h2 1 33) + 1)) := Or.inl ⟨by rw [f_ne (by decide)]; exact w1, rfl, by rw [nxa LL I3 ea3], Cdm.f0 (L.2.1.tr F3) (by decide +kernel)⟩
      refine Cv.mono (c_say (d + e) I3 1 (by show ps (h_im h2 1 33 _) ≤ 558; omega)) (fun h4 S => ⟨S.1.1, Cv.mono (c_say (d + e) S.1 r ?_) (fun h5 S' => ⟨S'.1.1, ?_, by rw [ea]; exact F0.sz I3 S S' (1, r) (fun _ => rfl)⟩)⟩)
      · have e4 : ps h4 = ps (h_im h2 1 33 ((h_i h2 1 33) + 1)) + 1 := S.2.2.1
        show ps h4 ≤ 558
        omega
      · exact Pe.two I q ((L.2.1.tr F3).more (by decide +kernel)) (by omega) (by omega) (fun w => by omega) S S' (Or.inr ⟨rfl, k.2.2⟩)
  · have L := LL.1
    have l5 : pa h1 < pz h := by
      rcases L.fwd rfl with u | u
      · rw [er] at u; exact absurd u (by decide)
      · exact u
    have z2 := zf L.2.1 (by decide +kernel)
    have e35 : pd h1 = pd h := by show (h_i h1 1 35).toInt = _; rw [(L.2.1.2 1 35 (by decide +kernel)).1]
    have w1 : h_i h1 1 34 = -1 := by rw [(L.2.1.2 1 34 (by decide +kernel)).1]; exact q1
    have e91 : skv b n (ta h) = 91 := by rw [← LL.2.2]; exact er
    have ea : k2at b n (ltb s) z f (ta h) = if z = true then (false, ska b n (ta h), []) else k2sq f (k2ex b n 93) (ska b n (ta h) + 1) := by
      unfold k2at
      rw [if_neg (by rw [e91]; decide), if_pos e91]
    refine Ci.mono (c_opensf (b := b) (n := n) (d + e) L.1 w1 (by omega) (by show pd h1 ≤ 6; omega)) (fun r2 h2 k => ?_)
    obtain ⟨I2, F2, k⟩ := k
    refine ⟨I2.1, fun r0 => ?_, fun r0 => ?_⟩
    · rcases k with k | k
      · rw [k.1] at r0; exact absurd r0 (by decide)
      · refine ⟨Pe.no I q L I2 F2 k.2.1 k.2.2.1 k.2.2.2.1, ?_⟩
        have d6 : pd h1 = 6 := k.2.2.2.2.2
        rw [ea, if_pos (hz.mpr (by omega))]
        exact Or.inr ⟨k.2.1, rfl, by rw [k.2.2.2.2.1, LL.2.1]⟩
    · rcases k with k | k
      · obtain ⟨k1, k2, k3, k4, k5⟩ := k
        obtain ⟨Q2, G2, b2, d2, d5, s2⟩ := op_q I q L l5 I2 F2 k2 k3 k4 k5
        rw [ea, if_neg (fun y => absurd (by omega) (hz.mp y))]
        refine Cv.mono (B (by omega) d h2 I2 Q2 (by omega) (by rw [s2]; exact es) (t.fr G2 (by decide +kernel))) (fun h3 PP => ?_)
        obtain ⟨P, PF⟩ := PP
        rw [nxa LL I2 k3] at PF
        refine ⟨P.1.1, Cv.mono (c_closesg (d + e) P.1 (P.tp (t.fr G2 (by decide +kernel))) 93 ?_ (by decide) ?_ (hb := h) (sqg (f := f) Cne.ex (PF.b (Cdm.f0 G2 (by decide +kernel))))) (fun h4 C => ⟨C.1.1.1, Pe.br I q G2 b2 d2 d5 P C.1, C.2⟩)⟩
        · have z3 := zf P.2.1 (by decide +kernel)
          have z4 := zf G2 (by decide +kernel)
          refine ⟨fun w => ?_, ?_⟩
          · have := (P.2.2.2.2.2.2.1 w).1
            omega
          · have d0 : 0 ≤ pd h2 := (dp_in7 I2).1
            by_cases w : h_i h3 1 34 = -1
            · have := (P.2.2.2.2.2.2.1 w).1
              omega
            · have := (P.2.2.2.2.2.2.2 w).1
              omega
        · have p3 := P.2.2.1
          have d0 : 0 ≤ pd h := (dp_in7 I).1
          show 1 ≤ pd h3
          omega
      · exact absurd k.1 r0
theorem part_lpg {b : Nat → Int32} {n : Nat} (s e : Nat) (D : Int) (u : Rce) (A : Rdg b n s D u (fun d h K => Cv (m_X12_unit (d + e + 55) 0 0) [.ref 1] h K)) (d : Nat) {h : Hp_} (I : Iv h) (q : Pq h) (eD : pd h = D) (es : h_i h 1 37 = Int32.ofNat s) (t : Tp b n h) {hb : Hp_} (T : Bool × Nat × List Tk2) :
    ∀ (k : Nat) (h2 : Hp_), Pe s h h2 → Sfe b n T (k2lp b n (isq 38) (fun _ => [(11, 0)]) u k) hb h2 → pz h - pa h2 ≤ k → AW (m_X12_part (d + e + 56) 0 0) 0 0 15 [(0, .ref 1)] [] h2 (kV (fun h' => Pe s h h' ∧ Fte b n T hb h')) := by
  intro k
  induction k with
  | zero =>
    intro h2 P F m
    refine t_X12_part_15 (d + e) h2 P.1.1 _ ⟨fun w => ⟨P, F.2 w⟩, fun w => Ci.mono (c_lookf (d + e) P.1 (P.tp t)) (fun r h5 L => ⟨L.1.1.1, fun _ => ⟨P.lk I L.1, lp0e F w L⟩, fun er => ?_⟩)⟩
    have l3 := L.1.2.2.1
    rcases L.1.fwd (zf P.2.1 (by decide +kernel)) with v | v
    · rw [er] at v; exact absurd v (by decide)
    · omega
  | succ k ih =>
    intro h2 P F m
    refine t_X12_part_15 (d + e) h2 P.1.1 _ ⟨fun w => ⟨P, F.2 w⟩, fun w => Ci.mono (c_lookf (d + e) P.1 (P.tp t)) (fun r h5 L => ⟨L.1.1.1, fun nr => ⟨P.lk I L.1, lpxe F w L (decide_eq_false nr)⟩, fun er => ?_⟩)⟩
    have P5 := P.lk I L.1
    have w5 : h_i h5 1 34 = -1 := by rw [(L.1.2.1.2 1 34 (by decide +kernel)).1]; exact w
    have l3 := L.1.2.2.1
    have l5 : pa h5 < pz h := by
      rcases L.1.fwd (zf P.2.1 (by decide +kernel)) with v | v
      · rw [er] at v; exact absurd v (by decide)
      · exact v
    obtain ⟨I6, F6, a6, q6, d6, s6⟩ := P5.nx I q w5 l5
    refine Cv.mono (A d _ I6 q6 (by omega) (by rw [s6]; exact es) ((P5.tp t).fr F6 (by decide +kernel))) (fun h9 Q => ⟨Q.1.1.1, Cv.mono (c_say (d + e) Q.1.1 38 (Q.1.room I6 q6)) (fun h12 S => ?_)⟩)
    have P12 := P5.op w5 I I6 F6 (by omega) Q.1 S (by decide)
    have e33 : pa h12 = pa h9 := by show (h_i h12 1 33).toInt = _; rw [(S.2.1.2 1 33 (by decide +kernel)).1]
    have q4 := Q.1.2.2.2.1
    have G := Q.2.sy Q.1.1 S (11, 0) rfl
    rw [nxa L I6 a6] at G
    exact ⟨S.1.1, ih h12 P12 (lpse F w L.2.2 (decide_eq_true er) (Cdm.f0 (L.1.2.1.tr F6) (by decide +kernel)) G) (by omega)⟩
theorem condition_lpg {b : Nat → Int32} {n : Nat} (s e : Nat) (D : Int) (u : Rce) (A : Rdg b n s D u (fun d h K => Cv (m_X12_part (d + e + 56) 0 0) [.ref 1, .int 0] h K)) (d : Nat) {h : Hp_} (I : Iv h) (q : Pq h) (eD : pd h = D) (es : h_i h 1 37 = Int32.ofNat s) (t : Tp b n h) {hb : Hp_} (T : Bool × Nat × List Tk2) :
    ∀ (k : Nat) (h2 : Hp_), Pe s h h2 → Sfe b n T (k2lp b n (isq 124) (fun _ => [(12, 0)]) u k) hb h2 → pz h - pa h2 ≤ k → AW (m_X12_condition (d + e + 57) 0 0) 0 0 5 [(0, .ref 1)] [] h2 (kV (fun h' => Pe s h h' ∧ Fte b n T hb h')) := by
  intro k
  induction k with
  | zero =>
    intro h2 P F m
    refine t_X12_condition_5 (d + e) h2 P.1.1 _ ⟨fun w => ⟨P, F.2 w⟩, fun w => Ci.mono (c_lookf (d + e) P.1 (P.tp t)) (fun r h5 L => ⟨L.1.1.1, fun _ => ⟨P.lk I L.1, lp0e F w L⟩, fun er => ?_⟩)⟩
    have l3 := L.1.2.2.1
    rcases L.1.fwd (zf P.2.1 (by decide +kernel)) with v | v
    · rw [er] at v; exact absurd v (by decide)
    · omega
  | succ k ih =>
    intro h2 P F m
    refine t_X12_condition_5 (d + e) h2 P.1.1 _ ⟨fun w => ⟨P, F.2 w⟩, fun w => Ci.mono (c_lookf (d + e) P.1 (P.tp t)) (fun r h5 L => ⟨L.1.1.1, fun nr => ⟨P.lk I L.1, lpxe F w L (decide_eq_false nr)⟩, fun er => ?_⟩)⟩
    have P5 := P.lk I L.1
    have w5 : h_i h5 1 34 = -1 := by rw [(L.1.2.1.2 1 34 (by decide +kernel)).1]; exact w
    have l3 := L.1.2.2.1
    have l5 : pa h5 < pz h := by
      rcases L.1.fwd (zf P.2.1 (by decide +kernel)) with v | v
      · rw [er] at v; exact absurd v (by decide)
      · exact v
    obtain ⟨I6, F6, a6, q6, d6, s6⟩ := P5.nx I q w5 l5
    refine Cv.mono (A d _ I6 q6 (by omega) (by rw [s6]; exact es) ((P5.tp t).fr F6 (by decide +kernel))) (fun h9 Q => ⟨Q.1.1.1, Cv.mono (c_say (d + e) Q.1.1 124 (Q.1.room I6 q6)) (fun h12 S => ?_)⟩)
    have P12 := P5.op w5 I I6 F6 (by omega) Q.1 S (by decide)
    have e33 : pa h12 = pa h9 := by show (h_i h12 1 33).toInt = _; rw [(S.2.1.2 1 33 (by decide +kernel)).1]
    have q4 := Q.1.2.2.2.1
    have G := Q.2.sy Q.1.1 S (12, 0) rfl
    rw [nxa L I6 a6] at G
    exact ⟨S.1.1, ih h12 P12 (lpse F w L.2.2 (decide_eq_true er) (Cdm.f0 (L.1.2.1.tr F6) (by decide +kernel)) G) (by omega)⟩
theorem c_part0g {b : Nat → Int32} {n : Nat} (s e : Nat) (D : Int) (u : Rce) (A : Rdg b n s D u (fun d h K => Cv (m_X12_unit (d + e + 55) 0 0) [.ref 1] h K)) : Rdg b n s D (k2pt b n u) (fun d h K => Cv (m_X12_part (d + e + 56) 0 0) [.ref 1, .int 0] h K) := by
  intro d h I q eD es t
  exact t_X12_part (d + e) h I.1 0 _ ⟨fun _ => Cv.mono (A d h I q eD es t) (fun h2 P => ⟨P.1.1.1, part_lpg s e D u A d I q eD es t _ 160 h2 P.1 (sqg (f := u) (Cne.lp 160) P.2) (P.1.m I)⟩), fun n => absurd rfl n⟩
theorem c_cond0g {b : Nat → Int32} {n : Nat} (s e : Nat) (D : Int) (u : Rce) (A : Rdg b n s D u (fun d h K => Cv (m_X12_unit (d + e + 55) 0 0) [.ref 1] h K)) : Rdg b n s D (k2cd b n u) (fun d h K => Cv (m_X12_condition (d + e + 57) 0 0) [.ref 1, .int 0] h K) := by
  intro d h I q eD es t
  rw [k2pt_a]
  exact t_X12_condition (d + e) h I.1 0 _ (Cv.mono (c_part0g s e D u A d h I q eD es t) (fun h2 P => ⟨P.1.1.1, condition_lpg s e D _ (c_part0g s e D u A) d I q eD es t _ 160 h2 P.1 (sqg (f := k2pt b n u) (Cne.lp 160) P.2) (P.1.m I)⟩))
/-- a condition whose first sum stands -/
theorem c_cond1g {b : Nat → Int32} {n : Nat} (s e : Nat) (D : Int) (u f : Rce) (A : Rdg b n s D u (fun d h K => Cv (m_X12_unit (d + e + 55) 0 0) [.ref 1] h K)) (B : Rdg b n s D f (fun d h K => Cv (m_X12_sum (d + e + 53) 0 0) [.ref 1] h K)) (d : Nat) {h h2 : Hp_} (I : Iv h) (q : Pq h) (eD : pd h = D) (es : h_i h 1 37 = Int32.ofNat s) (t : Tp b n h) (P : Pe s h h2) (w : h_i h2 1 34 = -1) :
    Cv (m_X12_condition (d + e + 57) 0 0) [.ref 1, .int 1] h2 (fun h' => Pe s h h' ∧ Fte b n (k2sq (k2cm b n f) (k2mp b n u) (ta h2)) h2 h') := by
  have e1 : k2sq (k2cm b n f) (k2mp b n u) = k2sq (k2sq (k2cm b n f) (k2mu b n u)) (k2lp b n (isq 124) (fun _ => [(12, 0)]) (k2pt b n u) 160) := by
    unfold k2mp
    rw [k2sq_a]
  rw [e1]
  refine t_X12_condition (d + e) h2 P.1.1 1 _ (Cv.mono (K := fun h3 => Pe s h h3 ∧ Fte b n (k2sq (k2cm b n f) (k2mu b n u) (ta h2)) h2 h3) ?_ (fun h3 P3 => ⟨P3.1.1.1, condition_lpg s e D _ (c_part0g s e D u A) d I q eD es t _ 160 h3 P3.1 (sqg (f := k2sq (k2cm b n f) (k2mu b n u)) (Cne.lp 160) P3.2) (P3.1.m I)⟩))
  exact t_X12_part (d + e) h2 P.1.1 1 _ ⟨fun n => absurd n (by decide), fun _ => Cv.mono (c_compareg s e D f B d I q eD es t P (T := k2cm b n f (ta h2)) (hb := h2) ⟨fun _ => ⟨[], rfl, Cdm.rf h2⟩, fun y => absurd w y⟩) (fun h3 P3 => ⟨P3.1.1.1, part_lpg s e D u A d I q eD es t _ 160 h3 P3.1 (sqg (f := k2cm b n f) (Cne.lp 160) P3.2) (P3.1.m I)⟩)⟩
theorem c_unitg {b : Nat → Int32} {n : Nat} (s e r0 : Nat) (D : Int) (hD : D = 6 - (r0 : Int)) (lt : Int32 → Bool) (B : Rdg b n s D (k2ss b n lt r0) (fun d h K => Cv (m_X12_sum (d + e + 53) 0 0) [.ref 1] h K)) (U : ∀ r, r0 = r + 1 → Rdg b n s (D + 1) (k2un b n lt r) (fun d h K => Cv (m_X12_unit (d + e + 55) 0 0) [.ref 1] h K)) : Rdg b n s D (k2un b n lt r0) (fun d h K => Cv (m_X12_unit (d + e + 65) 0 0) [.ref 1] h K) := by
  intro d h I q eD es t
  have z1 : pz h ≤ 160 := (pz_in I).2
  have q1 := q.1
  have q2 := q.2.1
  have q3 := q.2.2.1
  have q5 := q.said I
  have d0 : 0 ≤ pd h := (dp_in7 I).1
  refine t_X12_unit (d + e) h I.1 _ (Ci.mono (c_lookf (d + e) I t) (fun r h1 LL => ?_))
  have L := LL.1
  have z2 := zf L.2.1 (by decide +kernel)
  have e35 : pd h1 = pd h := by show (h_i h1 1 35).toInt = _; rw [(L.2.1.2 1 35 (by decide +kernel)).1]
  have e36 : h_i h1 1 36 = h_i h 1 36 := (L.2.1.2 1 36 (by decide +kernel)).1
  have f226 : h_i h1 226 = h_i h 226 := funext (fun k => fr_i L.2.1 (by decide +kernel) k)
  have ps1 : ps h1 = ps h := by show (h_i h1 1 36).toInt = _; rw [e36]
  have sn1 : sN h1 = sN h := by show (h_i h1 1 36).toNatClampNeg = _; rw [e36]
  have l3 := L.2.2.1
  have w1 : h_i h1 1 34 = -1 := by rw [(L.2.1.2 1 34 (by decide +kernel)).1]; exact q1
  have a1 : pa h1 ≤ pz h := by
    rcases L.2.2.2.1 with u | u
    · omega
    · exact u
  have op : pa h1 < pz h → Ci (m_X12_opens (d + e + 1) 0 0) [.ref 1] h1 (fun r2 h2 => Iv h2 ∧ (r2 = 0 → Pe s h h2 ∧ r0 = 0 ∧ ¬ h_i h2 1 34 = -1 ∧ h_i h2 1 34 = Int32.ofNat (ska b n (ta h))) ∧ (¬ r2 = 0 → Pq h2 ∧ Fr [1033, 1034, 1035] h h2 ∧ pa h + 1 ≤ pa h2 ∧ pd h2 = pd h + 1 ∧ pd h ≤ 5 ∧ h_i h2 1 37 = h_i h 1 37 ∧ ta h2 = ska b n (ta h) + 1)) := by
    intro l5
    refine Ci.mono (c_opensf (b := b) (n := n) (d + e) L.1 w1 (by omega) (by show pd h1 ≤ 6; omega)) (fun r2 h2 k => ?_)
    obtain ⟨I2, F2, k⟩ := k
    refine ⟨I2, fun r0 => ?_, fun r0 => ?_⟩
    · rcases k with k | k
      · rw [k.1] at r0; exact absurd r0 (by decide)
      · have d6 : pd h1 = 6 := k.2.2.2.2.2
        exact ⟨Pe.no I q L I2 F2 k.2.1 k.2.2.1 k.2.2.2.1, by omega, k.2.1, by rw [k.2.2.2.2.1, LL.2.1]⟩
    · rcases k with k | k
      · obtain ⟨k1, k2, k3, k4, k5⟩ := k
        obtain ⟨v1, v2, v3, v4, v5, v6⟩ := op_q I q L l5 I2 F2 k2 k3 k4 k5
        exact ⟨v1, v2, v3, v4, v5, v6, nxa LL I2 k3⟩
      · exact absurd k.1 r0
  refine ⟨L.1.1, fun n1 => ⟨fun n2 => ?_, fun er => ?_⟩, fun er => ?_⟩
  · have qh1 : Pq h1 := ⟨w1, by omega, by omega, by have := q.2.2.2; omega⟩
    have Pl : ∀ h6, Pe s h1 h6 → Pe s h h6 := fun h6 P => by
      obtain ⟨p1, p2, p3, p4, p5, p6, p7, p8⟩ := P
      refine ⟨p1, (L.2.1.more (by decide +kernel)).tr p2, by omega, by omega, fun k hk => by rw [p5 k (by omega), f226], by omega, fun w => ?_, fun w => ?_⟩
      · obtain ⟨t1, t2, t3, K, t4, t5⟩ := p7 w
        exact ⟨by omega, by omega, by omega, K, by omega, by rw [← sn1]; exact t5⟩
      · obtain ⟨t1, t2⟩ := p8 w
        exact ⟨by omega, by omega⟩
    have eu : k2un b n lt r0 (ta h) = k2sq (k2ss b n lt r0) (k2cm b n (k2ss b n lt r0)) (ta h1) := by
      rw [LL.2.1, Cne.sq (Cne.ss r0) (ta h)]
      have x1 : ¬ skv b n (ta h) = 33 := by rw [← LL.2.2]; exact n1
      have x2 : ¬ skv b n (ta h) = 40 := by rw [← LL.2.2]; exact n2
      cases r0 with
      | zero =>
        unfold k2un
        exact if_neg (fun y => y.elim x1 x2)
      | succ r0 =>
        unfold k2un
        rw [if_neg x1, if_neg x2]
    rw [eu]
    refine Cv.mono (B d h1 L.1 qh1 (by omega) (by rw [(L.2.1.2 1 37 (by decide +kernel)).1]; exact es) (LL.t t)) (fun h6 P => ⟨P.1.1.1, Cv.mono (c_compareg s e D _ B d I q eD es t (Pl h6 P.1) (hb := h) (sqg (f := k2ss b n lt r0) Cne.cm (P.2.b (Cdm.f0 L.2.1 (by decide +kernel))))) (fun h9 P9 => ⟨P9.1.1.1, P9⟩)⟩)
  · have l5 : pa h1 < pz h := by
      rcases L.fwd rfl with u | u
      · rw [er] at u; exact absurd u (by decide)
      · exact u
    have e40 : skv b n (ta h) = 40 := by rw [← LL.2.2]; exact er
    refine Ci.mono (op l5) (fun r2 h2 k => ⟨k.1.1, fun y => ?_, fun r0n => ?_⟩)
    · obtain ⟨k1, k2, k3, k4⟩ := k.2.1 y
      refine ⟨k1, ?_⟩
      rw [k2]
      have eu : k2un b n lt 0 (ta h) = (false, ska b n (ta h), []) := by
        unfold k2un
        exact if_pos (Or.inr e40)
      rw [eu]
      exact Or.inr ⟨k3, rfl, k4⟩
    · obtain ⟨Q2, G2, b2, d2, d5, s2, a2⟩ := k.2.2 r0n
      have t2 : Tp b n h2 := t.fr G2 (by decide +kernel)
      cases r0 with
      | zero => exact absurd d5 (by omega)
      | succ r0 =>
        have eu : k2un b n lt (r0 + 1) (ta h) = k2sq (k2cd b n (k2un b n lt r0)) (k2ex b n 41) (ta h2) := by
          show (if skv b n (ta h) = 33 then k2app (k2un b n lt r0 (ska b n (ta h) + 1)) [(2, 0)] else if skv b n (ta h) = 40 then k2sq (k2cd b n (k2un b n lt r0)) (k2ex b n 41) (ska b n (ta h) + 1) else k2sq (k2ss b n lt (r0 + 1)) (k2cm b n (k2ss b n lt (r0 + 1))) (ta h)) = _
          rw [if_neg (by rw [e40]; decide), if_pos e40, a2]
        rw [eu]
        refine Cv.mono (c_cond0g s e (D + 1) _ (U r0 rfl) d h2 k.1 Q2 (by omega) (by rw [s2]; exact es) t2) (fun h3 PP => ?_)
        obtain ⟨P, PF⟩ := PP
        refine ⟨P.1.1, Cv.mono (c_closesg (d + e) P.1 (P.tp t2) 41 ?_ (by decide) ?_ (hb := h) (sqg (f := k2cd b n (k2un b n lt r0)) Cne.ex (PF.b (Cdm.f0 G2 (by decide +kernel))))) (fun h4 C => ⟨C.1.1.1, Pe.br I q G2 b2 d2 d5 P C.1, C.2⟩)⟩
        · have z3 := zf P.2.1 (by decide +kernel)
          have z4 := zf G2 (by decide +kernel)
          refine ⟨fun w => ?_, ?_⟩
          · have := (P.2.2.2.2.2.2.1 w).1
            omega
          · by_cases w : h_i h3 1 34 = -1
            · have := (P.2.2.2.2.2.2.1 w).1
              omega
            · have := (P.2.2.2.2.2.2.2 w).1
              omega
        · have p3 := P.2.2.1
          show 1 ≤ pd h3
          omega
  · have l5 : pa h1 < pz h := by
      rcases L.fwd rfl with u | u
      · rw [er] at u; exact absurd u (by decide)
      · exact u
    have e33 : skv b n (ta h) = 33 := by rw [← LL.2.2]; exact er
    refine Ci.mono (op l5) (fun r2 h2 k => ⟨k.1.1, fun y => ?_, fun r0n => ?_⟩)
    · obtain ⟨k1, k2, k3, k4⟩ := k.2.1 y
      refine ⟨k1, ?_⟩
      rw [k2]
      have eu : k2un b n lt 0 (ta h) = (false, ska b n (ta h), []) := by
        unfold k2un
        exact if_pos (Or.inl e33)
      rw [eu]
      exact Or.inr ⟨k3, rfl, k4⟩
    · obtain ⟨Q2, G2, b2, d2, d5, s2, a2⟩ := k.2.2 r0n
      have t2 : Tp b n h2 := t.fr G2 (by decide +kernel)
      cases r0 with
      | zero => exact absurd d5 (by omega)
      | succ r0 =>
        have eu : k2un b n lt (r0 + 1) (ta h) = k2app (k2un b n lt r0 (ta h2)) [(2, 0)] := by
          rw [a2]
          show (if skv b n (ta h) = 33 then k2app (k2un b n lt r0 (ska b n (ta h) + 1)) [(2, 0)] else _) = _
          rw [if_pos e33]
        rw [eu]
        refine Cv.mono (U r0 rfl d h2 k.1 Q2 (by omega) (by rw [s2]; exact es) t2) (fun h3 PP => ?_)
        obtain ⟨P, PF⟩ := PP
        refine ⟨P.1.1, ?_⟩
        have p3 := P.2.2.1
        have o1 : (1 : Int32).toInt = 1 := rfl
        have d1 : 1 ≤ (h_i h3 1 35).toInt := by show 1 ≤ pd h3; omega
        have d7 : (h_i h3 1 35).toInt ≤ 7 := (dp_in7 P.1).2
        have e3 : (h_i h3 1 35 - 1).toInt = (h_i h3 1 35).toInt - 1 := by rw [tx_sub (by rw [o1]; omega) (by rw [o1]; omega), o1]
        have I35 : Iv (h_im h3 1 35 (h_i h3 1 35 - 1)) := i35 P.1 ⟨by rw [e3]; show (0 : Int) ≤ _; omega, by rw [e3]; show _ ≤ (7 : Int); omega⟩
        have F35 : Fr [1035] h3 (h_im h3 1 35 (h_i h3 1 35 - 1)) := (Fr.rf _ _).im (by decide +kernel)
        have PF' := (PF.b (Cdm.f0 G2 (by decide +kernel))).fr F35 (by decide +kernel) (by decide +kernel)
        refine Cv.mono (c_say (d + e) I35 33 ?_) (fun h5 S => ⟨S.1.1, Pe.nt I q G2 b2 d2 d5 P S, PF'.sy I35 S (2, 0) rfl⟩)
        rw [f_ne (by decide)]
        exact P.room k.1 Q2
theorem c_sumsg {b : Nat → Int32} {n : Nat} (s : Nat) (hs : s = 1 ∨ s = 2) : ∀ (g : Nat), g ≤ 6 → Rdg b n s (6 - (g : Int)) (k2ss b n (ltb s) g) (fun d h K => Cv (m_X12_sum (d + (10 * g + 10) + 53) 0 0) [.ref 1] h K) := by
  intro g
  induction g with
  | zero =>
    intro _
    refine c_sumg s _ _ _ (c_termg s _ _ _ ?_)
    exact c_atomg s 0 _ hs true _ ⟨fun _ => by decide, fun _ => rfl⟩ (fun n => absurd n (by decide))
  | succ g ih =>
    intro hg
    refine c_sumg s _ _ _ (c_termg s _ _ _ ?_)
    have := c_atomg (b := b) (n := n) s (10 * g + 10) (6 - ((g + 1 : Nat) : Int)) hs false (k2ss b n (ltb s) g) ⟨fun y => absurd y (by decide), fun y => absurd (by omega) y⟩ (fun _ => by rw [show (6 - ((g + 1 : Nat) : Int)) + 1 = 6 - (g : Int) by omega]; exact ih (by omega))
    intro d h I q a b' t
    have k := this d h I q a b' t
    dsimp only at k
    rw [show d + (10 * g + 10) + 61 = d + (10 * (g + 1) + 10) + 51 by omega] at k
    exact k
theorem c_unitsg {b : Nat → Int32} {n : Nat} (s : Nat) (hs : s = 1 ∨ s = 2) : ∀ (g : Nat), g ≤ 6 → Rdg b n s (6 - (g : Int)) (k2un b n (ltb s) g) (fun d h K => Cv (m_X12_unit (d + (10 * g + 10) + 65) 0 0) [.ref 1] h K) := by
  intro g
  induction g with
  | zero =>
    intro _
    exact c_unitg s _ 0 _ rfl _ (c_sumsg s hs 0 (by decide)) (fun r y => absurd y (by omega))
  | succ g ih =>
    intro hg
    refine c_unitg s _ (g + 1) _ rfl _ (c_sumsg s hs (g + 1) hg) (fun r y => ?_)
    have er : r = g := by omega
    subst er
    rw [show (6 - ((r + 1 : Nat) : Int)) + 1 = 6 - (r : Int) by omega]
    intro d h I q a b' t
    have k := ih (by omega) d h I q a b' t
    dsimp only at k
    rw [show d + (10 * r + 10) + 65 = d + (10 * (r + 1) + 10) + 55 by omega] at k
    exact k
theorem r_sumg {b : Nat → Int32} {n : Nat} (s : Nat) (hs : s = 1 ∨ s = 2) : Rdg b n s 0 (k2ss b n (ltb s) 6) (fun d h K => Cv (m_X12_sum (d + 80 + 53) 0 0) [.ref 1] h K) := by
  intro d h I q a b' t
  have k := c_sumsg (b := b) (n := n) s hs 6 (by decide) (d + 10) h I q (by omega) b' t
  dsimp only at k
  rw [show d + 10 + (10 * 6 + 10) + 53 = d + 80 + 53 by omega] at k
  exact k
theorem r_unitg {b : Nat → Int32} {n : Nat} (s : Nat) (hs : s = 1 ∨ s = 2) : Rdg b n s 0 (k2un b n (ltb s) 6) (fun d h K => Cv (m_X12_unit (d + 80 + 55) 0 0) [.ref 1] h K) := by
  intro d h I q a b' t
  exact c_unitsg (b := b) (n := n) s hs 6 (by decide) d h I q (by omega) b' t
end
