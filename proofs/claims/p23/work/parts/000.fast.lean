/-- from cell k on the bytes of c are those of w -/
def Wd_ (c w : ByteArray) (k : Nat) : Prop := ∀ i (h : i < w.size), ∃ h2 : k + i < c.size, c[k + i] = w[i]
def Sh_ {α : Type} (r r' : Jvm.ClassFile.Decoder α) : Prop := ∀ (c w : ByteArray) (k : Nat), Wd_ c w k → ∀ p a q, r w p = .ok (a, q) → r' c (k + p) = .ok (a, k + q)
theorem sh_p {α : Type} (x : α) : Sh_ (pure x) (pure x) := fun c w k _ p a q e => by
  have e' : (Except.ok (x, p) : Except Jvm.ClassFile.DecodeError (α × Nat)) = .ok (a, q) := e
  injection e' with e'
  injection e' with e1 e2
  subst e1 e2
  rfl
theorem sh_b {α β : Type} {r r' : Jvm.ClassFile.Decoder α} {f f' : α → Jvm.ClassFile.Decoder β} (h : Sh_ r r') (g : ∀ x, Sh_ (f x) (f' x)) : Sh_ (r >>= f) (r' >>= f') := fun c w k hw p a q e => by
  have e' : Except.bind (r w p) (fun y => f y.1 w y.2) = .ok (a, q) := e
  cases hr : r w p with
  | error z =>
    rw [hr] at e'
    have e2 : (Except.error z : Except Jvm.ClassFile.DecodeError (β × Nat)) = .ok (a, q) := e'
    cases e2
  | ok y =>
    obtain ⟨x, s⟩ := y
    rw [hr] at e'
    have e2 : f x w s = .ok (a, q) := e'
    have t := h c w k hw p x s hr
    show Except.bind (r' c (k + p)) (fun y => f' y.1 c y.2) = _
    rw [t]
    exact g x c w k hw s a q e2
theorem sh_m {α β : Type} {r r' : Jvm.ClassFile.Decoder α} (f : α → β) (h : Sh_ r r') : Sh_ (f <$> r) (f <$> r') := fun c w k hw p a q e => by
  have e' : Except.bind (r w p) (fun y => (.ok (f y.1, y.2) : Except Jvm.ClassFile.DecodeError (β × Nat))) = .ok (a, q) := e
  cases hr : r w p with
  | error z =>
    rw [hr] at e'
    have e2 : (Except.error z : Except Jvm.ClassFile.DecodeError (β × Nat)) = .ok (a, q) := e'
    cases e2
  | ok y =>
    obtain ⟨x, s⟩ := y
    rw [hr] at e'
    have e2 : (Except.ok (f x, s) : Except Jvm.ClassFile.DecodeError (β × Nat)) = .ok (a, q) := e'
    injection e2 with e2
    injection e2 with e3 e4
    subst e3 e4
    have t := h c w k hw p x s hr
    show Except.bind (r' c (k + p)) (fun y => (.ok (f y.1, y.2) : Except Jvm.ClassFile.DecodeError (β × Nat))) = _
    rw [t]
    rfl
theorem u1_run (c : ByteArray) (p : Nat) (h : p < c.size) : (Jvm.ClassFile.Reader.u1 : Jvm.ClassFile.Decoder Nat) c p = .ok (c[p].toNat, p + 1) := by
  show (dite (p < c.size) (fun h => ((do set (p + 1); pure c[p].toNat) : Jvm.ClassFile.Decoder Nat)) (fun _ => throw (Jvm.ClassFile.HasTruncated.truncated p))) c p = _
  rw [dif_pos h]
  rfl
theorem u1_bad (c : ByteArray) (p : Nat) (h : ¬ p < c.size) : (Jvm.ClassFile.Reader.u1 : Jvm.ClassFile.Decoder Nat) c p = .error (.truncated p) := by
  show (dite (p < c.size) (fun h => ((do set (p + 1); pure c[p].toNat) : Jvm.ClassFile.Decoder Nat)) (fun _ => throw (Jvm.ClassFile.HasTruncated.truncated p))) c p = _
  rw [dif_neg h]
  rfl
theorem sh_u1 : Sh_ (Jvm.ClassFile.Reader.u1 : Jvm.ClassFile.Decoder Nat) Jvm.ClassFile.Reader.u1 := fun c w k hw p a q e => by
  by_cases h : p < w.size
  · rw [u1_run w p h] at e
    injection e with e
    injection e with e1 e2
    obtain ⟨h2, hb⟩ := hw p h
    rw [u1_run c (k + p) h2, hb, e1, ← e2]
    rfl
  · rw [u1_bad w p h] at e
    cases e
theorem sh_u2 : Sh_ (Jvm.ClassFile.Reader.u2 : Jvm.ClassFile.Decoder Nat) Jvm.ClassFile.Reader.u2 := sh_b sh_u1 (fun _ => sh_b sh_u1 (fun _ => sh_p _))
theorem sh_s1 : Sh_ (Jvm.ClassFile.Reader.s1 : Jvm.ClassFile.Decoder Int) Jvm.ClassFile.Reader.s1 := sh_m _ sh_u1
theorem sh_s2 : Sh_ (Jvm.ClassFile.Reader.s2 : Jvm.ClassFile.Decoder Int) Jvm.ClassFile.Reader.s2 := sh_m _ sh_u2
def Aln (Q : Nat → Prop) : List Nat → Prop
  | [] => True
  | a :: r => Q a ∧ Aln Q r
theorem aln_c {Q : Nat → Prop} {a : Nat} {r : List Nat} (h : Q a) (t : Aln Q r) : Aln Q (a :: r) := ⟨h, t⟩
theorem aln_of {Q : Nat → Prop} {n : Nat} : ∀ {l : List Nat}, Aln Q l → (l.any (fun x => Nat.beq x n)) = true → Q n
  | [], _, h => by cases h
  | a :: r, ⟨h1, h2⟩, h => by
    have h' : (Nat.beq a n || r.any (fun x => Nat.beq x n)) = true := h
    rcases (Bool.or_eq_true _ _).mp h' with z | z
    · rw [← Nat.eq_of_beq_eq_true z]; exact h1
    · exact aln_of h2 z
abbrev ops_ : List Nat := [42, 43, 180, 27, 26, 28, 3, 4, 21, 182, 44, 45, 29, 5, 6, 7, 8, 2, 172, 46, 96, 79, 59, 60, 61, 62, 104, 89, 177, 100, 126, 120, 128, 122, 108, 190, 87, 51, 30, 31, 32, 33, 133, 92, 112, 84, 54, 25, 18, 181, 184, 183, 19, 187, 16, 17, 153, 154, 155, 156, 157, 158, 159, 160, 161, 162, 163, 164, 167, 198, 199, 132]
set_option maxRecDepth 10000 in
theorem ish_ : ∃ f : Nat → Nat → Jvm.ClassFile.Decoder Instr, (∀ pc, Jvm.ClassFile.Decoder.instr pc = (Jvm.ClassFile.Reader.u1 >>= f pc : Jvm.ClassFile.Decoder Instr)) ∧ ∀ pc, Aln (fun n => Sh_ (f 0 n) (f pc n)) ops_ := by
  refine ⟨_, fun pc => rfl, fun pc => ?_⟩
  unfold ops_
  refine aln_c (sh_p _) ?_
  refine aln_c (sh_p _) ?_
  refine aln_c (sh_b sh_u2 (fun _ => sh_p _)) ?_
  refine aln_c (sh_p _) ?_
  refine aln_c (sh_p _) ?_
  refine aln_c (sh_p _) ?_
  refine aln_c (sh_p _) ?_
  refine aln_c (sh_p _) ?_
  refine aln_c (sh_b sh_u1 (fun _ => sh_p _)) ?_
  refine aln_c (sh_b sh_u2 (fun _ => sh_p _)) ?_
  refine aln_c (sh_p _) ?_
  refine aln_c (sh_p _) ?_
  refine aln_c (sh_p _) ?_
  refine aln_c (sh_p _) ?_
  refine aln_c (sh_p _) ?_
  refine aln_c (sh_p _) ?_
  refine aln_c (sh_p _) ?_
  refine aln_c (sh_p _) ?_
  refine aln_c (sh_p _) ?_
  refine aln_c (sh_p _) ?_
  refine aln_c (sh_p _) ?_
  refine aln_c (sh_p _) ?_
  refine aln_c (sh_p _) ?_
  refine aln_c (sh_p _) ?_
  refine aln_c (sh_p _) ?_
  refine aln_c (sh_p _) ?_
  refine aln_c (sh_p _) ?_
  refine aln_c (sh_p _) ?_
  refine aln_c (sh_p _) ?_
  refine aln_c (sh_p _) ?_
  refine aln_c (sh_p _) ?_
  refine aln_c (sh_p _) ?_
  refine aln_c (sh_p _) ?_
  refine aln_c (sh_p _) ?_
  refine aln_c (sh_p _) ?_
  refine aln_c (sh_p _) ?_
  refine aln_c (sh_p _) ?_
  refine aln_c (sh_p _) ?_
  refine aln_c (sh_p _) ?_
  refine aln_c (sh_p _) ?_
  refine aln_c (sh_p _) ?_
  refine aln_c (sh_p _) ?_
  refine aln_c (sh_p _) ?_
  refine aln_c (sh_p _) ?_
  refine aln_c (sh_p _) ?_
  refine aln_c (sh_p _) ?_
  refine aln_c (sh_b sh_u1 (fun _ => sh_p _)) ?_
  refine aln_c (sh_b sh_u1 (fun _ => sh_p _)) ?_
  refine aln_c (sh_b sh_u1 (fun _ => sh_p _)) ?_
  refine aln_c (sh_b sh_u2 (fun _ => sh_p _)) ?_
  refine aln_c (sh_b sh_u2 (fun _ => sh_p _)) ?_
  refine aln_c (sh_b sh_u2 (fun _ => sh_p _)) ?_
  refine aln_c (sh_b sh_u2 (fun _ => sh_p _)) ?_
  refine aln_c (sh_b sh_u2 (fun _ => sh_p _)) ?_
  refine aln_c (sh_b sh_s1 (fun _ => sh_p _)) ?_
  refine aln_c (sh_b sh_s2 (fun _ => sh_p _)) ?_
  refine aln_c (sh_b sh_s2 (fun _ => sh_p _)) ?_
  refine aln_c (sh_b sh_s2 (fun _ => sh_p _)) ?_
  refine aln_c (sh_b sh_s2 (fun _ => sh_p _)) ?_
  refine aln_c (sh_b sh_s2 (fun _ => sh_p _)) ?_
  refine aln_c (sh_b sh_s2 (fun _ => sh_p _)) ?_
  refine aln_c (sh_b sh_s2 (fun _ => sh_p _)) ?_
  refine aln_c (sh_b sh_s2 (fun _ => sh_p _)) ?_
  refine aln_c (sh_b sh_s2 (fun _ => sh_p _)) ?_
  refine aln_c (sh_b sh_s2 (fun _ => sh_p _)) ?_
  refine aln_c (sh_b sh_s2 (fun _ => sh_p _)) ?_
  refine aln_c (sh_b sh_s2 (fun _ => sh_p _)) ?_
  refine aln_c (sh_b sh_s2 (fun _ => sh_p _)) ?_
  refine aln_c (sh_b sh_s2 (fun _ => sh_p _)) ?_
  refine aln_c (sh_b sh_s2 (fun _ => sh_p _)) ?_
  refine aln_c (sh_b sh_s2 (fun _ => sh_p _)) ?_
  refine aln_c (sh_b sh_u1 (fun _ => sh_b sh_s1 (fun _ => sh_p _))) ?_
  exact trivial
def opK (l : List UInt8) : Bool := ops_.any (fun x => Nat.beq x (l.headD 0).toNat)
theorem wd_ok {c : ByteArray} {k : Nat} {l : List UInt8} {x : Instr × Nat} (hw : Wd_ c ⟨⟨l⟩⟩ k) (ho : opK l = true) (e : decode ⟨⟨l⟩⟩ 0 = .ok x) : decode c k = .ok x := by
  obtain ⟨f, hf, hs⟩ := ish_
  cases l with
  | nil =>
    have e1 : Except.bind ((Jvm.ClassFile.Decoder.instr 0) ⟨⟨[]⟩⟩ 0) (fun y => (.ok (y.1, y.2 - 0) : Except Jvm.ClassFile.DecodeError (Instr × Nat))) = .ok x := e
    rw [hf 0] at e1
    have e2 : Except.bind (Except.bind ((Jvm.ClassFile.Reader.u1 : Jvm.ClassFile.Decoder Nat) ⟨⟨[]⟩⟩ 0) (fun y => f 0 y.1 ⟨⟨[]⟩⟩ y.2)) (fun y => (.ok (y.1, y.2 - 0) : Except Jvm.ClassFile.DecodeError (Instr × Nat))) = .ok x := e1
    rw [u1_bad ⟨⟨[]⟩⟩ 0 (by decide)] at e2
    cases e2
  | cons b r =>
    have e1 : Except.bind ((Jvm.ClassFile.Decoder.instr 0) ⟨⟨b :: r⟩⟩ 0) (fun y => (.ok (y.1, y.2 - 0) : Except Jvm.ClassFile.DecodeError (Instr × Nat))) = .ok x := e
    rw [hf 0] at e1
    have e2 : Except.bind (Except.bind ((Jvm.ClassFile.Reader.u1 : Jvm.ClassFile.Decoder Nat) ⟨⟨b :: r⟩⟩ 0) (fun y => f 0 y.1 ⟨⟨b :: r⟩⟩ y.2)) (fun y => (.ok (y.1, y.2 - 0) : Except Jvm.ClassFile.DecodeError (Instr × Nat))) = .ok x := e1
    have h0 : 0 < (ByteArray.mk ⟨b :: r⟩).size := Nat.zero_lt_succ _
    rw [u1_run ⟨⟨b :: r⟩⟩ 0 h0] at e2
    have e3 : Except.bind (f 0 b.toNat ⟨⟨b :: r⟩⟩ 1) (fun y => (.ok (y.1, y.2 - 0) : Except Jvm.ClassFile.DecodeError (Instr × Nat))) = .ok x := e2
    cases hr : f 0 b.toNat ⟨⟨b :: r⟩⟩ 1 with
    | error z =>
      rw [hr] at e3
      have e4 : (Except.error z : Except Jvm.ClassFile.DecodeError (Instr × Nat)) = .ok x := e3
      cases e4
    | ok y =>
      obtain ⟨j, q⟩ := y
      rw [hr] at e3
      have e4 : (Except.ok (j, q - 0) : Except Jvm.ClassFile.DecodeError (Instr × Nat)) = .ok x := e3
      injection e4 with e5
      have s := aln_of (n := b.toNat) (hs k) ho c ⟨⟨b :: r⟩⟩ k hw 1 j q hr
      obtain ⟨h2, hb⟩ := hw 0 h0
      have hb' : c[k]'h2 = b := hb
      show Except.bind ((Jvm.ClassFile.Decoder.instr k) c k) (fun y => (.ok (y.1, y.2 - k) : Except Jvm.ClassFile.DecodeError (Instr × Nat))) = _
      rw [hf k]
      show Except.bind (Except.bind ((Jvm.ClassFile.Reader.u1 : Jvm.ClassFile.Decoder Nat) c k) (fun y => f k y.1 c y.2)) (fun y => (.ok (y.1, y.2 - k) : Except Jvm.ClassFile.DecodeError (Instr × Nat))) = _
      rw [u1_run c k h2, hb']
      show Except.bind (f k b.toNat c (k + 1)) (fun y => (.ok (y.1, y.2 - k) : Except Jvm.ClassFile.DecodeError (Instr × Nat))) = _
      rw [s]
      show (Except.ok (j, k + q - k) : Except Jvm.ClassFile.DecodeError (Instr × Nat)) = _
      rw [← e5, Nat.add_sub_cancel_left, Nat.sub_zero]
theorem wd_win (c : ByteArray) (k : Nat) : Wd_ c ⟨⟨(c.data.toList.drop k).take 5⟩⟩ k := fun i h => by
  have h' : i < ((c.data.toList.drop k).take 5).length := h
  have h3 : k + i < c.data.toList.length := by
    rw [List.length_take, List.length_drop] at h'
    omega
  refine ⟨h3, ?_⟩
  show c.data.toList[k + i] = ((c.data.toList.drop k).take 5)[i]
  rw [List.getElem_take, List.getElem_drop]
def Ad_ (c : ByteArray) : List (Nat × Instr × Nat) → Prop
  | [] => True
  | a :: r => decode c a.1 = .ok a.2 ∧ Ad_ c r
def bch : List UInt8 → Nat → List (Nat × Instr × Nat) → Bool
  | _, _, [] => true
  | l, k, a :: r => Nat.ble k a.1 && (opK ((l.drop (a.1 - k)).take 5) && (decide (decode ⟨⟨(l.drop (a.1 - k)).take 5⟩⟩ 0 = .ok a.2) && bch (l.drop (a.1 - k)) a.1 r))
theorem bch_ok (c : ByteArray) : ∀ (t : List (Nat × Instr × Nat)) (k : Nat), bch (c.data.toList.drop k) k t = true → Ad_ c t
  | [], _, _ => trivial
  | a :: r, k, h => by
    have h' : (Nat.ble k a.1 && (opK (((c.data.toList.drop k).drop (a.1 - k)).take 5) && (decide (decode ⟨⟨((c.data.toList.drop k).drop (a.1 - k)).take 5⟩⟩ 0 = .ok a.2) && bch ((c.data.toList.drop k).drop (a.1 - k)) a.1 r))) = true := h
    rw [Bool.and_eq_true, Bool.and_eq_true, Bool.and_eq_true] at h'
    obtain ⟨h1, h2, h3, h4⟩ := h'
    have hk := Nat.le_of_ble_eq_true h1
    have hd : (c.data.toList.drop k).drop (a.1 - k) = c.data.toList.drop a.1 := by
      rw [List.drop_drop]
      congr 1
      omega
    rw [hd] at h2 h3 h4
    exact ⟨wd_ok (wd_win c a.1) h2 (of_decide_eq_true h3), bch_ok c r a.1 h4⟩
theorem gd_0 {c : ByteArray} {p : Nat} {i : Instr} {n : Nat} {r : List (Nat × Instr × Nat)} (h : Ad_ c ((p, i, n) :: r)) : decode c p = .ok (i, n) := h.1
theorem gd_1 {c : ByteArray} {a0 : Nat × Instr × Nat} {p : Nat} {i : Instr} {n : Nat} {r : List (Nat × Instr × Nat)} (h : Ad_ c (a0 :: (p, i, n) :: r)) : decode c p = .ok (i, n) := h.2.1
theorem gd_2 {c : ByteArray} {a0 a1 : Nat × Instr × Nat} {p : Nat} {i : Instr} {n : Nat} {r : List (Nat × Instr × Nat)} (h : Ad_ c (a0 :: a1 :: (p, i, n) :: r)) : decode c p = .ok (i, n) := h.2.2.1
theorem gd_3 {c : ByteArray} {a0 a1 a2 : Nat × Instr × Nat} {p : Nat} {i : Instr} {n : Nat} {r : List (Nat × Instr × Nat)} (h : Ad_ c (a0 :: a1 :: a2 :: (p, i, n) :: r)) : decode c p = .ok (i, n) := h.2.2.2.1
theorem gd_4 {c : ByteArray} {a0 a1 a2 a3 : Nat × Instr × Nat} {p : Nat} {i : Instr} {n : Nat} {r : List (Nat × Instr × Nat)} (h : Ad_ c (a0 :: a1 :: a2 :: a3 :: (p, i, n) :: r)) : decode c p = .ok (i, n) := h.2.2.2.2.1
theorem gd_5 {c : ByteArray} {a0 a1 a2 a3 a4 : Nat × Instr × Nat} {p : Nat} {i : Instr} {n : Nat} {r : List (Nat × Instr × Nat)} (h : Ad_ c (a0 :: a1 :: a2 :: a3 :: a4 :: (p, i, n) :: r)) : decode c p = .ok (i, n) := h.2.2.2.2.2.1
theorem gd_6 {c : ByteArray} {a0 a1 a2 a3 a4 a5 : Nat × Instr × Nat} {p : Nat} {i : Instr} {n : Nat} {r : List (Nat × Instr × Nat)} (h : Ad_ c (a0 :: a1 :: a2 :: a3 :: a4 :: a5 :: (p, i, n) :: r)) : decode c p = .ok (i, n) := h.2.2.2.2.2.2.1
theorem gd_7 {c : ByteArray} {a0 a1 a2 a3 a4 a5 a6 : Nat × Instr × Nat} {p : Nat} {i : Instr} {n : Nat} {r : List (Nat × Instr × Nat)} (h : Ad_ c (a0 :: a1 :: a2 :: a3 :: a4 :: a5 :: a6 :: (p, i, n) :: r)) : decode c p = .ok (i, n) := h.2.2.2.2.2.2.2.1
theorem gd_8 {c : ByteArray} {a0 a1 a2 a3 a4 a5 a6 a7 : Nat × Instr × Nat} {p : Nat} {i : Instr} {n : Nat} {r : List (Nat × Instr × Nat)} (h : Ad_ c (a0 :: a1 :: a2 :: a3 :: a4 :: a5 :: a6 :: a7 :: (p, i, n) :: r)) : decode c p = .ok (i, n) := h.2.2.2.2.2.2.2.2.1
theorem gd_9 {c : ByteArray} {a0 a1 a2 a3 a4 a5 a6 a7 a8 : Nat × Instr × Nat} {p : Nat} {i : Instr} {n : Nat} {r : List (Nat × Instr × Nat)} (h : Ad_ c (a0 :: a1 :: a2 :: a3 :: a4 :: a5 :: a6 :: a7 :: a8 :: (p, i, n) :: r)) : decode c p = .ok (i, n) := h.2.2.2.2.2.2.2.2.2.1
theorem gd_10 {c : ByteArray} {a0 a1 a2 a3 a4 a5 a6 a7 a8 a9 : Nat × Instr × Nat} {p : Nat} {i : Instr} {n : Nat} {r : List (Nat × Instr × Nat)} (h : Ad_ c (a0 :: a1 :: a2 :: a3 :: a4 :: a5 :: a6 :: a7 :: a8 :: a9 :: (p, i, n) :: r)) : decode c p = .ok (i, n) := h.2.2.2.2.2.2.2.2.2.2.1
theorem gd_11 {c : ByteArray} {a0 a1 a2 a3 a4 a5 a6 a7 a8 a9 a10 : Nat × Instr × Nat} {p : Nat} {i : Instr} {n : Nat} {r : List (Nat × Instr × Nat)} (h : Ad_ c (a0 :: a1 :: a2 :: a3 :: a4 :: a5 :: a6 :: a7 :: a8 :: a9 :: a10 :: (p, i, n) :: r)) : decode c p = .ok (i, n) := h.2.2.2.2.2.2.2.2.2.2.2.1
theorem gd_12 {c : ByteArray} {a0 a1 a2 a3 a4 a5 a6 a7 a8 a9 a10 a11 : Nat × Instr × Nat} {p : Nat} {i : Instr} {n : Nat} {r : List (Nat × Instr × Nat)} (h : Ad_ c (a0 :: a1 :: a2 :: a3 :: a4 :: a5 :: a6 :: a7 :: a8 :: a9 :: a10 :: a11 :: (p, i, n) :: r)) : decode c p = .ok (i, n) := h.2.2.2.2.2.2.2.2.2.2.2.2.1
theorem gd_13 {c : ByteArray} {a0 a1 a2 a3 a4 a5 a6 a7 a8 a9 a10 a11 a12 : Nat × Instr × Nat} {p : Nat} {i : Instr} {n : Nat} {r : List (Nat × Instr × Nat)} (h : Ad_ c (a0 :: a1 :: a2 :: a3 :: a4 :: a5 :: a6 :: a7 :: a8 :: a9 :: a10 :: a11 :: a12 :: (p, i, n) :: r)) : decode c p = .ok (i, n) := h.2.2.2.2.2.2.2.2.2.2.2.2.2.1
theorem gd_14 {c : ByteArray} {a0 a1 a2 a3 a4 a5 a6 a7 a8 a9 a10 a11 a12 a13 : Nat × Instr × Nat} {p : Nat} {i : Instr} {n : Nat} {r : List (Nat × Instr × Nat)} (h : Ad_ c (a0 :: a1 :: a2 :: a3 :: a4 :: a5 :: a6 :: a7 :: a8 :: a9 :: a10 :: a11 :: a12 :: a13 :: (p, i, n) :: r)) : decode c p = .ok (i, n) := h.2.2.2.2.2.2.2.2.2.2.2.2.2.2.1
theorem gd_15 {c : ByteArray} {a0 a1 a2 a3 a4 a5 a6 a7 a8 a9 a10 a11 a12 a13 a14 : Nat × Instr × Nat} {p : Nat} {i : Instr} {n : Nat} {r : List (Nat × Instr × Nat)} (h : Ad_ c (a0 :: a1 :: a2 :: a3 :: a4 :: a5 :: a6 :: a7 :: a8 :: a9 :: a10 :: a11 :: a12 :: a13 :: a14 :: (p, i, n) :: r)) : decode c p = .ok (i, n) := h.2.2.2.2.2.2.2.2.2.2.2.2.2.2.2.1
theorem gd_16 {c : ByteArray} {a0 a1 a2 a3 a4 a5 a6 a7 a8 a9 a10 a11 a12 a13 a14 a15 : Nat × Instr × Nat} {p : Nat} {i : Instr} {n : Nat} {r : List (Nat × Instr × Nat)} (h : Ad_ c (a0 :: a1 :: a2 :: a3 :: a4 :: a5 :: a6 :: a7 :: a8 :: a9 :: a10 :: a11 :: a12 :: a13 :: a14 :: a15 :: (p, i, n) :: r)) : decode c p = .ok (i, n) := h.2.2.2.2.2.2.2.2.2.2.2.2.2.2.2.2.1
theorem gd_17 {c : ByteArray} {a0 a1 a2 a3 a4 a5 a6 a7 a8 a9 a10 a11 a12 a13 a14 a15 a16 : Nat × Instr × Nat} {p : Nat} {i : Instr} {n : Nat} {r : List (Nat × Instr × Nat)} (h : Ad_ c (a0 :: a1 :: a2 :: a3 :: a4 :: a5 :: a6 :: a7 :: a8 :: a9 :: a10 :: a11 :: a12 :: a13 :: a14 :: a15 :: a16 :: (p, i, n) :: r)) : decode c p = .ok (i, n) := h.2.2.2.2.2.2.2.2.2.2.2.2.2.2.2.2.2.1
theorem gd_18 {c : ByteArray} {a0 a1 a2 a3 a4 a5 a6 a7 a8 a9 a10 a11 a12 a13 a14 a15 a16 a17 : Nat × Instr × Nat} {p : Nat} {i : Instr} {n : Nat} {r : List (Nat × Instr × Nat)} (h : Ad_ c (a0 :: a1 :: a2 :: a3 :: a4 :: a5 :: a6 :: a7 :: a8 :: a9 :: a10 :: a11 :: a12 :: a13 :: a14 :: a15 :: a16 :: a17 :: (p, i, n) :: r)) : decode c p = .ok (i, n) := h.2.2.2.2.2.2.2.2.2.2.2.2.2.2.2.2.2.2.1
theorem gd_19 {c : ByteArray} {a0 a1 a2 a3 a4 a5 a6 a7 a8 a9 a10 a11 a12 a13 a14 a15 a16 a17 a18 : Nat × Instr × Nat} {p : Nat} {i : Instr} {n : Nat} {r : List (Nat × Instr × Nat)} (h : Ad_ c (a0 :: a1 :: a2 :: a3 :: a4 :: a5 :: a6 :: a7 :: a8 :: a9 :: a10 :: a11 :: a12 :: a13 :: a14 :: a15 :: a16 :: a17 :: a18 :: (p, i, n) :: r)) : decode c p = .ok (i, n) := h.2.2.2.2.2.2.2.2.2.2.2.2.2.2.2.2.2.2.2.1
theorem gd_20 {c : ByteArray} {a0 a1 a2 a3 a4 a5 a6 a7 a8 a9 a10 a11 a12 a13 a14 a15 a16 a17 a18 a19 : Nat × Instr × Nat} {p : Nat} {i : Instr} {n : Nat} {r : List (Nat × Instr × Nat)} (h : Ad_ c (a0 :: a1 :: a2 :: a3 :: a4 :: a5 :: a6 :: a7 :: a8 :: a9 :: a10 :: a11 :: a12 :: a13 :: a14 :: a15 :: a16 :: a17 :: a18 :: a19 :: (p, i, n) :: r)) : decode c p = .ok (i, n) := h.2.2.2.2.2.2.2.2.2.2.2.2.2.2.2.2.2.2.2.2.1
theorem gd_21 {c : ByteArray} {a0 a1 a2 a3 a4 a5 a6 a7 a8 a9 a10 a11 a12 a13 a14 a15 a16 a17 a18 a19 a20 : Nat × Instr × Nat} {p : Nat} {i : Instr} {n : Nat} {r : List (Nat × Instr × Nat)} (h : Ad_ c (a0 :: a1 :: a2 :: a3 :: a4 :: a5 :: a6 :: a7 :: a8 :: a9 :: a10 :: a11 :: a12 :: a13 :: a14 :: a15 :: a16 :: a17 :: a18 :: a19 :: a20 :: (p, i, n) :: r)) : decode c p = .ok (i, n) := h.2.2.2.2.2.2.2.2.2.2.2.2.2.2.2.2.2.2.2.2.2.1
theorem gd_22 {c : ByteArray} {a0 a1 a2 a3 a4 a5 a6 a7 a8 a9 a10 a11 a12 a13 a14 a15 a16 a17 a18 a19 a20 a21 : Nat × Instr × Nat} {p : Nat} {i : Instr} {n : Nat} {r : List (Nat × Instr × Nat)} (h : Ad_ c (a0 :: a1 :: a2 :: a3 :: a4 :: a5 :: a6 :: a7 :: a8 :: a9 :: a10 :: a11 :: a12 :: a13 :: a14 :: a15 :: a16 :: a17 :: a18 :: a19 :: a20 :: a21 :: (p, i, n) :: r)) : decode c p = .ok (i, n) := h.2.2.2.2.2.2.2.2.2.2.2.2.2.2.2.2.2.2.2.2.2.2.1
theorem gd_23 {c : ByteArray} {a0 a1 a2 a3 a4 a5 a6 a7 a8 a9 a10 a11 a12 a13 a14 a15 a16 a17 a18 a19 a20 a21 a22 : Nat × Instr × Nat} {p : Nat} {i : Instr} {n : Nat} {r : List (Nat × Instr × Nat)} (h : Ad_ c (a0 :: a1 :: a2 :: a3 :: a4 :: a5 :: a6 :: a7 :: a8 :: a9 :: a10 :: a11 :: a12 :: a13 :: a14 :: a15 :: a16 :: a17 :: a18 :: a19 :: a20 :: a21 :: a22 :: (p, i, n) :: r)) : decode c p = .ok (i, n) := h.2.2.2.2.2.2.2.2.2.2.2.2.2.2.2.2.2.2.2.2.2.2.2.1
