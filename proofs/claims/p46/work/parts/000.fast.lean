/-- from cell k on the bytes of c are those of w -/
noncomputable def Wd_ (c w : ByteArray) (k : Nat) : Prop := ∀ i (h : i < w.size), ∃ h2 : k + i < c.size, c[k + i] = w[i]
noncomputable def Sh_ {α : Type} (r r' : Jvm.ClassFile.Decoder α) : Prop := ∀ (c w : ByteArray) (k : Nat), Wd_ c w k → ∀ p a q, r w p = .ok (a, q) → r' c (k + p) = .ok (a, k + q)
theorem sh_p {α : Type} (x : α) : Sh_ (pure x) (pure x) := fun c w k _ p a q e => by
  have e' : (Except.ok (x, p) : Except Jvm.ClassFile.DecodeError (α × Nat)) = .ok (a, q) := e
  injection e' with e'
  injection e' with e1 e2
  subst e1 e2
  rfl
theorem sh_b {α β : Type} {r r' : Jvm.ClassFile.Decoder α} {f f' : α → Jvm.ClassFile.Decoder β} (h : Sh_ r r') (g : ∀ x, Sh_ (f x) (f' x)) : Sh_ (r >>= f) (r' >>= f') := fun c w k hw p a q e => by
  have e' : Except.bind (r w p) (fun y => f y.1 w y.2) = .ok (a, q) := e
  cases hr : r w p with
  | error z =>
    rw [hr] at e'
    have e2 : (Except.error z : Except Jvm.ClassFile.DecodeError (β × Nat)) = .ok (a, q) := e'
    cases e2
  | ok y =>
    obtain ⟨x, s⟩ := y
    rw [hr] at e'
    have e2 : f x w s = .ok (a, q) := e'
    have t := h c w k hw p x s hr
    show Except.bind (r' c (k + p)) (fun y => f' y.1 c y.2) = _
    rw [t]
    exact g x c w k hw s a q e2
theorem sh_m {α β : Type} {r r' : Jvm.ClassFile.Decoder α} (f : α → β) (h : Sh_ r r') : Sh_ (f <$> r) (f <$> r') := fun c w k hw p a q e => by
  have e' : Except.bind (r w p) (fun y => (.ok (f y.1, y.2) : Except Jvm.ClassFile.DecodeError (β × Nat))) = .ok (a, q) := e
  cases hr : r w p with
  | error z =>
    rw [hr] at e'
    have e2 : (Except.error z : Except Jvm.ClassFile.DecodeError (β × Nat)) = .ok (a, q) := e'
    cases e2
  | ok y =>
    obtain ⟨x, s⟩ := y
    rw [hr] at e'
    have e2 : (Except.ok (f x, s) : Except Jvm.ClassFile.DecodeError (β × Nat)) = .ok (a, q) := e'
    injection e2 with e2
    injection e2 with e3 e4
    subst e3 e4
    have t := h c w k hw p x s hr
    show Except.bind (r' c (k + p)) (fun y => (.ok (f y.1, y.2) : Except Jvm.ClassFile.DecodeError (β × Nat))) = _
    rw [t]
    rfl
theorem u1_run (c : ByteArray) (p : Nat) (h : p < c.size) : (Jvm.ClassFile.Reader.u1 : Jvm.ClassFile.Decoder Nat) c p = .ok (c[p].toNat, p + 1) := by
  show (dite (p < c.size) (fun h => ((do set (p + 1); pure c[p].toNat) : Jvm.ClassFile.Decoder Nat)) (fun _ => throw (Jvm.ClassFile.HasTruncated.truncated p))) c p = _
  rw [dif_pos h]
  rfl
theorem u1_bad (c : ByteArray) (p : Nat) (h : ¬ p < c.size) : (Jvm.ClassFile.Reader.u1 : Jvm.ClassFile.Decoder Nat) c p = .error (.truncated p) := by
  show (dite (p < c.size) (fun h => ((do set (p + 1); pure c[p].toNat) : Jvm.ClassFile.Decoder Nat)) (fun _ => throw (Jvm.ClassFile.HasTruncated.truncated p))) c p = _
  rw [dif_neg h]
  rfl
theorem sh_u1 : Sh_ (Jvm.ClassFile.Reader.u1 : Jvm.ClassFile.Decoder Nat) Jvm.ClassFile.Reader.u1 := fun c w k hw p a q e => by
  by_cases h : p < w.size
  · rw [u1_run w p h] at e
    injection e with e
    injection e with e1 e2
    obtain ⟨h2, hb⟩ := hw p h
    rw [u1_run c (k + p) h2, hb, e1, ← e2]
    rfl
  · rw [u1_bad w p h] at e
    cases e
theorem sh_u2 : Sh_ (Jvm.ClassFile.Reader.u2 : Jvm.ClassFile.Decoder Nat) Jvm.ClassFile.Reader.u2 := sh_b sh_u1 (fun _ => sh_b sh_u1 (fun _ => sh_p _))
theorem sh_s1 : Sh_ (Jvm.ClassFile.Reader.s1 : Jvm.ClassFile.Decoder Int) Jvm.ClassFile.Reader.s1 := sh_m _ sh_u1
theorem sh_s2 : Sh_ (Jvm.ClassFile.Reader.s2 : Jvm.ClassFile.Decoder Int) Jvm.ClassFile.Reader.s2 := sh_m _ sh_u2
noncomputable def Aln (Q : Nat → Prop) : List Nat → Prop
  | [] => True
  | a :: r => Q a ∧ Aln Q r
theorem aln_c {Q : Nat → Prop} {a : Nat} {r : List Nat} (h : Q a) (t : Aln Q r) : Aln Q (a :: r) := ⟨h, t⟩
theorem aln_of {Q : Nat → Prop} {n : Nat} : ∀ {l : List Nat}, Aln Q l → (l.any (fun x => Nat.beq x n)) = true → Q n
  | [], _, h => by cases h
  | a :: r, ⟨h1, h2⟩, h => by
    have h' : (Nat.beq a n || r.any (fun x => Nat.beq x n)) = true := h
    rcases (Bool.or_eq_true _ _).mp h' with z | z
    · rw [← Nat.eq_of_beq_eq_true z]; exact h1
    · exact aln_of h2 z
noncomputable abbrev ops_ : List Nat := [42, 43, 180, 27, 26, 28, 3, 4, 21, 182, 44, 45, 29, 5, 6, 7, 8, 2, 172, 46, 96, 79, 59, 60, 61, 62, 104, 89, 177, 100, 126, 120, 128, 122, 108, 190, 87, 51, 30, 31, 32, 33, 133, 92, 112, 84, 54, 25, 18, 181, 184, 183, 19, 187, 16, 17, 153, 154, 155, 156, 157, 158, 159, 160, 161, 162, 163, 164, 167, 198, 199, 132]
set_option maxRecDepth 10000 in
theorem ish_ : ∃ f : Nat → Nat → Jvm.ClassFile.Decoder Instr, (∀ pc, Jvm.ClassFile.Decoder.instr pc = (Jvm.ClassFile.Reader.u1 >>= f pc : Jvm.ClassFile.Decoder Instr)) ∧ ∀ pc, Aln (fun n => Sh_ (f 0 n) (f pc n)) ops_ := by
  refine ⟨_, fun pc => rfl, fun pc => ?_⟩
  unfold ops_
  refine aln_c (sh_p _) ?_
  refine aln_c (sh_p _) ?_
  refine aln_c (sh_b sh_u2 (fun _ => sh_p _)) ?_
  refine aln_c (sh_p _) ?_
  refine aln_c (sh_p _) ?_
  refine aln_c (sh_p _) ?_
  refine aln_c (sh_p _) ?_
  refine aln_c (sh_p _) ?_
  refine aln_c (sh_b sh_u1 (fun _ => sh_p _)) ?_
  refine aln_c (sh_b sh_u2 (fun _ => sh_p _)) ?_
  refine aln_c (sh_p _) ?_
  refine aln_c (sh_p _) ?_
  refine aln_c (sh_p _) ?_
  refine aln_c (sh_p _) ?_
  refine aln_c (sh_p _) ?_
  refine aln_c (sh_p _) ?_
  refine aln_c (sh_p _) ?_
  refine aln_c (sh_p _) ?_
  refine aln_c (sh_p _) ?_
  refine aln_c (sh_p _) ?_
  refine aln_c (sh_p _) ?_
  refine aln_c (sh_p _) ?_
  refine aln_c (sh_p _) ?_
  refine aln_c (sh_p _) ?_
  refine aln_c (sh_p _) ?_
  refine aln_c (sh_p _) ?_
  refine aln_c (sh_p _) ?_
  refine aln_c (sh_p _) ?_
  refine aln_c (sh_p _) ?_
  refine aln_c (sh_p _) ?_
  refine aln_c (sh_p _) ?_
  refine aln_c (sh_p _) ?_
  refine aln_c (sh_p _) ?_
  refine aln_c (sh_p _) ?_
  refine aln_c (sh_p _) ?_
  refine aln_c (sh_p _) ?_
  refine aln_c (sh_p _) ?_
  refine aln_c (sh_p _) ?_
  refine aln_c (sh_p _) ?_
  refine aln_c (sh_p _) ?_
  refine aln_c (sh_p _) ?_
  refine aln_c (sh_p _) ?_
  refine aln_c (sh_p _) ?_
  refine aln_c (sh_p _) ?_
  refine aln_c (sh_p _) ?_
  refine aln_c (sh_p _) ?_
  refine aln_c (sh_b sh_u1 (fun _ => sh_p _)) ?_
  refine aln_c (sh_b sh_u1 (fun _ => sh_p _)) ?_
  refine aln_c (sh_b sh_u1 (fun _ => sh_p _)) ?_
  refine aln_c (sh_b sh_u2 (fun _ => sh_p _)) ?_
  refine aln_c (sh_b sh_u2 (fun _ => sh_p _)) ?_
  refine aln_c (sh_b sh_u2 (fun _ => sh_p _)) ?_
  refine aln_c (sh_b sh_u2 (fun _ => sh_p _)) ?_
  refine aln_c (sh_b sh_u2 (fun _ => sh_p _)) ?_
  refine aln_c (sh_b sh_s1 (fun _ => sh_p _)) ?_
  refine aln_c (sh_b sh_s2 (fun _ => sh_p _)) ?_
  refine aln_c (sh_b sh_s2 (fun _ => sh_p _)) ?_
  refine aln_c (sh_b sh_s2 (fun _ => sh_p _)) ?_
  refine aln_c (sh_b sh_s2 (fun _ => sh_p _)) ?_
  refine aln_c (sh_b sh_s2 (fun _ => sh_p _)) ?_
  refine aln_c (sh_b sh_s2 (fun _ => sh_p _)) ?_
  refine aln_c (sh_b sh_s2 (fun _ => sh_p _)) ?_
  refine aln_c (sh_b sh_s2 (fun _ => sh_p _)) ?_
  refine aln_c (sh_b sh_s2 (fun _ => sh_p _)) ?_
  refine aln_c (sh_b sh_s2 (fun _ => sh_p _)) ?_
  refine aln_c (sh_b sh_s2 (fun _ => sh_p _)) ?_
  refine aln_c (sh_b sh_s2 (fun _ => sh_p _)) ?_
  refine aln_c (sh_b sh_s2 (fun _ => sh_p _)) ?_
  refine aln_c (sh_b sh_s2 (fun _ => sh_p _)) ?_
  refine aln_c (sh_b sh_s2 (fun _ => sh_p _)) ?_
  refine aln_c (sh_b sh_s2 (fun _ => sh_p _)) ?_
  refine aln_c (sh_b sh_u1 (fun _ => sh_b sh_s1 (fun _ => sh_p _))) ?_
  exact trivial
noncomputable def opK (l : List UInt8) : Bool := ops_.any (fun x => Nat.beq x (l.headD 0).toNat)
theorem wd_ok {c : ByteArray} {k : Nat} {l : List UInt8} {x : Instr × Nat} (hw : Wd_ c ⟨⟨l⟩⟩ k) (ho : opK l = true) (e : decode ⟨⟨l⟩⟩ 0 = .ok x) : decode c k = .ok x := by
  obtain ⟨f, hf, hs⟩ := ish_
  cases l with
  | nil =>
    have e1 : Except.bind ((Jvm.ClassFile.Decoder.instr 0) ⟨⟨[]⟩⟩ 0) (fun y => (.ok (y.1, y.2 - 0) : Except Jvm.ClassFile.DecodeError (Instr × Nat))) = .ok x := e
    rw [hf 0] at e1
    have e2 : Except.bind (Except.bind ((Jvm.ClassFile.Reader.u1 : Jvm.ClassFile.Decoder Nat) ⟨⟨[]⟩⟩ 0) (fun y => f 0 y.1 ⟨⟨[]⟩⟩ y.2)) (fun y => (.ok (y.1, y.2 - 0) : Except Jvm.ClassFile.DecodeError (Instr × Nat))) = .ok x := e1
    rw [u1_bad ⟨⟨[]⟩⟩ 0 (by decide)] at e2
    cases e2
  | cons b r =>
    have e1 : Except.bind ((Jvm.ClassFile.Decoder.instr 0) ⟨⟨b :: r⟩⟩ 0) (fun y => (.ok (y.1, y.2 - 0) : Except Jvm.ClassFile.DecodeError (Instr × Nat))) = .ok x := e
    rw [hf 0] at e1
    have e2 : Except.bind (Except.bind ((Jvm.ClassFile.Reader.u1 : Jvm.ClassFile.Decoder Nat) ⟨⟨b :: r⟩⟩ 0) (fun y => f 0 y.1 ⟨⟨b :: r⟩⟩ y.2)) (fun y => (.ok (y.1, y.2 - 0) : Except Jvm.ClassFile.DecodeError (Instr × Nat))) = .ok x := e1
    have h0 : 0 < (ByteArray.mk ⟨b :: r⟩).size := Nat.zero_lt_succ _
    rw [u1_run ⟨⟨b :: r⟩⟩ 0 h0] at e2
    have e3 : Except.bind (f 0 b.toNat ⟨⟨b :: r⟩⟩ 1) (fun y => (.ok (y.1, y.2 - 0) : Except Jvm.ClassFile.DecodeError (Instr × Nat))) = .ok x := e2
    cases hr : f 0 b.toNat ⟨⟨b :: r⟩⟩ 1 with
    | error z =>
      rw [hr] at e3
      have e4 : (Except.error z : Except Jvm.ClassFile.DecodeError (Instr × Nat)) = .ok x := e3
      cases e4
    | ok y =>
      obtain ⟨j, q⟩ := y
      rw [hr] at e3
      have e4 : (Except.ok (j, q - 0) : Except Jvm.ClassFile.DecodeError (Instr × Nat)) = .ok x := e3
      injection e4 with e5
      have s := aln_of (n := b.toNat) (hs k) ho c ⟨⟨b :: r⟩⟩ k hw 1 j q hr
      obtain ⟨h2, hb⟩ := hw 0 h0
      have hb' : c[k]'h2 = b := hb
      show Except.bind ((Jvm.ClassFile.Decoder.instr k) c k) (fun y => (.ok (y.1, y.2 - k) : Except Jvm.ClassFile.DecodeError (Instr × Nat))) = _
      rw [hf k]
      show Except.bind (Except.bind ((Jvm.ClassFile.Reader.u1 : Jvm.ClassFile.Decoder Nat) c k) (fun y => f k y.1 c y.2)) (fun y => (.ok (y.1, y.2 - k) : Except Jvm.ClassFile.DecodeError (Instr × Nat))) = _
      rw [u1_run c k h2, hb']
      show Except.bind (f k b.toNat c (k + 1)) (fun y => (.ok (y.1, y.2 - k) : Except Jvm.ClassFile.DecodeError (Instr × Nat))) = _
      rw [s]
      show (Except.ok (j, k + q - k) : Except Jvm.ClassFile.DecodeError (Instr × Nat)) = _
      rw [← e5, Nat.add_sub_cancel_left, Nat.sub_zero]
theorem wd_wn (c : ByteArray) (k n : Nat) : Wd_ c ⟨⟨(c.data.toList.drop k).take n⟩⟩ k := fun i h => by
  have h' : i < ((c.data.toList.drop k).take n).length := h
  have h3 : k + i < c.data.toList.length := by
    rw [List.length_take, List.length_drop] at h'
    omega
  refine ⟨h3, ?_⟩
  show c.data.toList[k + i] = ((c.data.toList.drop k).take n)[i]
  rw [List.getElem_take, List.getElem_drop]
noncomputable def Pf_ (c : ByteArray) : List (Nat × List UInt8) → Prop
  | [] => True
  | a :: r => Wd_ c ⟨⟨a.2⟩⟩ a.1 ∧ Pf_ c r
noncomputable def preb : List UInt8 → List UInt8 → Bool
  | [], _ => true
  | _ :: _, [] => false
  | a :: r, b :: s => Nat.beq a.toNat b.toNat && preb r s
theorem preb_ok : ∀ (l m : List UInt8), preb l m = true → l = m.take l.length
  | [], _, _ => List.take_zero.symm
  | _ :: _, [], h => by cases h
  | a :: r, b :: s, h => by
    have h' : (Nat.beq a.toNat b.toNat && preb r s) = true := h
    rw [Bool.and_eq_true] at h'
    have e : a = b := UInt8.toNat_inj.mp (Nat.eq_of_beq_eq_true h'.1)
    show a :: r = b :: s.take r.length
    rw [e, ← preb_ok r s h'.2]
noncomputable def pfc : List UInt8 → Nat → List (Nat × List UInt8) → Bool
  | _, _, [] => true
  | l, k, a :: r => Nat.ble k a.1 && (preb a.2 (l.drop (a.1 - k)) && pfc (l.drop (a.1 - k)) a.1 r)
theorem pf_ok (c : ByteArray) : ∀ (t : List (Nat × List UInt8)) (k : Nat), pfc (c.data.toList.drop k) k t = true → Pf_ c t
  | [], _, _ => trivial
  | a :: r, k, h => by
    have h' : (Nat.ble k a.1 && (preb a.2 ((c.data.toList.drop k).drop (a.1 - k)) && pfc ((c.data.toList.drop k).drop (a.1 - k)) a.1 r)) = true := h
    rw [Bool.and_eq_true, Bool.and_eq_true] at h'
    obtain ⟨h1, h2, h4⟩ := h'
    have hk := Nat.le_of_ble_eq_true h1
    have hd : (c.data.toList.drop k).drop (a.1 - k) = c.data.toList.drop a.1 := by
      rw [List.drop_drop]
      congr 1
      omega
    rw [hd] at h2 h4
    have e := preb_ok _ _ h2
    have w := wd_wn c a.1 a.2.length
    rw [← e] at w
    exact ⟨w, pf_ok c r a.1 h4⟩
theorem gq_0 {c : ByteArray} {p : Nat} {l : List UInt8} {x : Instr × Nat} {r : List (Nat × List UInt8)} (h : Pf_ c ((p, l) :: r)) (e : opK l = true ∧ decode ⟨⟨l⟩⟩ 0 = .ok x) : decode c p = .ok x := wd_ok h.1 e.1 e.2
theorem gq_1 {c : ByteArray} {a0 : Nat × List UInt8} {p : Nat} {l : List UInt8} {x : Instr × Nat} {r : List (Nat × List UInt8)} (h : Pf_ c (a0 :: (p, l) :: r)) (e : opK l = true ∧ decode ⟨⟨l⟩⟩ 0 = .ok x) : decode c p = .ok x := wd_ok h.2.1 e.1 e.2
theorem gq_2 {c : ByteArray} {a0 a1 : Nat × List UInt8} {p : Nat} {l : List UInt8} {x : Instr × Nat} {r : List (Nat × List UInt8)} (h : Pf_ c (a0 :: a1 :: (p, l) :: r)) (e : opK l = true ∧ decode ⟨⟨l⟩⟩ 0 = .ok x) : decode c p = .ok x := wd_ok h.2.2.1 e.1 e.2
theorem gq_3 {c : ByteArray} {a0 a1 a2 : Nat × List UInt8} {p : Nat} {l : List UInt8} {x : Instr × Nat} {r : List (Nat × List UInt8)} (h : Pf_ c (a0 :: a1 :: a2 :: (p, l) :: r)) (e : opK l = true ∧ decode ⟨⟨l⟩⟩ 0 = .ok x) : decode c p = .ok x := wd_ok h.2.2.2.1 e.1 e.2
theorem gq_4 {c : ByteArray} {a0 a1 a2 a3 : Nat × List UInt8} {p : Nat} {l : List UInt8} {x : Instr × Nat} {r : List (Nat × List UInt8)} (h : Pf_ c (a0 :: a1 :: a2 :: a3 :: (p, l) :: r)) (e : opK l = true ∧ decode ⟨⟨l⟩⟩ 0 = .ok x) : decode c p = .ok x := wd_ok h.2.2.2.2.1 e.1 e.2
theorem gq_5 {c : ByteArray} {a0 a1 a2 a3 a4 : Nat × List UInt8} {p : Nat} {l : List UInt8} {x : Instr × Nat} {r : List (Nat × List UInt8)} (h : Pf_ c (a0 :: a1 :: a2 :: a3 :: a4 :: (p, l) :: r)) (e : opK l = true ∧ decode ⟨⟨l⟩⟩ 0 = .ok x) : decode c p = .ok x := wd_ok h.2.2.2.2.2.1 e.1 e.2
theorem gq_6 {c : ByteArray} {a0 a1 a2 a3 a4 a5 : Nat × List UInt8} {p : Nat} {l : List UInt8} {x : Instr × Nat} {r : List (Nat × List UInt8)} (h : Pf_ c (a0 :: a1 :: a2 :: a3 :: a4 :: a5 :: (p, l) :: r)) (e : opK l = true ∧ decode ⟨⟨l⟩⟩ 0 = .ok x) : decode c p = .ok x := wd_ok h.2.2.2.2.2.2.1 e.1 e.2
theorem gq_7 {c : ByteArray} {a0 a1 a2 a3 a4 a5 a6 : Nat × List UInt8} {p : Nat} {l : List UInt8} {x : Instr × Nat} {r : List (Nat × List UInt8)} (h : Pf_ c (a0 :: a1 :: a2 :: a3 :: a4 :: a5 :: a6 :: (p, l) :: r)) (e : opK l = true ∧ decode ⟨⟨l⟩⟩ 0 = .ok x) : decode c p = .ok x := wd_ok h.2.2.2.2.2.2.2.1 e.1 e.2
theorem gq_8 {c : ByteArray} {a0 a1 a2 a3 a4 a5 a6 a7 : Nat × List UInt8} {p : Nat} {l : List UInt8} {x : Instr × Nat} {r : List (Nat × List UInt8)} (h : Pf_ c (a0 :: a1 :: a2 :: a3 :: a4 :: a5 :: a6 :: a7 :: (p, l) :: r)) (e : opK l = true ∧ decode ⟨⟨l⟩⟩ 0 = .ok x) : decode c p = .ok x := wd_ok h.2.2.2.2.2.2.2.2.1 e.1 e.2
theorem gq_9 {c : ByteArray} {a0 a1 a2 a3 a4 a5 a6 a7 a8 : Nat × List UInt8} {p : Nat} {l : List UInt8} {x : Instr × Nat} {r : List (Nat × List UInt8)} (h : Pf_ c (a0 :: a1 :: a2 :: a3 :: a4 :: a5 :: a6 :: a7 :: a8 :: (p, l) :: r)) (e : opK l = true ∧ decode ⟨⟨l⟩⟩ 0 = .ok x) : decode c p = .ok x := wd_ok h.2.2.2.2.2.2.2.2.2.1 e.1 e.2
theorem gq_10 {c : ByteArray} {a0 a1 a2 a3 a4 a5 a6 a7 a8 a9 : Nat × List UInt8} {p : Nat} {l : List UInt8} {x : Instr × Nat} {r : List (Nat × List UInt8)} (h : Pf_ c (a0 :: a1 :: a2 :: a3 :: a4 :: a5 :: a6 :: a7 :: a8 :: a9 :: (p, l) :: r)) (e : opK l = true ∧ decode ⟨⟨l⟩⟩ 0 = .ok x) : decode c p = .ok x := wd_ok h.2.2.2.2.2.2.2.2.2.2.1 e.1 e.2
theorem gq_11 {c : ByteArray} {a0 a1 a2 a3 a4 a5 a6 a7 a8 a9 a10 : Nat × List UInt8} {p : Nat} {l : List UInt8} {x : Instr × Nat} {r : List (Nat × List UInt8)} (h : Pf_ c (a0 :: a1 :: a2 :: a3 :: a4 :: a5 :: a6 :: a7 :: a8 :: a9 :: a10 :: (p, l) :: r)) (e : opK l = true ∧ decode ⟨⟨l⟩⟩ 0 = .ok x) : decode c p = .ok x := wd_ok h.2.2.2.2.2.2.2.2.2.2.2.1 e.1 e.2
theorem gq_12 {c : ByteArray} {a0 a1 a2 a3 a4 a5 a6 a7 a8 a9 a10 a11 : Nat × List UInt8} {p : Nat} {l : List UInt8} {x : Instr × Nat} {r : List (Nat × List UInt8)} (h : Pf_ c (a0 :: a1 :: a2 :: a3 :: a4 :: a5 :: a6 :: a7 :: a8 :: a9 :: a10 :: a11 :: (p, l) :: r)) (e : opK l = true ∧ decode ⟨⟨l⟩⟩ 0 = .ok x) : decode c p = .ok x := wd_ok h.2.2.2.2.2.2.2.2.2.2.2.2.1 e.1 e.2
theorem gq_13 {c : ByteArray} {a0 a1 a2 a3 a4 a5 a6 a7 a8 a9 a10 a11 a12 : Nat × List UInt8} {p : Nat} {l : List UInt8} {x : Instr × Nat} {r : List (Nat × List UInt8)} (h : Pf_ c (a0 :: a1 :: a2 :: a3 :: a4 :: a5 :: a6 :: a7 :: a8 :: a9 :: a10 :: a11 :: a12 :: (p, l) :: r)) (e : opK l = true ∧ decode ⟨⟨l⟩⟩ 0 = .ok x) : decode c p = .ok x := wd_ok h.2.2.2.2.2.2.2.2.2.2.2.2.2.1 e.1 e.2
theorem gq_14 {c : ByteArray} {a0 a1 a2 a3 a4 a5 a6 a7 a8 a9 a10 a11 a12 a13 : Nat × List UInt8} {p : Nat} {l : List UInt8} {x : Instr × Nat} {r : List (Nat × List UInt8)} (h : Pf_ c (a0 :: a1 :: a2 :: a3 :: a4 :: a5 :: a6 :: a7 :: a8 :: a9 :: a10 :: a11 :: a12 :: a13 :: (p, l) :: r)) (e : opK l = true ∧ decode ⟨⟨l⟩⟩ 0 = .ok x) : decode c p = .ok x := wd_ok h.2.2.2.2.2.2.2.2.2.2.2.2.2.2.1 e.1 e.2
theorem gq_15 {c : ByteArray} {a0 a1 a2 a3 a4 a5 a6 a7 a8 a9 a10 a11 a12 a13 a14 : Nat × List UInt8} {p : Nat} {l : List UInt8} {x : Instr × Nat} {r : List (Nat × List UInt8)} (h : Pf_ c (a0 :: a1 :: a2 :: a3 :: a4 :: a5 :: a6 :: a7 :: a8 :: a9 :: a10 :: a11 :: a12 :: a13 :: a14 :: (p, l) :: r)) (e : opK l = true ∧ decode ⟨⟨l⟩⟩ 0 = .ok x) : decode c p = .ok x := wd_ok h.2.2.2.2.2.2.2.2.2.2.2.2.2.2.2.1 e.1 e.2
theorem gq_16 {c : ByteArray} {a0 a1 a2 a3 a4 a5 a6 a7 a8 a9 a10 a11 a12 a13 a14 a15 : Nat × List UInt8} {p : Nat} {l : List UInt8} {x : Instr × Nat} {r : List (Nat × List UInt8)} (h : Pf_ c (a0 :: a1 :: a2 :: a3 :: a4 :: a5 :: a6 :: a7 :: a8 :: a9 :: a10 :: a11 :: a12 :: a13 :: a14 :: a15 :: (p, l) :: r)) (e : opK l = true ∧ decode ⟨⟨l⟩⟩ 0 = .ok x) : decode c p = .ok x := wd_ok h.2.2.2.2.2.2.2.2.2.2.2.2.2.2.2.2.1 e.1 e.2
theorem gq_17 {c : ByteArray} {a0 a1 a2 a3 a4 a5 a6 a7 a8 a9 a10 a11 a12 a13 a14 a15 a16 : Nat × List UInt8} {p : Nat} {l : List UInt8} {x : Instr × Nat} {r : List (Nat × List UInt8)} (h : Pf_ c (a0 :: a1 :: a2 :: a3 :: a4 :: a5 :: a6 :: a7 :: a8 :: a9 :: a10 :: a11 :: a12 :: a13 :: a14 :: a15 :: a16 :: (p, l) :: r)) (e : opK l = true ∧ decode ⟨⟨l⟩⟩ 0 = .ok x) : decode c p = .ok x := wd_ok h.2.2.2.2.2.2.2.2.2.2.2.2.2.2.2.2.2.1 e.1 e.2
theorem gq_18 {c : ByteArray} {a0 a1 a2 a3 a4 a5 a6 a7 a8 a9 a10 a11 a12 a13 a14 a15 a16 a17 : Nat × List UInt8} {p : Nat} {l : List UInt8} {x : Instr × Nat} {r : List (Nat × List UInt8)} (h : Pf_ c (a0 :: a1 :: a2 :: a3 :: a4 :: a5 :: a6 :: a7 :: a8 :: a9 :: a10 :: a11 :: a12 :: a13 :: a14 :: a15 :: a16 :: a17 :: (p, l) :: r)) (e : opK l = true ∧ decode ⟨⟨l⟩⟩ 0 = .ok x) : decode c p = .ok x := wd_ok h.2.2.2.2.2.2.2.2.2.2.2.2.2.2.2.2.2.2.1 e.1 e.2
theorem gq_19 {c : ByteArray} {a0 a1 a2 a3 a4 a5 a6 a7 a8 a9 a10 a11 a12 a13 a14 a15 a16 a17 a18 : Nat × List UInt8} {p : Nat} {l : List UInt8} {x : Instr × Nat} {r : List (Nat × List UInt8)} (h : Pf_ c (a0 :: a1 :: a2 :: a3 :: a4 :: a5 :: a6 :: a7 :: a8 :: a9 :: a10 :: a11 :: a12 :: a13 :: a14 :: a15 :: a16 :: a17 :: a18 :: (p, l) :: r)) (e : opK l = true ∧ decode ⟨⟨l⟩⟩ 0 = .ok x) : decode c p = .ok x := wd_ok h.2.2.2.2.2.2.2.2.2.2.2.2.2.2.2.2.2.2.2.1 e.1 e.2
theorem gq_20 {c : ByteArray} {a0 a1 a2 a3 a4 a5 a6 a7 a8 a9 a10 a11 a12 a13 a14 a15 a16 a17 a18 a19 : Nat × List UInt8} {p : Nat} {l : List UInt8} {x : Instr × Nat} {r : List (Nat × List UInt8)} (h : Pf_ c (a0 :: a1 :: a2 :: a3 :: a4 :: a5 :: a6 :: a7 :: a8 :: a9 :: a10 :: a11 :: a12 :: a13 :: a14 :: a15 :: a16 :: a17 :: a18 :: a19 :: (p, l) :: r)) (e : opK l = true ∧ decode ⟨⟨l⟩⟩ 0 = .ok x) : decode c p = .ok x := wd_ok h.2.2.2.2.2.2.2.2.2.2.2.2.2.2.2.2.2.2.2.2.1 e.1 e.2
theorem gq_21 {c : ByteArray} {a0 a1 a2 a3 a4 a5 a6 a7 a8 a9 a10 a11 a12 a13 a14 a15 a16 a17 a18 a19 a20 : Nat × List UInt8} {p : Nat} {l : List UInt8} {x : Instr × Nat} {r : List (Nat × List UInt8)} (h : Pf_ c (a0 :: a1 :: a2 :: a3 :: a4 :: a5 :: a6 :: a7 :: a8 :: a9 :: a10 :: a11 :: a12 :: a13 :: a14 :: a15 :: a16 :: a17 :: a18 :: a19 :: a20 :: (p, l) :: r)) (e : opK l = true ∧ decode ⟨⟨l⟩⟩ 0 = .ok x) : decode c p = .ok x := wd_ok h.2.2.2.2.2.2.2.2.2.2.2.2.2.2.2.2.2.2.2.2.2.1 e.1 e.2
theorem gq_22 {c : ByteArray} {a0 a1 a2 a3 a4 a5 a6 a7 a8 a9 a10 a11 a12 a13 a14 a15 a16 a17 a18 a19 a20 a21 : Nat × List UInt8} {p : Nat} {l : List UInt8} {x : Instr × Nat} {r : List (Nat × List UInt8)} (h : Pf_ c (a0 :: a1 :: a2 :: a3 :: a4 :: a5 :: a6 :: a7 :: a8 :: a9 :: a10 :: a11 :: a12 :: a13 :: a14 :: a15 :: a16 :: a17 :: a18 :: a19 :: a20 :: a21 :: (p, l) :: r)) (e : opK l = true ∧ decode ⟨⟨l⟩⟩ 0 = .ok x) : decode c p = .ok x := wd_ok h.2.2.2.2.2.2.2.2.2.2.2.2.2.2.2.2.2.2.2.2.2.2.1 e.1 e.2
theorem gq_23 {c : ByteArray} {a0 a1 a2 a3 a4 a5 a6 a7 a8 a9 a10 a11 a12 a13 a14 a15 a16 a17 a18 a19 a20 a21 a22 : Nat × List UInt8} {p : Nat} {l : List UInt8} {x : Instr × Nat} {r : List (Nat × List UInt8)} (h : Pf_ c (a0 :: a1 :: a2 :: a3 :: a4 :: a5 :: a6 :: a7 :: a8 :: a9 :: a10 :: a11 :: a12 :: a13 :: a14 :: a15 :: a16 :: a17 :: a18 :: a19 :: a20 :: a21 :: a22 :: (p, l) :: r)) (e : opK l = true ∧ decode ⟨⟨l⟩⟩ 0 = .ok x) : decode c p = .ok x := wd_ok h.2.2.2.2.2.2.2.2.2.2.2.2.2.2.2.2.2.2.2.2.2.2.2.1 e.1 e.2
theorem eb_0 : opK [0x2a] = true ∧ decode ⟨⟨[0x2a]⟩⟩ 0 = .ok (.aload_n 0, 1) := by decide +kernel
theorem eb_1 : opK [0xb7, 0x00, 0x03] = true ∧ decode ⟨⟨[0xb7, 0x00, 0x03]⟩⟩ 0 = .ok (.invokespecial 3, 3) := by decide +kernel
theorem eb_2 : opK [0x11, 0x07, 0x08] = true ∧ decode ⟨⟨[0x11, 0x07, 0x08]⟩⟩ 0 = .ok (.sipush 1800, 3) := by decide +kernel
theorem eb_3 : opK [0xb5, 0x00, 0x0b] = true ∧ decode ⟨⟨[0xb5, 0x00, 0x0b]⟩⟩ 0 = .ok (.putfield 11, 3) := by decide +kernel
theorem eb_4 : opK [0x10, 0x0c] = true ∧ decode ⟨⟨[0x10, 0x0c]⟩⟩ 0 = .ok (.bipush 12, 2) := by decide +kernel
theorem eb_5 : opK [0xb5, 0x00, 0x0f] = true ∧ decode ⟨⟨[0xb5, 0x00, 0x0f]⟩⟩ 0 = .ok (.putfield 15, 3) := by decide +kernel
theorem eb_6 : opK [0xb5, 0x00, 0x12] = true ∧ decode ⟨⟨[0xb5, 0x00, 0x12]⟩⟩ 0 = .ok (.putfield 18, 3) := by decide +kernel
theorem eb_7 : opK [0xb1] = true ∧ decode ⟨⟨[0xb1]⟩⟩ 0 = .ok (.return_, 1) := by decide +kernel
theorem eb_8 : opK [0x1a] = true ∧ decode ⟨⟨[0x1a]⟩⟩ 0 = .ok (.iload_n 0, 1) := by decide +kernel
theorem eb_9 : opK [0x1b] = true ∧ decode ⟨⟨[0x1b]⟩⟩ 0 = .ok (.iload_n 1, 1) := by decide +kernel
theorem eb_10 : opK [0x05] = true ∧ decode ⟨⟨[0x05]⟩⟩ 0 = .ok (.iconst 2, 1) := by decide +kernel
theorem eb_11 : opK [0x78] = true ∧ decode ⟨⟨[0x78]⟩⟩ 0 = .ok (.ishl, 1) := by decide +kernel
theorem eb_12 : opK [0x80] = true ∧ decode ⟨⟨[0x80]⟩⟩ 0 = .ok (.ior, 1) := by decide +kernel
theorem eb_13 : opK [0x1c] = true ∧ decode ⟨⟨[0x1c]⟩⟩ 0 = .ok (.iload_n 2, 1) := by decide +kernel
theorem eb_14 : opK [0x10, 0x06] = true ∧ decode ⟨⟨[0x10, 0x06]⟩⟩ 0 = .ok (.bipush 6, 2) := by decide +kernel
theorem eb_15 : opK [0xac] = true ∧ decode ⟨⟨[0xac]⟩⟩ 0 = .ok (.ireturn, 1) := by decide +kernel
theorem eb_16 : opK [0x9b, 0x00, 0x0f] = true ∧ decode ⟨⟨[0x9b, 0x00, 0x0f]⟩⟩ 0 = .ok (.ifCond .lt 15, 3) := by decide +kernel
theorem eb_17 : opK [0xb4, 0x00, 0x15] = true ∧ decode ⟨⟨[0xb4, 0x00, 0x15]⟩⟩ 0 = .ok (.getfield 21, 3) := by decide +kernel
theorem eb_18 : opK [0xa2, 0x00, 0x07] = true ∧ decode ⟨⟨[0xa2, 0x00, 0x07]⟩⟩ 0 = .ok (.if_icmp .ge 7, 3) := by decide +kernel
theorem eb_19 : opK [0x04] = true ∧ decode ⟨⟨[0x04]⟩⟩ 0 = .ok (.iconst 1, 1) := by decide +kernel
theorem eb_20 : opK [0xa7, 0x00, 0x04] = true ∧ decode ⟨⟨[0xa7, 0x00, 0x04]⟩⟩ 0 = .ok (.goto 4, 3) := by decide +kernel
theorem eb_21 : opK [0x03] = true ∧ decode ⟨⟨[0x03]⟩⟩ 0 = .ok (.iconst 0, 1) := by decide +kernel
theorem eb_22 : opK [0xa2, 0x00, 0x0a] = true ∧ decode ⟨⟨[0xa2, 0x00, 0x0a]⟩⟩ 0 = .ok (.if_icmp .ge 10, 3) := by decide +kernel
theorem eb_23 : opK [0x2b] = true ∧ decode ⟨⟨[0x2b]⟩⟩ 0 = .ok (.aload_n 1, 1) := by decide +kernel
theorem eb_24 : opK [0xb4, 0x00, 0x19] = true ∧ decode ⟨⟨[0xb4, 0x00, 0x19]⟩⟩ 0 = .ok (.getfield 25, 3) := by decide +kernel
theorem eb_25 : opK [0x99, 0x00, 0x05] = true ∧ decode ⟨⟨[0x99, 0x00, 0x05]⟩⟩ 0 = .ok (.ifCond .eq 5, 3) := by decide +kernel
theorem eb_26 : opK [0x02] = true ∧ decode ⟨⟨[0x02]⟩⟩ 0 = .ok (.iconst (-1), 1) := by decide +kernel
theorem eb_27 : opK [0x3d] = true ∧ decode ⟨⟨[0x3d]⟩⟩ 0 = .ok (.istore_n 2, 1) := by decide +kernel
theorem eb_28 : opK [0x3e] = true ∧ decode ⟨⟨[0x3e]⟩⟩ 0 = .ok (.istore_n 3, 1) := by decide +kernel
theorem eb_29 : opK [0x1d] = true ∧ decode ⟨⟨[0x1d]⟩⟩ 0 = .ok (.iload_n 3, 1) := by decide +kernel
theorem eb_30 : opK [0xb4, 0x00, 0x1f] = true ∧ decode ⟨⟨[0xb4, 0x00, 0x1f]⟩⟩ 0 = .ok (.getfield 31, 3) := by decide +kernel
theorem eb_31 : opK [0xa2, 0x00, 0x2e] = true ∧ decode ⟨⟨[0xa2, 0x00, 0x2e]⟩⟩ 0 = .ok (.if_icmp .ge 46, 3) := by decide +kernel
theorem eb_32 : opK [0xb4, 0x00, 0x0b] = true ∧ decode ⟨⟨[0xb4, 0x00, 0x0b]⟩⟩ 0 = .ok (.getfield 11, 3) := by decide +kernel
theorem eb_33 : opK [0x11, 0x00, 0x96] = true ∧ decode ⟨⟨[0x11, 0x00, 0x96]⟩⟩ 0 = .ok (.sipush 150, 3) := by decide +kernel
theorem eb_34 : opK [0x68] = true ∧ decode ⟨⟨[0x68]⟩⟩ 0 = .ok (.imul, 1) := by decide +kernel
theorem eb_35 : opK [0x60] = true ∧ decode ⟨⟨[0x60]⟩⟩ 0 = .ok (.iadd, 1) := by decide +kernel
theorem eb_36 : opK [0xb4, 0x00, 0x22] = true ∧ decode ⟨⟨[0xb4, 0x00, 0x22]⟩⟩ 0 = .ok (.getfield 34, 3) := by decide +kernel
theorem eb_37 : opK [0x2e] = true ∧ decode ⟨⟨[0x2e]⟩⟩ 0 = .ok (.iaload, 1) := by decide +kernel
theorem eb_38 : opK [0x4f] = true ∧ decode ⟨⟨[0x4f]⟩⟩ 0 = .ok (.iastore, 1) := by decide +kernel
theorem eb_39 : opK [0xb8, 0x00, 0x23] = true ∧ decode ⟨⟨[0xb8, 0x00, 0x23]⟩⟩ 0 = .ok (.invokestatic 35, 3) := by decide +kernel
theorem eb_40 : opK [0xa0, 0x00, 0x06] = true ∧ decode ⟨⟨[0xa0, 0x00, 0x06]⟩⟩ 0 = .ok (.if_icmp .ne 6, 3) := by decide +kernel
theorem eb_41 : opK [0x84, 0x02, 0x01] = true ∧ decode ⟨⟨[0x84, 0x02, 0x01]⟩⟩ 0 = .ok (.iinc 2 1, 3) := by decide +kernel
theorem eb_42 : opK [0x84, 0x03, 0x01] = true ∧ decode ⟨⟨[0x84, 0x03, 0x01]⟩⟩ 0 = .ok (.iinc 3 1, 3) := by decide +kernel
theorem eb_43 : opK [0xa7, 0xff, 0xd0] = true ∧ decode ⟨⟨[0xa7, 0xff, 0xd0]⟩⟩ 0 = .ok (.goto (-48), 3) := by decide +kernel
theorem eb_44 : opK [0xb4, 0x00, 0x0f] = true ∧ decode ⟨⟨[0xb4, 0x00, 0x0f]⟩⟩ 0 = .ok (.getfield 15, 3) := by decide +kernel
theorem eb_45 : opK [0xb4, 0x00, 0x12] = true ∧ decode ⟨⟨[0xb4, 0x00, 0x12]⟩⟩ 0 = .ok (.getfield 18, 3) := by decide +kernel
theorem eb_46 : opK [0x59] = true ∧ decode ⟨⟨[0x59]⟩⟩ 0 = .ok (.dup, 1) := by decide +kernel
theorem eb_47 : opK [0xb5, 0x00, 0x15] = true ∧ decode ⟨⟨[0xb5, 0x00, 0x15]⟩⟩ 0 = .ok (.putfield 21, 3) := by decide +kernel
theorem eb_48 : opK [0x64] = true ∧ decode ⟨⟨[0x64]⟩⟩ 0 = .ok (.isub, 1) := by decide +kernel
theorem eb_49 : opK [0xb6, 0x00, 0x27] = true ∧ decode ⟨⟨[0xb6, 0x00, 0x27]⟩⟩ 0 = .ok (.invokevirtual 39, 3) := by decide +kernel
theorem eb_50 : opK [0x99, 0x00, 0x0c] = true ∧ decode ⟨⟨[0x99, 0x00, 0x0c]⟩⟩ 0 = .ok (.ifCond .eq 12, 3) := by decide +kernel
theorem eb_51 : opK [0x9b, 0x00, 0x15] = true ∧ decode ⟨⟨[0x9b, 0x00, 0x15]⟩⟩ 0 = .ok (.ifCond .lt 21, 3) := by decide +kernel
theorem eb_52 : opK [0xbe] = true ∧ decode ⟨⟨[0xbe]⟩⟩ 0 = .ok (.arraylength, 1) := by decide +kernel
theorem eb_53 : opK [0xa2, 0x00, 0x0c] = true ∧ decode ⟨⟨[0xa2, 0x00, 0x0c]⟩⟩ 0 = .ok (.if_icmp .ge 12, 3) := by decide +kernel
theorem eb_54 : opK [0x06] = true ∧ decode ⟨⟨[0x06]⟩⟩ 0 = .ok (.iconst 3, 1) := by decide +kernel
theorem eb_55 : opK [0x7e] = true ∧ decode ⟨⟨[0x7e]⟩⟩ 0 = .ok (.iand, 1) := by decide +kernel
theorem eb_56 : opK [0x7a] = true ∧ decode ⟨⟨[0x7a]⟩⟩ 0 = .ok (.ishr, 1) := by decide +kernel
theorem eb_57 : opK [0x10, 0x0f] = true ∧ decode ⟨⟨[0x10, 0x0f]⟩⟩ 0 = .ok (.bipush 15, 2) := by decide +kernel
theorem eb_58 : opK [0x36, 0x06] = true ∧ decode ⟨⟨[0x36, 0x06]⟩⟩ 0 = .ok (.istore 6, 2) := by decide +kernel
theorem eb_59 : opK [0x36, 0x07] = true ∧ decode ⟨⟨[0x36, 0x07]⟩⟩ 0 = .ok (.istore 7, 2) := by decide +kernel
theorem eb_60 : opK [0xb6, 0x00, 0x2b] = true ∧ decode ⟨⟨[0xb6, 0x00, 0x2b]⟩⟩ 0 = .ok (.invokevirtual 43, 3) := by decide +kernel
theorem eb_61 : opK [0x36, 0x08] = true ∧ decode ⟨⟨[0x36, 0x08]⟩⟩ 0 = .ok (.istore 8, 2) := by decide +kernel
theorem eb_62 : opK [0x36, 0x09] = true ∧ decode ⟨⟨[0x36, 0x09]⟩⟩ 0 = .ok (.istore 9, 2) := by decide +kernel
theorem eb_63 : opK [0x15, 0x09] = true ∧ decode ⟨⟨[0x15, 0x09]⟩⟩ 0 = .ok (.iload 9, 2) := by decide +kernel
theorem eb_64 : opK [0x15, 0x08] = true ∧ decode ⟨⟨[0x15, 0x08]⟩⟩ 0 = .ok (.iload 8, 2) := by decide +kernel
theorem eb_65 : opK [0xa2, 0x00, 0x81] = true ∧ decode ⟨⟨[0xa2, 0x00, 0x81]⟩⟩ 0 = .ok (.if_icmp .ge 129, 3) := by decide +kernel
theorem eb_66 : opK [0xb6, 0x00, 0x2e] = true ∧ decode ⟨⟨[0xb6, 0x00, 0x2e]⟩⟩ 0 = .ok (.invokevirtual 46, 3) := by decide +kernel
theorem eb_67 : opK [0x36, 0x0a] = true ∧ decode ⟨⟨[0x36, 0x0a]⟩⟩ 0 = .ok (.istore 10, 2) := by decide +kernel
theorem eb_68 : opK [0x15, 0x0a] = true ∧ decode ⟨⟨[0x15, 0x0a]⟩⟩ 0 = .ok (.iload 10, 2) := by decide +kernel
theorem eb_69 : opK [0x36, 0x0b] = true ∧ decode ⟨⟨[0x36, 0x0b]⟩⟩ 0 = .ok (.istore 11, 2) := by decide +kernel
theorem eb_70 : opK [0x15, 0x0b] = true ∧ decode ⟨⟨[0x15, 0x0b]⟩⟩ 0 = .ok (.iload 11, 2) := by decide +kernel
theorem eb_71 : opK [0xa0, 0x00, 0x19] = true ∧ decode ⟨⟨[0xa0, 0x00, 0x19]⟩⟩ 0 = .ok (.if_icmp .ne 25, 3) := by decide +kernel
theorem eb_72 : opK [0x84, 0x06, 0x01] = true ∧ decode ⟨⟨[0x84, 0x06, 0x01]⟩⟩ 0 = .ok (.iinc 6 1, 3) := by decide +kernel
theorem eb_73 : opK [0x15, 0x07] = true ∧ decode ⟨⟨[0x15, 0x07]⟩⟩ 0 = .ok (.iload 7, 2) := by decide +kernel
theorem eb_74 : opK [0xa0, 0x00, 0x5c] = true ∧ decode ⟨⟨[0xa0, 0x00, 0x5c]⟩⟩ 0 = .ok (.if_icmp .ne 92, 3) := by decide +kernel
theorem eb_75 : opK [0x15, 0x06] = true ∧ decode ⟨⟨[0x15, 0x06]⟩⟩ 0 = .ok (.iload 6, 2) := by decide +kernel
theorem eb_76 : opK [0x15, 0x04] = true ∧ decode ⟨⟨[0x15, 0x04]⟩⟩ 0 = .ok (.iload 4, 2) := by decide +kernel
theorem eb_77 : opK [0xb8, 0x00, 0x32] = true ∧ decode ⟨⟨[0xb8, 0x00, 0x32]⟩⟩ 0 = .ok (.invokestatic 50, 3) := by decide +kernel
theorem eb_78 : opK [0x99, 0x00, 0x51] = true ∧ decode ⟨⟨[0x99, 0x00, 0x51]⟩⟩ 0 = .ok (.ifCond .eq 81, 3) := by decide +kernel
theorem eb_79 : opK [0xa0, 0x00, 0x10] = true ∧ decode ⟨⟨[0xa0, 0x00, 0x10]⟩⟩ 0 = .ok (.if_icmp .ne 16, 3) := by decide +kernel
theorem eb_80 : opK [0xb8, 0x00, 0x36] = true ∧ decode ⟨⟨[0xb8, 0x00, 0x36]⟩⟩ 0 = .ok (.invokestatic 54, 3) := by decide +kernel
theorem eb_81 : opK [0xa7, 0x00, 0x3c] = true ∧ decode ⟨⟨[0xa7, 0x00, 0x3c]⟩⟩ 0 = .ok (.goto 60, 3) := by decide +kernel
theorem eb_82 : opK [0x19, 0x05] = true ∧ decode ⟨⟨[0x19, 0x05]⟩⟩ 0 = .ok (.aload 5, 2) := by decide +kernel
theorem eb_83 : opK [0xb8, 0x00, 0x39] = true ∧ decode ⟨⟨[0xb8, 0x00, 0x39]⟩⟩ 0 = .ok (.invokestatic 57, 3) := by decide +kernel
theorem eb_84 : opK [0xb6, 0x00, 0x3c] = true ∧ decode ⟨⟨[0xb6, 0x00, 0x3c]⟩⟩ 0 = .ok (.invokevirtual 60, 3) := by decide +kernel
theorem eb_85 : opK [0x36, 0x0c] = true ∧ decode ⟨⟨[0x36, 0x0c]⟩⟩ 0 = .ok (.istore 12, 2) := by decide +kernel
theorem eb_86 : opK [0x15, 0x0c] = true ∧ decode ⟨⟨[0x15, 0x0c]⟩⟩ 0 = .ok (.iload 12, 2) := by decide +kernel
theorem eb_87 : opK [0x9f, 0x00, 0x28] = true ∧ decode ⟨⟨[0x9f, 0x00, 0x28]⟩⟩ 0 = .ok (.if_icmp .eq 40, 3) := by decide +kernel
theorem eb_88 : opK [0xb8, 0x00, 0x41] = true ∧ decode ⟨⟨[0xb8, 0x00, 0x41]⟩⟩ 0 = .ok (.invokestatic 65, 3) := by decide +kernel
theorem eb_89 : opK [0xa7, 0x00, 0x05] = true ∧ decode ⟨⟨[0xa7, 0x00, 0x05]⟩⟩ 0 = .ok (.goto 5, 3) := by decide +kernel
theorem eb_90 : opK [0x84, 0x09, 0x01] = true ∧ decode ⟨⟨[0x84, 0x09, 0x01]⟩⟩ 0 = .ok (.iinc 9 1, 3) := by decide +kernel
theorem eb_91 : opK [0xa7, 0xff, 0x7e] = true ∧ decode ⟨⟨[0xa7, 0xff, 0x7e]⟩⟩ 0 = .ok (.goto (-130), 3) := by decide +kernel
theorem eb_92 : opK [0x10, 0x1e] = true ∧ decode ⟨⟨[0x10, 0x1e]⟩⟩ 0 = .ok (.bipush 30, 2) := by decide +kernel
theorem eb_93 : opK [0x10, 0x0a] = true ∧ decode ⟨⟨[0x10, 0x0a]⟩⟩ 0 = .ok (.bipush 10, 2) := by decide +kernel
theorem eb_94 : opK [0x10, 0x08] = true ∧ decode ⟨⟨[0x10, 0x08]⟩⟩ 0 = .ok (.bipush 8, 2) := by decide +kernel
theorem eb_95 : opK [0xb5, 0x00, 0x18] = true ∧ decode ⟨⟨[0xb5, 0x00, 0x18]⟩⟩ 0 = .ok (.putfield 24, 3) := by decide +kernel
theorem eb_96 : opK [0x11, 0x00, 0xc8] = true ∧ decode ⟨⟨[0x11, 0x00, 0xc8]⟩⟩ 0 = .ok (.sipush 200, 3) := by decide +kernel
theorem eb_97 : opK [0xb5, 0x00, 0x1b] = true ∧ decode ⟨⟨[0xb5, 0x00, 0x1b]⟩⟩ 0 = .ok (.putfield 27, 3) := by decide +kernel
theorem eb_98 : opK [0xb5, 0x00, 0x1e] = true ∧ decode ⟨⟨[0xb5, 0x00, 0x1e]⟩⟩ 0 = .ok (.putfield 30, 3) := by decide +kernel
theorem eb_99 : opK [0x10, 0x10] = true ∧ decode ⟨⟨[0x10, 0x10]⟩⟩ 0 = .ok (.bipush 16, 2) := by decide +kernel
theorem eb_100 : opK [0xb5, 0x00, 0x21] = true ∧ decode ⟨⟨[0xb5, 0x00, 0x21]⟩⟩ 0 = .ok (.putfield 33, 3) := by decide +kernel
theorem eb_101 : opK [0x11, 0x00, 0xb4] = true ∧ decode ⟨⟨[0x11, 0x00, 0xb4]⟩⟩ 0 = .ok (.sipush 180, 3) := by decide +kernel
theorem eb_102 : opK [0xb5, 0x00, 0x24] = true ∧ decode ⟨⟨[0xb5, 0x00, 0x24]⟩⟩ 0 = .ok (.putfield 36, 3) := by decide +kernel
theorem eb_103 : opK [0xb5, 0x00, 0x27] = true ∧ decode ⟨⟨[0xb5, 0x00, 0x27]⟩⟩ 0 = .ok (.putfield 39, 3) := by decide +kernel
theorem eb_104 : opK [0xb5, 0x00, 0x2a] = true ∧ decode ⟨⟨[0xb5, 0x00, 0x2a]⟩⟩ 0 = .ok (.putfield 42, 3) := by decide +kernel
theorem eb_105 : opK [0xb5, 0x00, 0x2d] = true ∧ decode ⟨⟨[0xb5, 0x00, 0x2d]⟩⟩ 0 = .ok (.putfield 45, 3) := by decide +kernel
theorem eb_106 : opK [0xb5, 0x00, 0x30] = true ∧ decode ⟨⟨[0xb5, 0x00, 0x30]⟩⟩ 0 = .ok (.putfield 48, 3) := by decide +kernel
theorem eb_107 : opK [0xb5, 0x00, 0x33] = true ∧ decode ⟨⟨[0xb5, 0x00, 0x33]⟩⟩ 0 = .ok (.putfield 51, 3) := by decide +kernel
theorem eb_108 : opK [0xb4, 0x00, 0x18] = true ∧ decode ⟨⟨[0xb4, 0x00, 0x18]⟩⟩ 0 = .ok (.getfield 24, 3) := by decide +kernel
theorem eb_109 : opK [0xb4, 0x00, 0x21] = true ∧ decode ⟨⟨[0xb4, 0x00, 0x21]⟩⟩ 0 = .ok (.getfield 33, 3) := by decide +kernel
theorem eb_110 : opK [0xb4, 0x00, 0x3c] = true ∧ decode ⟨⟨[0xb4, 0x00, 0x3c]⟩⟩ 0 = .ok (.getfield 60, 3) := by decide +kernel
theorem eb_111 : opK [0xb6, 0x00, 0x40] = true ∧ decode ⟨⟨[0xb6, 0x00, 0x40]⟩⟩ 0 = .ok (.invokevirtual 64, 3) := by decide +kernel
theorem eb_112 : opK [0x99, 0x00, 0x11] = true ∧ decode ⟨⟨[0x99, 0x00, 0x11]⟩⟩ 0 = .ok (.ifCond .eq 17, 3) := by decide +kernel
theorem eb_113 : opK [0xa3, 0x00, 0x07] = true ∧ decode ⟨⟨[0xa3, 0x00, 0x07]⟩⟩ 0 = .ok (.if_icmp .gt 7, 3) := by decide +kernel
theorem eb_114 : opK [0xa1, 0x00, 0x05] = true ∧ decode ⟨⟨[0xa1, 0x00, 0x05]⟩⟩ 0 = .ok (.if_icmp .lt 5, 3) := by decide +kernel
theorem eb_115 : opK [0xb5, 0x00, 0x3c] = true ∧ decode ⟨⟨[0xb5, 0x00, 0x3c]⟩⟩ 0 = .ok (.putfield 60, 3) := by decide +kernel
theorem eb_116 : opK [0xb4, 0x00, 0x44] = true ∧ decode ⟨⟨[0xb4, 0x00, 0x44]⟩⟩ 0 = .ok (.getfield 68, 3) := by decide +kernel
theorem eb_117 : opK [0xa2, 0x00, 0x17] = true ∧ decode ⟨⟨[0xa2, 0x00, 0x17]⟩⟩ 0 = .ok (.if_icmp .ge 23, 3) := by decide +kernel
theorem eb_118 : opK [0xb8, 0x00, 0x47] = true ∧ decode ⟨⟨[0xb8, 0x00, 0x47]⟩⟩ 0 = .ok (.invokestatic 71, 3) := by decide +kernel
theorem eb_119 : opK [0x99, 0x00, 0x0d] = true ∧ decode ⟨⟨[0x99, 0x00, 0x0d]⟩⟩ 0 = .ok (.ifCond .eq 13, 3) := by decide +kernel
theorem eb_120 : opK [0x9f, 0x00, 0x05] = true ∧ decode ⟨⟨[0x9f, 0x00, 0x05]⟩⟩ 0 = .ok (.if_icmp .eq 5, 3) := by decide +kernel
theorem eb_121 : opK [0xb4, 0x00, 0x1b] = true ∧ decode ⟨⟨[0xb4, 0x00, 0x1b]⟩⟩ 0 = .ok (.getfield 27, 3) := by decide +kernel
theorem eb_122 : opK [0x08] = true ∧ decode ⟨⟨[0x08]⟩⟩ 0 = .ok (.iconst 5, 1) := by decide +kernel
theorem eb_123 : opK [0x99, 0x00, 0x07] = true ∧ decode ⟨⟨[0x99, 0x00, 0x07]⟩⟩ 0 = .ok (.ifCond .eq 7, 3) := by decide +kernel
theorem eb_124 : opK [0xb4, 0x00, 0x1e] = true ∧ decode ⟨⟨[0xb4, 0x00, 0x1e]⟩⟩ 0 = .ok (.getfield 30, 3) := by decide +kernel
theorem eb_125 : opK [0x15, 0x05] = true ∧ decode ⟨⟨[0x15, 0x05]⟩⟩ 0 = .ok (.iload 5, 2) := by decide +kernel
theorem eb_126 : opK [0xb5, 0x00, 0x44] = true ∧ decode ⟨⟨[0xb5, 0x00, 0x44]⟩⟩ 0 = .ok (.putfield 68, 3) := by decide +kernel
theorem eb_127 : opK [0xb4, 0x00, 0x2d] = true ∧ decode ⟨⟨[0xb4, 0x00, 0x2d]⟩⟩ 0 = .ok (.getfield 45, 3) := by decide +kernel
theorem eb_128 : opK [0xb4, 0x00, 0x30] = true ∧ decode ⟨⟨[0xb4, 0x00, 0x30]⟩⟩ 0 = .ok (.getfield 48, 3) := by decide +kernel
theorem eb_129 : opK [0xa2, 0x00, 0x99] = true ∧ decode ⟨⟨[0xa2, 0x00, 0x99]⟩⟩ 0 = .ok (.if_icmp .ge 153, 3) := by decide +kernel
theorem eb_130 : opK [0xa0, 0x00, 0x86] = true ∧ decode ⟨⟨[0xa0, 0x00, 0x86]⟩⟩ 0 = .ok (.if_icmp .ne 134, 3) := by decide +kernel
theorem eb_131 : opK [0xa3, 0x00, 0x7c] = true ∧ decode ⟨⟨[0xa3, 0x00, 0x7c]⟩⟩ 0 = .ok (.if_icmp .gt 124, 3) := by decide +kernel
theorem eb_132 : opK [0x10, 0x07] = true ∧ decode ⟨⟨[0x10, 0x07]⟩⟩ 0 = .ok (.bipush 7, 2) := by decide +kernel
theorem eb_133 : opK [0x36, 0x04] = true ∧ decode ⟨⟨[0x36, 0x04]⟩⟩ 0 = .ok (.istore 4, 2) := by decide +kernel
theorem eb_134 : opK [0x36, 0x05] = true ∧ decode ⟨⟨[0x36, 0x05]⟩⟩ 0 = .ok (.istore 5, 2) := by decide +kernel
theorem eb_135 : opK [0xa0, 0x00, 0x07] = true ∧ decode ⟨⟨[0xa0, 0x00, 0x07]⟩⟩ 0 = .ok (.if_icmp .ne 7, 3) := by decide +kernel
theorem eb_136 : opK [0x99, 0x00, 0x10] = true ∧ decode ⟨⟨[0x99, 0x00, 0x10]⟩⟩ 0 = .ok (.ifCond .eq 16, 3) := by decide +kernel
theorem eb_137 : opK [0xa7, 0x00, 0x0f] = true ∧ decode ⟨⟨[0xa7, 0x00, 0x0f]⟩⟩ 0 = .ok (.goto 15, 3) := by decide +kernel
theorem eb_138 : opK [0x99, 0x00, 0x12] = true ∧ decode ⟨⟨[0x99, 0x00, 0x12]⟩⟩ 0 = .ok (.ifCond .eq 18, 3) := by decide +kernel
theorem eb_139 : opK [0xa7, 0x00, 0x0d] = true ∧ decode ⟨⟨[0xa7, 0x00, 0x0d]⟩⟩ 0 = .ok (.goto 13, 3) := by decide +kernel
theorem eb_140 : opK [0xa7, 0xff, 0x65] = true ∧ decode ⟨⟨[0xa7, 0xff, 0x65]⟩⟩ 0 = .ok (.goto (-155), 3) := by decide +kernel
theorem eb_141 : opK [0xb6, 0x00, 0x4b] = true ∧ decode ⟨⟨[0xb6, 0x00, 0x4b]⟩⟩ 0 = .ok (.invokevirtual 75, 3) := by decide +kernel
theorem eb_142 : opK [0xa2, 0x00, 0x1f] = true ∧ decode ⟨⟨[0xa2, 0x00, 0x1f]⟩⟩ 0 = .ok (.if_icmp .ge 31, 3) := by decide +kernel
theorem eb_143 : opK [0x5c] = true ∧ decode ⟨⟨[0x5c]⟩⟩ 0 = .ok (.dup2, 1) := by decide +kernel
theorem eb_144 : opK [0x84, 0x04, 0x01] = true ∧ decode ⟨⟨[0x84, 0x04, 0x01]⟩⟩ 0 = .ok (.iinc 4 1, 3) := by decide +kernel
theorem eb_145 : opK [0xa7, 0xff, 0xe0] = true ∧ decode ⟨⟨[0xa7, 0xff, 0xe0]⟩⟩ 0 = .ok (.goto (-32), 3) := by decide +kernel
theorem eb_146 : opK [0xa2, 0x00, 0x23] = true ∧ decode ⟨⟨[0xa2, 0x00, 0x23]⟩⟩ 0 = .ok (.if_icmp .ge 35, 3) := by decide +kernel
theorem eb_147 : opK [0x9f, 0x00, 0x0d] = true ∧ decode ⟨⟨[0x9f, 0x00, 0x0d]⟩⟩ 0 = .ok (.if_icmp .eq 13, 3) := by decide +kernel
theorem eb_148 : opK [0xa4, 0x00, 0x09] = true ∧ decode ⟨⟨[0xa4, 0x00, 0x09]⟩⟩ 0 = .ok (.if_icmp .le 9, 3) := by decide +kernel
theorem eb_149 : opK [0xa7, 0xff, 0xdd] = true ∧ decode ⟨⟨[0xa7, 0xff, 0xdd]⟩⟩ 0 = .ok (.goto (-35), 3) := by decide +kernel
theorem eb_150 : opK [0x9a, 0x00, 0x05] = true ∧ decode ⟨⟨[0x9a, 0x00, 0x05]⟩⟩ 0 = .ok (.ifCond .ne 5, 3) := by decide +kernel
theorem eb_151 : opK [0xb8, 0x00, 0x4f] = true ∧ decode ⟨⟨[0xb8, 0x00, 0x4f]⟩⟩ 0 = .ok (.invokestatic 79, 3) := by decide +kernel
theorem eb_152 : opK [0x9e, 0x00, 0x09] = true ∧ decode ⟨⟨[0x9e, 0x00, 0x09]⟩⟩ 0 = .ok (.ifCond .le 9, 3) := by decide +kernel
theorem eb_153 : opK [0x9e, 0x00, 0x05] = true ∧ decode ⟨⟨[0x9e, 0x00, 0x05]⟩⟩ 0 = .ok (.ifCond .le 5, 3) := by decide +kernel
theorem eb_154 : opK [0xa1, 0x00, 0x07] = true ∧ decode ⟨⟨[0xa1, 0x00, 0x07]⟩⟩ 0 = .ok (.if_icmp .lt 7, 3) := by decide +kernel
theorem eb_155 : opK [0xa7, 0x00, 0x12] = true ∧ decode ⟨⟨[0xa7, 0x00, 0x12]⟩⟩ 0 = .ok (.goto 18, 3) := by decide +kernel
theorem eb_156 : opK [0xa2, 0x00, 0x18] = true ∧ decode ⟨⟨[0xa2, 0x00, 0x18]⟩⟩ 0 = .ok (.if_icmp .ge 24, 3) := by decide +kernel
theorem eb_157 : opK [0xb6, 0x00, 0x54] = true ∧ decode ⟨⟨[0xb6, 0x00, 0x54]⟩⟩ 0 = .ok (.invokevirtual 84, 3) := by decide +kernel
theorem eb_158 : opK [0xa0, 0x00, 0x09] = true ∧ decode ⟨⟨[0xa0, 0x00, 0x09]⟩⟩ 0 = .ok (.if_icmp .ne 9, 3) := by decide +kernel
theorem eb_159 : opK [0xa7, 0xff, 0xe8] = true ∧ decode ⟨⟨[0xa7, 0xff, 0xe8]⟩⟩ 0 = .ok (.goto (-24), 3) := by decide +kernel
theorem eb_160 : opK [0x99, 0x00, 0x25] = true ∧ decode ⟨⟨[0x99, 0x00, 0x25]⟩⟩ 0 = .ok (.ifCond .eq 37, 3) := by decide +kernel
theorem eb_161 : opK [0xb6, 0x00, 0x57] = true ∧ decode ⟨⟨[0xb6, 0x00, 0x57]⟩⟩ 0 = .ok (.invokevirtual 87, 3) := by decide +kernel
theorem eb_162 : opK [0xb6, 0x00, 0x5a] = true ∧ decode ⟨⟨[0xb6, 0x00, 0x5a]⟩⟩ 0 = .ok (.invokevirtual 90, 3) := by decide +kernel
theorem eb_163 : opK [0xb6, 0x00, 0x5d] = true ∧ decode ⟨⟨[0xb6, 0x00, 0x5d]⟩⟩ 0 = .ok (.invokevirtual 93, 3) := by decide +kernel
theorem eb_164 : opK [0x9a, 0x00, 0x07] = true ∧ decode ⟨⟨[0x9a, 0x00, 0x07]⟩⟩ 0 = .ok (.ifCond .ne 7, 3) := by decide +kernel
theorem eb_165 : opK [0xb6, 0x00, 0x60] = true ∧ decode ⟨⟨[0xb6, 0x00, 0x60]⟩⟩ 0 = .ok (.invokevirtual 96, 3) := by decide +kernel
theorem eb_166 : opK [0xb6, 0x00, 0x64] = true ∧ decode ⟨⟨[0xb6, 0x00, 0x64]⟩⟩ 0 = .ok (.invokevirtual 100, 3) := by decide +kernel
theorem eb_167 : opK [0xb6, 0x00, 0x67] = true ∧ decode ⟨⟨[0xb6, 0x00, 0x67]⟩⟩ 0 = .ok (.invokevirtual 103, 3) := by decide +kernel
theorem eb_168 : opK [0xa2, 0x00, 0x15] = true ∧ decode ⟨⟨[0xa2, 0x00, 0x15]⟩⟩ 0 = .ok (.if_icmp .ge 21, 3) := by decide +kernel
theorem eb_169 : opK [0xb4, 0x00, 0x33] = true ∧ decode ⟨⟨[0xb4, 0x00, 0x33]⟩⟩ 0 = .ok (.getfield 51, 3) := by decide +kernel
theorem eb_170 : opK [0xb6, 0x00, 0x6b] = true ∧ decode ⟨⟨[0xb6, 0x00, 0x6b]⟩⟩ 0 = .ok (.invokevirtual 107, 3) := by decide +kernel
theorem eb_171 : opK [0xa7, 0xff, 0xe9] = true ∧ decode ⟨⟨[0xa7, 0xff, 0xe9]⟩⟩ 0 = .ok (.goto (-23), 3) := by decide +kernel
theorem eb_172 : opK [0xa2, 0x00, 0x1d] = true ∧ decode ⟨⟨[0xa2, 0x00, 0x1d]⟩⟩ 0 = .ok (.if_icmp .ge 29, 3) := by decide +kernel
theorem eb_173 : opK [0x9f, 0x00, 0x06] = true ∧ decode ⟨⟨[0x9f, 0x00, 0x06]⟩⟩ 0 = .ok (.if_icmp .eq 6, 3) := by decide +kernel
theorem eb_174 : opK [0x99, 0x00, 0x0e] = true ∧ decode ⟨⟨[0x99, 0x00, 0x0e]⟩⟩ 0 = .ok (.ifCond .eq 14, 3) := by decide +kernel
theorem eb_175 : opK [0xb4, 0x00, 0x24] = true ∧ decode ⟨⟨[0xb4, 0x00, 0x24]⟩⟩ 0 = .ok (.getfield 36, 3) := by decide +kernel
theorem eb_176 : opK [0xb4, 0x00, 0x27] = true ∧ decode ⟨⟨[0xb4, 0x00, 0x27]⟩⟩ 0 = .ok (.getfield 39, 3) := by decide +kernel
theorem eb_177 : opK [0xb4, 0x00, 0x2a] = true ∧ decode ⟨⟨[0xb4, 0x00, 0x2a]⟩⟩ 0 = .ok (.getfield 42, 3) := by decide +kernel
theorem eb_178 : opK [0xa2, 0x00, 0x66] = true ∧ decode ⟨⟨[0xa2, 0x00, 0x66]⟩⟩ 0 = .ok (.if_icmp .ge 102, 3) := by decide +kernel
theorem eb_179 : opK [0x9a, 0x00, 0x14] = true ∧ decode ⟨⟨[0x9a, 0x00, 0x14]⟩⟩ 0 = .ok (.ifCond .ne 20, 3) := by decide +kernel
theorem eb_180 : opK [0xa7, 0x00, 0x0a] = true ∧ decode ⟨⟨[0xa7, 0x00, 0x0a]⟩⟩ 0 = .ok (.goto 10, 3) := by decide +kernel
theorem eb_181 : opK [0xa3, 0x00, 0x13] = true ∧ decode ⟨⟨[0xa3, 0x00, 0x13]⟩⟩ 0 = .ok (.if_icmp .gt 19, 3) := by decide +kernel
theorem eb_182 : opK [0x84, 0x07, 0x01] = true ∧ decode ⟨⟨[0x84, 0x07, 0x01]⟩⟩ 0 = .ok (.iinc 7 1, 3) := by decide +kernel
theorem eb_183 : opK [0x84, 0x08, 0x01] = true ∧ decode ⟨⟨[0x84, 0x08, 0x01]⟩⟩ 0 = .ok (.iinc 8 1, 3) := by decide +kernel
theorem eb_184 : opK [0xa7, 0xff, 0x95] = true ∧ decode ⟨⟨[0xa7, 0xff, 0x95]⟩⟩ 0 = .ok (.goto (-107), 3) := by decide +kernel
theorem eb_185 : opK [0xa2, 0x00, 0x6e] = true ∧ decode ⟨⟨[0xa2, 0x00, 0x6e]⟩⟩ 0 = .ok (.if_icmp .ge 110, 3) := by decide +kernel
theorem eb_186 : opK [0x9f, 0x00, 0x5a] = true ∧ decode ⟨⟨[0x9f, 0x00, 0x5a]⟩⟩ 0 = .ok (.if_icmp .eq 90, 3) := by decide +kernel
theorem eb_187 : opK [0xa7, 0x00, 0x51] = true ∧ decode ⟨⟨[0xa7, 0x00, 0x51]⟩⟩ 0 = .ok (.goto 81, 3) := by decide +kernel
theorem eb_188 : opK [0xb8, 0x00, 0x6f] = true ∧ decode ⟨⟨[0xb8, 0x00, 0x6f]⟩⟩ 0 = .ok (.invokestatic 111, 3) := by decide +kernel
theorem eb_189 : opK [0xa3, 0x00, 0x19] = true ∧ decode ⟨⟨[0xa3, 0x00, 0x19]⟩⟩ 0 = .ok (.if_icmp .gt 25, 3) := by decide +kernel
theorem eb_190 : opK [0x9e, 0x00, 0x22] = true ∧ decode ⟨⟨[0x9e, 0x00, 0x22]⟩⟩ 0 = .ok (.ifCond .le 34, 3) := by decide +kernel
theorem eb_191 : opK [0xa0, 0x00, 0x1b] = true ∧ decode ⟨⟨[0xa0, 0x00, 0x1b]⟩⟩ 0 = .ok (.if_icmp .ne 27, 3) := by decide +kernel
theorem eb_192 : opK [0xa4, 0x00, 0x11] = true ∧ decode ⟨⟨[0xa4, 0x00, 0x11]⟩⟩ 0 = .ok (.if_icmp .le 17, 3) := by decide +kernel
theorem eb_193 : opK [0xa7, 0xff, 0x91] = true ∧ decode ⟨⟨[0xa7, 0xff, 0x91]⟩⟩ 0 = .ok (.goto (-111), 3) := by decide +kernel
theorem eb_194 : opK [0xb5, 0x00, 0x09] = true ∧ decode ⟨⟨[0xb5, 0x00, 0x09]⟩⟩ 0 = .ok (.putfield 9, 3) := by decide +kernel
theorem eb_195 : opK [0xb7, 0x00, 0x05] = true ∧ decode ⟨⟨[0xb7, 0x00, 0x05]⟩⟩ 0 = .ok (.invokespecial 5, 3) := by decide +kernel
theorem eb_196 : opK [0xb5, 0x00, 0x16] = true ∧ decode ⟨⟨[0xb5, 0x00, 0x16]⟩⟩ 0 = .ok (.putfield 22, 3) := by decide +kernel
theorem eb_197 : opK [0x10, 0x40] = true ∧ decode ⟨⟨[0x10, 0x40]⟩⟩ 0 = .ok (.bipush 64, 2) := by decide +kernel
theorem eb_198 : opK [0xb5, 0x00, 0x1a] = true ∧ decode ⟨⟨[0xb5, 0x00, 0x1a]⟩⟩ 0 = .ok (.putfield 26, 3) := by decide +kernel
theorem eb_199 : opK [0x11, 0x09, 0x00] = true ∧ decode ⟨⟨[0x11, 0x09, 0x00]⟩⟩ 0 = .ok (.sipush 2304, 3) := by decide +kernel
theorem eb_200 : opK [0xb5, 0x00, 0x1d] = true ∧ decode ⟨⟨[0xb5, 0x00, 0x1d]⟩⟩ 0 = .ok (.putfield 29, 3) := by decide +kernel
theorem eb_201 : opK [0xb5, 0x00, 0x20] = true ∧ decode ⟨⟨[0xb5, 0x00, 0x20]⟩⟩ 0 = .ok (.putfield 32, 3) := by decide +kernel
theorem eb_202 : opK [0x99, 0x00, 0x0a] = true ∧ decode ⟨⟨[0x99, 0x00, 0x0a]⟩⟩ 0 = .ok (.ifCond .eq 10, 3) := by decide +kernel
theorem eb_203 : opK [0xa7, 0x00, 0x07] = true ∧ decode ⟨⟨[0xa7, 0x00, 0x07]⟩⟩ 0 = .ok (.goto 7, 3) := by decide +kernel
theorem eb_204 : opK [0x99, 0x00, 0x17] = true ∧ decode ⟨⟨[0x99, 0x00, 0x17]⟩⟩ 0 = .ok (.ifCond .eq 23, 3) := by decide +kernel
theorem eb_205 : opK [0xa7, 0x00, 0x14] = true ∧ decode ⟨⟨[0xa7, 0x00, 0x14]⟩⟩ 0 = .ok (.goto 20, 3) := by decide +kernel
theorem eb_206 : opK [0xb6, 0x00, 0x30] = true ∧ decode ⟨⟨[0xb6, 0x00, 0x30]⟩⟩ 0 = .ok (.invokevirtual 48, 3) := by decide +kernel
theorem eb_207 : opK [0xb4, 0x00, 0x1d] = true ∧ decode ⟨⟨[0xb4, 0x00, 0x1d]⟩⟩ 0 = .ok (.getfield 29, 3) := by decide +kernel
theorem eb_208 : opK [0xb6, 0x00, 0x33] = true ∧ decode ⟨⟨[0xb6, 0x00, 0x33]⟩⟩ 0 = .ok (.invokevirtual 51, 3) := by decide +kernel
theorem eb_209 : opK [0x11, 0xfe, 0xff] = true ∧ decode ⟨⟨[0x11, 0xfe, 0xff]⟩⟩ 0 = .ok (.sipush (-257), 3) := by decide +kernel
theorem eb_210 : opK [0x99, 0x00, 0x14] = true ∧ decode ⟨⟨[0x99, 0x00, 0x14]⟩⟩ 0 = .ok (.ifCond .eq 20, 3) := by decide +kernel
theorem eb_211 : opK [0xb8, 0x00, 0x37] = true ∧ decode ⟨⟨[0xb8, 0x00, 0x37]⟩⟩ 0 = .ok (.invokestatic 55, 3) := by decide +kernel
theorem eb_212 : opK [0xb4, 0x00, 0x16] = true ∧ decode ⟨⟨[0xb4, 0x00, 0x16]⟩⟩ 0 = .ok (.getfield 22, 3) := by decide +kernel
theorem eb_213 : opK [0x99, 0x00, 0x18] = true ∧ decode ⟨⟨[0x99, 0x00, 0x18]⟩⟩ 0 = .ok (.ifCond .eq 24, 3) := by decide +kernel
theorem eb_214 : opK [0xb6, 0x00, 0x3d] = true ∧ decode ⟨⟨[0xb6, 0x00, 0x3d]⟩⟩ 0 = .ok (.invokevirtual 61, 3) := by decide +kernel
theorem eb_215 : opK [0xb6, 0x00, 0x43] = true ∧ decode ⟨⟨[0xb6, 0x00, 0x43]⟩⟩ 0 = .ok (.invokevirtual 67, 3) := by decide +kernel
theorem eb_216 : opK [0xb6, 0x00, 0x46] = true ∧ decode ⟨⟨[0xb6, 0x00, 0x46]⟩⟩ 0 = .ok (.invokevirtual 70, 3) := by decide +kernel
theorem eb_217 : opK [0xa2, 0x00, 0x24] = true ∧ decode ⟨⟨[0xa2, 0x00, 0x24]⟩⟩ 0 = .ok (.if_icmp .ge 36, 3) := by decide +kernel
theorem eb_218 : opK [0x70] = true ∧ decode ⟨⟨[0x70]⟩⟩ 0 = .ok (.irem, 1) := by decide +kernel
theorem eb_219 : opK [0x6c] = true ∧ decode ⟨⟨[0x6c]⟩⟩ 0 = .ok (.idiv, 1) := by decide +kernel
theorem eb_220 : opK [0x84, 0x05, 0x01] = true ∧ decode ⟨⟨[0x84, 0x05, 0x01]⟩⟩ 0 = .ok (.iinc 5 1, 3) := by decide +kernel
theorem eb_221 : opK [0xa7, 0xff, 0xdc] = true ∧ decode ⟨⟨[0xa7, 0xff, 0xdc]⟩⟩ 0 = .ok (.goto (-36), 3) := by decide +kernel
theorem eb_222 : opK [0x3c] = true ∧ decode ⟨⟨[0x3c]⟩⟩ 0 = .ok (.istore_n 1, 1) := by decide +kernel
theorem eb_223 : opK [0xa2, 0x00, 0x41] = true ∧ decode ⟨⟨[0xa2, 0x00, 0x41]⟩⟩ 0 = .ok (.if_icmp .ge 65, 3) := by decide +kernel
theorem eb_224 : opK [0xa2, 0x00, 0x31] = true ∧ decode ⟨⟨[0xa2, 0x00, 0x31]⟩⟩ 0 = .ok (.if_icmp .ge 49, 3) := by decide +kernel
theorem eb_225 : opK [0xb8, 0x00, 0x49] = true ∧ decode ⟨⟨[0xb8, 0x00, 0x49]⟩⟩ 0 = .ok (.invokestatic 73, 3) := by decide +kernel
theorem eb_226 : opK [0xb4, 0x00, 0x1a] = true ∧ decode ⟨⟨[0xb4, 0x00, 0x1a]⟩⟩ 0 = .ok (.getfield 26, 3) := by decide +kernel
theorem eb_227 : opK [0xa7, 0xff, 0xcd] = true ∧ decode ⟨⟨[0xa7, 0xff, 0xcd]⟩⟩ 0 = .ok (.goto (-51), 3) := by decide +kernel
theorem eb_228 : opK [0x84, 0x01, 0x01] = true ∧ decode ⟨⟨[0x84, 0x01, 0x01]⟩⟩ 0 = .ok (.iinc 1 1, 3) := by decide +kernel
theorem eb_229 : opK [0xa7, 0xff, 0xbd] = true ∧ decode ⟨⟨[0xa7, 0xff, 0xbd]⟩⟩ 0 = .ok (.goto (-67), 3) := by decide +kernel
theorem eb_230 : opK [0x9a, 0x00, 0x15] = true ∧ decode ⟨⟨[0x9a, 0x00, 0x15]⟩⟩ 0 = .ok (.ifCond .ne 21, 3) := by decide +kernel
theorem eb_231 : opK [0x9e, 0x00, 0x07] = true ∧ decode ⟨⟨[0x9e, 0x00, 0x07]⟩⟩ 0 = .ok (.ifCond .le 7, 3) := by decide +kernel
theorem eb_232 : opK [0x11, 0x01, 0x00] = true ∧ decode ⟨⟨[0x11, 0x01, 0x00]⟩⟩ 0 = .ok (.sipush 256, 3) := by decide +kernel
theorem eb_233 : opK [0xb8, 0x00, 0x4d] = true ∧ decode ⟨⟨[0xb8, 0x00, 0x4d]⟩⟩ 0 = .ok (.invokestatic 77, 3) := by decide +kernel
theorem eb_234 : opK [0x9b, 0x00, 0x60] = true ∧ decode ⟨⟨[0x9b, 0x00, 0x60]⟩⟩ 0 = .ok (.ifCond .lt 96, 3) := by decide +kernel
theorem eb_235 : opK [0xa2, 0x00, 0x53] = true ∧ decode ⟨⟨[0xa2, 0x00, 0x53]⟩⟩ 0 = .ok (.if_icmp .ge 83, 3) := by decide +kernel
theorem eb_236 : opK [0xb6, 0x00, 0x53] = true ∧ decode ⟨⟨[0xb6, 0x00, 0x53]⟩⟩ 0 = .ok (.invokevirtual 83, 3) := by decide +kernel
theorem eb_237 : opK [0xb8, 0x00, 0x5b] = true ∧ decode ⟨⟨[0xb8, 0x00, 0x5b]⟩⟩ 0 = .ok (.invokestatic 91, 3) := by decide +kernel
theorem eb_238 : opK [0xa7, 0xff, 0xda] = true ∧ decode ⟨⟨[0xa7, 0xff, 0xda]⟩⟩ 0 = .ok (.goto (-38), 3) := by decide +kernel
theorem eb_239 : opK [0xa7, 0xff, 0xae] = true ∧ decode ⟨⟨[0xa7, 0xff, 0xae]⟩⟩ 0 = .ok (.goto (-82), 3) := by decide +kernel
theorem eb_240 : opK [0x84, 0x02, 0xff] = true ∧ decode ⟨⟨[0x84, 0x02, 0xff]⟩⟩ 0 = .ok (.iinc 2 (-1), 3) := by decide +kernel
theorem eb_241 : opK [0xa7, 0xff, 0xa2] = true ∧ decode ⟨⟨[0xa7, 0xff, 0xa2]⟩⟩ 0 = .ok (.goto (-94), 3) := by decide +kernel
theorem eb_242 : opK [0xb4, 0x00, 0x20] = true ∧ decode ⟨⟨[0xb4, 0x00, 0x20]⟩⟩ 0 = .ok (.getfield 32, 3) := by decide +kernel
theorem eb_243 : opK [0xa2, 0x00, 0x10] = true ∧ decode ⟨⟨[0xa2, 0x00, 0x10]⟩⟩ 0 = .ok (.if_icmp .ge 16, 3) := by decide +kernel
theorem eb_244 : opK [0x54] = true ∧ decode ⟨⟨[0x54]⟩⟩ 0 = .ok (.bastore, 1) := by decide +kernel
theorem eb_245 : opK [0xa7, 0xff, 0xed] = true ∧ decode ⟨⟨[0xa7, 0xff, 0xed]⟩⟩ 0 = .ok (.goto (-19), 3) := by decide +kernel
theorem eb_246 : opK [0xa2, 0x00, 0x2b] = true ∧ decode ⟨⟨[0xa2, 0x00, 0x2b]⟩⟩ 0 = .ok (.if_icmp .ge 43, 3) := by decide +kernel
theorem eb_247 : opK [0xa2, 0x00, 0x1e] = true ∧ decode ⟨⟨[0xa2, 0x00, 0x1e]⟩⟩ 0 = .ok (.if_icmp .ge 30, 3) := by decide +kernel
theorem eb_248 : opK [0x33] = true ∧ decode ⟨⟨[0x33]⟩⟩ 0 = .ok (.baload, 1) := by decide +kernel
theorem eb_249 : opK [0x99, 0x00, 0x09] = true ∧ decode ⟨⟨[0x99, 0x00, 0x09]⟩⟩ 0 = .ok (.ifCond .eq 9, 3) := by decide +kernel
theorem eb_250 : opK [0xa7, 0xff, 0xe3] = true ∧ decode ⟨⟨[0xa7, 0xff, 0xe3]⟩⟩ 0 = .ok (.goto (-29), 3) := by decide +kernel
theorem eb_251 : opK [0xa7, 0xff, 0xd3] = true ∧ decode ⟨⟨[0xa7, 0xff, 0xd3]⟩⟩ 0 = .ok (.goto (-45), 3) := by decide +kernel
theorem eb_252 : opK [0xa0, 0x00, 0x1e] = true ∧ decode ⟨⟨[0xa0, 0x00, 0x1e]⟩⟩ 0 = .ok (.if_icmp .ne 30, 3) := by decide +kernel
theorem eb_253 : opK [0x99, 0x00, 0x30] = true ∧ decode ⟨⟨[0x99, 0x00, 0x30]⟩⟩ 0 = .ok (.ifCond .eq 48, 3) := by decide +kernel
theorem eb_254 : opK [0xa0, 0x00, 0x24] = true ∧ decode ⟨⟨[0xa0, 0x00, 0x24]⟩⟩ 0 = .ok (.if_icmp .ne 36, 3) := by decide +kernel
theorem eb_255 : opK [0xa7, 0xff, 0xbc] = true ∧ decode ⟨⟨[0xa7, 0xff, 0xbc]⟩⟩ 0 = .ok (.goto (-68), 3) := by decide +kernel
theorem eb_256 : opK [0xa2, 0x00, 0x3a] = true ∧ decode ⟨⟨[0xa2, 0x00, 0x3a]⟩⟩ 0 = .ok (.if_icmp .ge 58, 3) := by decide +kernel
theorem eb_257 : opK [0xa0, 0x00, 0x30] = true ∧ decode ⟨⟨[0xa0, 0x00, 0x30]⟩⟩ 0 = .ok (.if_icmp .ne 48, 3) := by decide +kernel
theorem eb_258 : opK [0x99, 0x00, 0x20] = true ∧ decode ⟨⟨[0x99, 0x00, 0x20]⟩⟩ 0 = .ok (.ifCond .eq 32, 3) := by decide +kernel
theorem eb_259 : opK [0xa0, 0x00, 0x0a] = true ∧ decode ⟨⟨[0xa0, 0x00, 0x0a]⟩⟩ 0 = .ok (.if_icmp .ne 10, 3) := by decide +kernel
theorem eb_260 : opK [0xa7, 0xff, 0xc4] = true ∧ decode ⟨⟨[0xa7, 0xff, 0xc4]⟩⟩ 0 = .ok (.goto (-60), 3) := by decide +kernel
theorem eb_261 : opK [0x9f, 0x00, 0x0e] = true ∧ decode ⟨⟨[0x9f, 0x00, 0x0e]⟩⟩ 0 = .ok (.if_icmp .eq 14, 3) := by decide +kernel
theorem eb_262 : opK [0xa7, 0xff, 0x98] = true ∧ decode ⟨⟨[0xa7, 0xff, 0x98]⟩⟩ 0 = .ok (.goto (-104), 3) := by decide +kernel
theorem eb_263 : opK [0x10, 0x50] = true ∧ decode ⟨⟨[0x10, 0x50]⟩⟩ 0 = .ok (.bipush 80, 2) := by decide +kernel
theorem eb_264 : opK [0x11, 0x01, 0x2c] = true ∧ decode ⟨⟨[0x11, 0x01, 0x2c]⟩⟩ 0 = .ok (.sipush 300, 3) := by decide +kernel
theorem eb_265 : opK [0xb5, 0x00, 0x22] = true ∧ decode ⟨⟨[0xb5, 0x00, 0x22]⟩⟩ 0 = .ok (.putfield 34, 3) := by decide +kernel
theorem eb_266 : opK [0xb5, 0x00, 0x25] = true ∧ decode ⟨⟨[0xb5, 0x00, 0x25]⟩⟩ 0 = .ok (.putfield 37, 3) := by decide +kernel
theorem eb_267 : opK [0xb5, 0x00, 0x28] = true ∧ decode ⟨⟨[0xb5, 0x00, 0x28]⟩⟩ 0 = .ok (.putfield 40, 3) := by decide +kernel
theorem eb_268 : opK [0xb5, 0x00, 0x2b] = true ∧ decode ⟨⟨[0xb5, 0x00, 0x2b]⟩⟩ 0 = .ok (.putfield 43, 3) := by decide +kernel
theorem eb_269 : opK [0xb5, 0x00, 0x2e] = true ∧ decode ⟨⟨[0xb5, 0x00, 0x2e]⟩⟩ 0 = .ok (.putfield 46, 3) := by decide +kernel
theorem eb_270 : opK [0xb5, 0x00, 0x31] = true ∧ decode ⟨⟨[0xb5, 0x00, 0x31]⟩⟩ 0 = .ok (.putfield 49, 3) := by decide +kernel
theorem eb_271 : opK [0x11, 0x0a, 0x8c] = true ∧ decode ⟨⟨[0x11, 0x0a, 0x8c]⟩⟩ 0 = .ok (.sipush 2700, 3) := by decide +kernel
theorem eb_272 : opK [0xb5, 0x00, 0x34] = true ∧ decode ⟨⟨[0xb5, 0x00, 0x34]⟩⟩ 0 = .ok (.putfield 52, 3) := by decide +kernel
theorem eb_273 : opK [0xb4, 0x00, 0x37] = true ∧ decode ⟨⟨[0xb4, 0x00, 0x37]⟩⟩ 0 = .ok (.getfield 55, 3) := by decide +kernel
theorem eb_274 : opK [0xb5, 0x00, 0x37] = true ∧ decode ⟨⟨[0xb5, 0x00, 0x37]⟩⟩ 0 = .ok (.putfield 55, 3) := by decide +kernel
theorem eb_275 : opK [0xb8, 0x00, 0x3b] = true ∧ decode ⟨⟨[0xb8, 0x00, 0x3b]⟩⟩ 0 = .ok (.invokestatic 59, 3) := by decide +kernel
theorem eb_276 : opK [0xb4, 0x00, 0x3f] = true ∧ decode ⟨⟨[0xb4, 0x00, 0x3f]⟩⟩ 0 = .ok (.getfield 63, 3) := by decide +kernel
theorem eb_277 : opK [0x99, 0x00, 0x1a] = true ∧ decode ⟨⟨[0x99, 0x00, 0x1a]⟩⟩ 0 = .ok (.ifCond .eq 26, 3) := by decide +kernel
theorem eb_278 : opK [0x99, 0x00, 0x24] = true ∧ decode ⟨⟨[0x99, 0x00, 0x24]⟩⟩ 0 = .ok (.ifCond .eq 36, 3) := by decide +kernel
theorem eb_279 : opK [0xa0, 0x00, 0x1a] = true ∧ decode ⟨⟨[0xa0, 0x00, 0x1a]⟩⟩ 0 = .ok (.if_icmp .ne 26, 3) := by decide +kernel
theorem eb_280 : opK [0xa2, 0x00, 0x11] = true ∧ decode ⟨⟨[0xa2, 0x00, 0x11]⟩⟩ 0 = .ok (.if_icmp .ge 17, 3) := by decide +kernel
theorem eb_281 : opK [0xb4, 0x00, 0x25] = true ∧ decode ⟨⟨[0xb4, 0x00, 0x25]⟩⟩ 0 = .ok (.getfield 37, 3) := by decide +kernel
theorem eb_282 : opK [0xb4, 0x00, 0x28] = true ∧ decode ⟨⟨[0xb4, 0x00, 0x28]⟩⟩ 0 = .ok (.getfield 40, 3) := by decide +kernel
theorem eb_283 : opK [0xb4, 0x00, 0x2b] = true ∧ decode ⟨⟨[0xb4, 0x00, 0x2b]⟩⟩ 0 = .ok (.getfield 43, 3) := by decide +kernel
theorem eb_284 : opK [0xb4, 0x00, 0x2e] = true ∧ decode ⟨⟨[0xb4, 0x00, 0x2e]⟩⟩ 0 = .ok (.getfield 46, 3) := by decide +kernel
theorem eb_285 : opK [0xb4, 0x00, 0x31] = true ∧ decode ⟨⟨[0xb4, 0x00, 0x31]⟩⟩ 0 = .ok (.getfield 49, 3) := by decide +kernel
theorem eb_286 : opK [0xb5, 0x00, 0x3f] = true ∧ decode ⟨⟨[0xb5, 0x00, 0x3f]⟩⟩ 0 = .ok (.putfield 63, 3) := by decide +kernel
theorem eb_287 : opK [0x10, 0x09] = true ∧ decode ⟨⟨[0x10, 0x09]⟩⟩ 0 = .ok (.bipush 9, 2) := by decide +kernel
theorem eb_288 : opK [0xb4, 0x00, 0x34] = true ∧ decode ⟨⟨[0xb4, 0x00, 0x34]⟩⟩ 0 = .ok (.getfield 52, 3) := by decide +kernel
theorem eb_289 : opK [0x11, 0x05, 0xa0] = true ∧ decode ⟨⟨[0x11, 0x05, 0xa0]⟩⟩ 0 = .ok (.sipush 1440, 3) := by decide +kernel
theorem eb_290 : opK [0x10, 0x3c] = true ∧ decode ⟨⟨[0x10, 0x3c]⟩⟩ 0 = .ok (.bipush 60, 2) := by decide +kernel
theorem eb_291 : opK [0x07] = true ∧ decode ⟨⟨[0x07]⟩⟩ 0 = .ok (.iconst 4, 1) := by decide +kernel
theorem eb_292 : opK [0xb6, 0x00, 0x42] = true ∧ decode ⟨⟨[0xb6, 0x00, 0x42]⟩⟩ 0 = .ok (.invokevirtual 66, 3) := by decide +kernel
theorem eb_293 : opK [0x99, 0x00, 0x19] = true ∧ decode ⟨⟨[0x99, 0x00, 0x19]⟩⟩ 0 = .ok (.ifCond .eq 25, 3) := by decide +kernel
theorem eb_294 : opK [0x99, 0x00, 0x0f] = true ∧ decode ⟨⟨[0x99, 0x00, 0x0f]⟩⟩ 0 = .ok (.ifCond .eq 15, 3) := by decide +kernel
theorem eb_295 : opK [0x9a, 0x00, 0x04] = true ∧ decode ⟨⟨[0x9a, 0x00, 0x04]⟩⟩ 0 = .ok (.ifCond .ne 4, 3) := by decide +kernel
theorem eb_296 : opK [0xa4, 0x00, 0x18] = true ∧ decode ⟨⟨[0xa4, 0x00, 0x18]⟩⟩ 0 = .ok (.if_icmp .le 24, 3) := by decide +kernel
theorem eb_297 : opK [0x9f, 0x00, 0x12] = true ∧ decode ⟨⟨[0x9f, 0x00, 0x12]⟩⟩ 0 = .ok (.if_icmp .eq 18, 3) := by decide +kernel
theorem eb_298 : opK [0xb4, 0x00, 0x46] = true ∧ decode ⟨⟨[0xb4, 0x00, 0x46]⟩⟩ 0 = .ok (.getfield 70, 3) := by decide +kernel
theorem eb_299 : opK [0xb5, 0x00, 0x46] = true ∧ decode ⟨⟨[0xb5, 0x00, 0x46]⟩⟩ 0 = .ok (.putfield 70, 3) := by decide +kernel
theorem eb_300 : opK [0xa0, 0x00, 0x14] = true ∧ decode ⟨⟨[0xa0, 0x00, 0x14]⟩⟩ 0 = .ok (.if_icmp .ne 20, 3) := by decide +kernel
theorem eb_301 : opK [0x2c] = true ∧ decode ⟨⟨[0x2c]⟩⟩ 0 = .ok (.aload_n 2, 1) := by decide +kernel
theorem eb_302 : opK [0xb6, 0x00, 0x49] = true ∧ decode ⟨⟨[0xb6, 0x00, 0x49]⟩⟩ 0 = .ok (.invokevirtual 73, 3) := by decide +kernel
theorem eb_303 : opK [0xb6, 0x00, 0x4f] = true ∧ decode ⟨⟨[0xb6, 0x00, 0x4f]⟩⟩ 0 = .ok (.invokevirtual 79, 3) := by decide +kernel
theorem eb_304 : opK [0xa2, 0x00, 0x20] = true ∧ decode ⟨⟨[0xa2, 0x00, 0x20]⟩⟩ 0 = .ok (.if_icmp .ge 32, 3) := by decide +kernel
theorem eb_305 : opK [0x9f, 0x00, 0x10] = true ∧ decode ⟨⟨[0x9f, 0x00, 0x10]⟩⟩ 0 = .ok (.if_icmp .eq 16, 3) := by decide +kernel
theorem eb_306 : opK [0xa3, 0x00, 0x06] = true ∧ decode ⟨⟨[0xa3, 0x00, 0x06]⟩⟩ 0 = .ok (.if_icmp .gt 6, 3) := by decide +kernel
theorem eb_307 : opK [0xa7, 0xff, 0xde] = true ∧ decode ⟨⟨[0xa7, 0xff, 0xde]⟩⟩ 0 = .ok (.goto (-34), 3) := by decide +kernel
theorem eb_308 : opK [0xa2, 0x00, 0x48] = true ∧ decode ⟨⟨[0xa2, 0x00, 0x48]⟩⟩ 0 = .ok (.if_icmp .ge 72, 3) := by decide +kernel
theorem eb_309 : opK [0xa0, 0x00, 0x37] = true ∧ decode ⟨⟨[0xa0, 0x00, 0x37]⟩⟩ 0 = .ok (.if_icmp .ne 55, 3) := by decide +kernel
theorem eb_310 : opK [0xa0, 0x00, 0x2c] = true ∧ decode ⟨⟨[0xa0, 0x00, 0x2c]⟩⟩ 0 = .ok (.if_icmp .ne 44, 3) := by decide +kernel
theorem eb_311 : opK [0xa0, 0x00, 0x1d] = true ∧ decode ⟨⟨[0xa0, 0x00, 0x1d]⟩⟩ 0 = .ok (.if_icmp .ne 29, 3) := by decide +kernel
theorem eb_312 : opK [0x2d] = true ∧ decode ⟨⟨[0x2d]⟩⟩ 0 = .ok (.aload_n 3, 1) := by decide +kernel
theorem eb_313 : opK [0xa7, 0xff, 0xb5] = true ∧ decode ⟨⟨[0xa7, 0xff, 0xb5]⟩⟩ 0 = .ok (.goto (-75), 3) := by decide +kernel
theorem eb_314 : opK [0x10, 0x28] = true ∧ decode ⟨⟨[0x10, 0x28]⟩⟩ 0 = .ok (.bipush 40, 2) := by decide +kernel
theorem eb_315 : opK [0x11, 0x00, 0xa8] = true ∧ decode ⟨⟨[0x11, 0x00, 0xa8]⟩⟩ 0 = .ok (.sipush 168, 3) := by decide +kernel
theorem eb_316 : opK [0x11, 0x02, 0x58] = true ∧ decode ⟨⟨[0x11, 0x02, 0x58]⟩⟩ 0 = .ok (.sipush 600, 3) := by decide +kernel
theorem eb_317 : opK [0x10, 0x30] = true ∧ decode ⟨⟨[0x10, 0x30]⟩⟩ 0 = .ok (.bipush 48, 2) := by decide +kernel
theorem eb_318 : opK [0xb8, 0x00, 0x34] = true ∧ decode ⟨⟨[0xb8, 0x00, 0x34]⟩⟩ 0 = .ok (.invokestatic 52, 3) := by decide +kernel
theorem eb_319 : opK [0xb4, 0x00, 0x3a] = true ∧ decode ⟨⟨[0xb4, 0x00, 0x3a]⟩⟩ 0 = .ok (.getfield 58, 3) := by decide +kernel
theorem eb_320 : opK [0xb5, 0x00, 0x3a] = true ∧ decode ⟨⟨[0xb5, 0x00, 0x3a]⟩⟩ 0 = .ok (.putfield 58, 3) := by decide +kernel
theorem eb_321 : opK [0xb4, 0x00, 0x3d] = true ∧ decode ⟨⟨[0xb4, 0x00, 0x3d]⟩⟩ 0 = .ok (.getfield 61, 3) := by decide +kernel
theorem eb_322 : opK [0xa2, 0x00, 0x44] = true ∧ decode ⟨⟨[0xa2, 0x00, 0x44]⟩⟩ 0 = .ok (.if_icmp .ge 68, 3) := by decide +kernel
theorem eb_323 : opK [0xb4, 0x00, 0x42] = true ∧ decode ⟨⟨[0xb4, 0x00, 0x42]⟩⟩ 0 = .ok (.getfield 66, 3) := by decide +kernel
theorem eb_324 : opK [0xa3, 0x00, 0x25] = true ∧ decode ⟨⟨[0xa3, 0x00, 0x25]⟩⟩ 0 = .ok (.if_icmp .gt 37, 3) := by decide +kernel
theorem eb_325 : opK [0xb8, 0x00, 0x45] = true ∧ decode ⟨⟨[0xb8, 0x00, 0x45]⟩⟩ 0 = .ok (.invokestatic 69, 3) := by decide +kernel
theorem eb_326 : opK [0x99, 0x00, 0x15] = true ∧ decode ⟨⟨[0x99, 0x00, 0x15]⟩⟩ 0 = .ok (.ifCond .eq 21, 3) := by decide +kernel
theorem eb_327 : opK [0xa7, 0xff, 0xb9] = true ∧ decode ⟨⟨[0xa7, 0xff, 0xb9]⟩⟩ 0 = .ok (.goto (-71), 3) := by decide +kernel
theorem eb_328 : opK [0x10, 0x0b] = true ∧ decode ⟨⟨[0x10, 0x0b]⟩⟩ 0 = .ok (.bipush 11, 2) := by decide +kernel
theorem eb_329 : opK [0x10, 0x0d] = true ∧ decode ⟨⟨[0x10, 0x0d]⟩⟩ 0 = .ok (.bipush 13, 2) := by decide +kernel
theorem eb_330 : opK [0x10, 0x0e] = true ∧ decode ⟨⟨[0x10, 0x0e]⟩⟩ 0 = .ok (.bipush 14, 2) := by decide +kernel
theorem eb_331 : opK [0xa2, 0x00, 0x26] = true ∧ decode ⟨⟨[0xa2, 0x00, 0x26]⟩⟩ 0 = .ok (.if_icmp .ge 38, 3) := by decide +kernel
theorem eb_332 : opK [0xa7, 0xff, 0xd9] = true ∧ decode ⟨⟨[0xa7, 0xff, 0xd9]⟩⟩ 0 = .ok (.goto (-39), 3) := by decide +kernel
theorem eb_333 : opK [0xb4, 0x00, 0x4f] = true ∧ decode ⟨⟨[0xb4, 0x00, 0x4f]⟩⟩ 0 = .ok (.getfield 79, 3) := by decide +kernel
theorem eb_334 : opK [0xa4, 0x00, 0x05] = true ∧ decode ⟨⟨[0xa4, 0x00, 0x05]⟩⟩ 0 = .ok (.if_icmp .le 5, 3) := by decide +kernel
theorem eb_335 : opK [0xa2, 0x00, 0x2a] = true ∧ decode ⟨⟨[0xa2, 0x00, 0x2a]⟩⟩ 0 = .ok (.if_icmp .ge 42, 3) := by decide +kernel
theorem eb_336 : opK [0xa2, 0x00, 0x1b] = true ∧ decode ⟨⟨[0xa2, 0x00, 0x1b]⟩⟩ 0 = .ok (.if_icmp .ge 27, 3) := by decide +kernel
theorem eb_337 : opK [0x9f, 0x00, 0x0a] = true ∧ decode ⟨⟨[0x9f, 0x00, 0x0a]⟩⟩ 0 = .ok (.if_icmp .eq 10, 3) := by decide +kernel
theorem eb_338 : opK [0xb6, 0x00, 0x52] = true ∧ decode ⟨⟨[0xb6, 0x00, 0x52]⟩⟩ 0 = .ok (.invokevirtual 82, 3) := by decide +kernel
theorem eb_339 : opK [0xa7, 0xff, 0xd5] = true ∧ decode ⟨⟨[0xa7, 0xff, 0xd5]⟩⟩ 0 = .ok (.goto (-43), 3) := by decide +kernel
theorem eb_340 : opK [0xa2, 0x00, 0x65] = true ∧ decode ⟨⟨[0xa2, 0x00, 0x65]⟩⟩ 0 = .ok (.if_icmp .ge 101, 3) := by decide +kernel
theorem eb_341 : opK [0xb4, 0x00, 0x56] = true ∧ decode ⟨⟨[0xb4, 0x00, 0x56]⟩⟩ 0 = .ok (.getfield 86, 3) := by decide +kernel
theorem eb_342 : opK [0xb5, 0x00, 0x56] = true ∧ decode ⟨⟨[0xb5, 0x00, 0x56]⟩⟩ 0 = .ok (.putfield 86, 3) := by decide +kernel
theorem eb_343 : opK [0xb5, 0x00, 0x4f] = true ∧ decode ⟨⟨[0xb5, 0x00, 0x4f]⟩⟩ 0 = .ok (.putfield 79, 3) := by decide +kernel
theorem eb_344 : opK [0x9a, 0x00, 0x06] = true ∧ decode ⟨⟨[0x9a, 0x00, 0x06]⟩⟩ 0 = .ok (.ifCond .ne 6, 3) := by decide +kernel
theorem eb_345 : opK [0x12, 0x59] = true ∧ decode ⟨⟨[0x12, 0x59]⟩⟩ 0 = .ok (.ldc 89, 2) := by decide +kernel
theorem eb_346 : opK [0xa2, 0x00, 0x3e] = true ∧ decode ⟨⟨[0xa2, 0x00, 0x3e]⟩⟩ 0 = .ok (.if_icmp .ge 62, 3) := by decide +kernel
theorem eb_347 : opK [0x9f, 0x00, 0x16] = true ∧ decode ⟨⟨[0x9f, 0x00, 0x16]⟩⟩ 0 = .ok (.if_icmp .eq 22, 3) := by decide +kernel
theorem eb_348 : opK [0xa1, 0x00, 0x08] = true ∧ decode ⟨⟨[0xa1, 0x00, 0x08]⟩⟩ 0 = .ok (.if_icmp .lt 8, 3) := by decide +kernel
theorem eb_349 : opK [0xb5, 0x00, 0x19] = true ∧ decode ⟨⟨[0xb5, 0x00, 0x19]⟩⟩ 0 = .ok (.putfield 25, 3) := by decide +kernel
theorem eb_350 : opK [0xb5, 0x00, 0x1c] = true ∧ decode ⟨⟨[0xb5, 0x00, 0x1c]⟩⟩ 0 = .ok (.putfield 28, 3) := by decide +kernel
theorem eb_351 : opK [0xb5, 0x00, 0x1f] = true ∧ decode ⟨⟨[0xb5, 0x00, 0x1f]⟩⟩ 0 = .ok (.putfield 31, 3) := by decide +kernel
theorem eb_352 : opK [0x11, 0x0d, 0x00] = true ∧ decode ⟨⟨[0x11, 0x0d, 0x00]⟩⟩ 0 = .ok (.sipush 3328, 3) := by decide +kernel
theorem eb_353 : opK [0xb6, 0x00, 0x35] = true ∧ decode ⟨⟨[0xb6, 0x00, 0x35]⟩⟩ 0 = .ok (.invokevirtual 53, 3) := by decide +kernel
theorem eb_354 : opK [0x99, 0x00, 0x23] = true ∧ decode ⟨⟨[0x99, 0x00, 0x23]⟩⟩ 0 = .ok (.ifCond .eq 35, 3) := by decide +kernel
theorem eb_355 : opK [0x19, 0x04] = true ∧ decode ⟨⟨[0x19, 0x04]⟩⟩ 0 = .ok (.aload 4, 2) := by decide +kernel
theorem eb_356 : opK [0xb6, 0x00, 0x39] = true ∧ decode ⟨⟨[0xb6, 0x00, 0x39]⟩⟩ 0 = .ok (.invokevirtual 57, 3) := by decide +kernel
theorem eb_357 : opK [0xb6, 0x00, 0x3f] = true ∧ decode ⟨⟨[0xb6, 0x00, 0x3f]⟩⟩ 0 = .ok (.invokevirtual 63, 3) := by decide +kernel
theorem eb_358 : opK [0xb4, 0x00, 0x43] = true ∧ decode ⟨⟨[0xb4, 0x00, 0x43]⟩⟩ 0 = .ok (.getfield 67, 3) := by decide +kernel
theorem eb_359 : opK [0xb8, 0x00, 0x46] = true ∧ decode ⟨⟨[0xb8, 0x00, 0x46]⟩⟩ 0 = .ok (.invokestatic 70, 3) := by decide +kernel
theorem eb_360 : opK [0xb4, 0x00, 0x4c] = true ∧ decode ⟨⟨[0xb4, 0x00, 0x4c]⟩⟩ 0 = .ok (.getfield 76, 3) := by decide +kernel
theorem eb_361 : opK [0xb4, 0x00, 0x1c] = true ∧ decode ⟨⟨[0xb4, 0x00, 0x1c]⟩⟩ 0 = .ok (.getfield 28, 3) := by decide +kernel
theorem eb_362 : opK [0xb4, 0x00, 0x53] = true ∧ decode ⟨⟨[0xb4, 0x00, 0x53]⟩⟩ 0 = .ok (.getfield 83, 3) := by decide +kernel
theorem eb_363 : opK [0xb4, 0x00, 0x5b] = true ∧ decode ⟨⟨[0xb4, 0x00, 0x5b]⟩⟩ 0 = .ok (.getfield 91, 3) := by decide +kernel
theorem eb_364 : opK [0xa0, 0x00, 0x0f] = true ∧ decode ⟨⟨[0xa0, 0x00, 0x0f]⟩⟩ 0 = .ok (.if_icmp .ne 15, 3) := by decide +kernel
theorem eb_365 : opK [0xb4, 0x00, 0x5e] = true ∧ decode ⟨⟨[0xb4, 0x00, 0x5e]⟩⟩ 0 = .ok (.getfield 94, 3) := by decide +kernel
theorem eb_366 : opK [0xa0, 0x00, 0x04] = true ∧ decode ⟨⟨[0xa0, 0x00, 0x04]⟩⟩ 0 = .ok (.if_icmp .ne 4, 3) := by decide +kernel
theorem eb_367 : opK [0xb5, 0x00, 0x53] = true ∧ decode ⟨⟨[0xb5, 0x00, 0x53]⟩⟩ 0 = .ok (.putfield 83, 3) := by decide +kernel
theorem eb_368 : opK [0xb5, 0x00, 0x5b] = true ∧ decode ⟨⟨[0xb5, 0x00, 0x5b]⟩⟩ 0 = .ok (.putfield 91, 3) := by decide +kernel
theorem eb_369 : opK [0xb5, 0x00, 0x5e] = true ∧ decode ⟨⟨[0xb5, 0x00, 0x5e]⟩⟩ 0 = .ok (.putfield 94, 3) := by decide +kernel
theorem eb_370 : opK [0xb5, 0x00, 0x4c] = true ∧ decode ⟨⟨[0xb5, 0x00, 0x4c]⟩⟩ 0 = .ok (.putfield 76, 3) := by decide +kernel
theorem eb_371 : opK [0xb4, 0x00, 0x61] = true ∧ decode ⟨⟨[0xb4, 0x00, 0x61]⟩⟩ 0 = .ok (.getfield 97, 3) := by decide +kernel
theorem eb_372 : opK [0xa2, 0x00, 0x36] = true ∧ decode ⟨⟨[0xa2, 0x00, 0x36]⟩⟩ 0 = .ok (.if_icmp .ge 54, 3) := by decide +kernel
theorem eb_373 : opK [0xa0, 0x00, 0x26] = true ∧ decode ⟨⟨[0xa0, 0x00, 0x26]⟩⟩ 0 = .ok (.if_icmp .ne 38, 3) := by decide +kernel
theorem eb_374 : opK [0xa7, 0xff, 0xc7] = true ∧ decode ⟨⟨[0xa7, 0xff, 0xc7]⟩⟩ 0 = .ok (.goto (-57), 3) := by decide +kernel
theorem eb_375 : opK [0xb5, 0x00, 0x43] = true ∧ decode ⟨⟨[0xb5, 0x00, 0x43]⟩⟩ 0 = .ok (.putfield 67, 3) := by decide +kernel
theorem eb_376 : opK [0xb5, 0x00, 0x68] = true ∧ decode ⟨⟨[0xb5, 0x00, 0x68]⟩⟩ 0 = .ok (.putfield 104, 3) := by decide +kernel
theorem eb_377 : opK [0xb6, 0x00, 0x6f] = true ∧ decode ⟨⟨[0xb6, 0x00, 0x6f]⟩⟩ 0 = .ok (.invokevirtual 111, 3) := by decide +kernel
theorem eb_378 : opK [0xa2, 0x00, 0x08] = true ∧ decode ⟨⟨[0xa2, 0x00, 0x08]⟩⟩ 0 = .ok (.if_icmp .ge 8, 3) := by decide +kernel
theorem eb_379 : opK [0xa1, 0x00, 0x04] = true ∧ decode ⟨⟨[0xa1, 0x00, 0x04]⟩⟩ 0 = .ok (.if_icmp .lt 4, 3) := by decide +kernel
theorem eb_380 : opK [0x21] = true ∧ decode ⟨⟨[0x21]⟩⟩ 0 = .ok (.lload_n 3, 1) := by decide +kernel
theorem eb_381 : opK [0x85] = true ∧ decode ⟨⟨[0x85]⟩⟩ 0 = .ok (.i2l, 1) := by decide +kernel
theorem eb_382 : opK [0xb6, 0x00, 0x73] = true ∧ decode ⟨⟨[0xb6, 0x00, 0x73]⟩⟩ 0 = .ok (.invokevirtual 115, 3) := by decide +kernel
theorem eb_383 : opK [0x9b, 0x00, 0x28] = true ∧ decode ⟨⟨[0x9b, 0x00, 0x28]⟩⟩ 0 = .ok (.ifCond .lt 40, 3) := by decide +kernel
theorem eb_384 : opK [0x84, 0x05, 0xff] = true ∧ decode ⟨⟨[0x84, 0x05, 0xff]⟩⟩ 0 = .ok (.iinc 5 (-1), 3) := by decide +kernel
theorem eb_385 : opK [0x1f] = true ∧ decode ⟨⟨[0x1f]⟩⟩ 0 = .ok (.lload_n 1, 1) := by decide +kernel
theorem eb_386 : opK [0xb8, 0x00, 0x77] = true ∧ decode ⟨⟨[0xb8, 0x00, 0x77]⟩⟩ 0 = .ok (.invokestatic 119, 3) := by decide +kernel
theorem eb_387 : opK [0xa3, 0x00, 0x14] = true ∧ decode ⟨⟨[0xa3, 0x00, 0x14]⟩⟩ 0 = .ok (.if_icmp .gt 20, 3) := by decide +kernel
theorem eb_388 : opK [0xa0, 0x00, 0x25] = true ∧ decode ⟨⟨[0xa0, 0x00, 0x25]⟩⟩ 0 = .ok (.if_icmp .ne 37, 3) := by decide +kernel
theorem eb_389 : opK [0xb4, 0x00, 0x68] = true ∧ decode ⟨⟨[0xb4, 0x00, 0x68]⟩⟩ 0 = .ok (.getfield 104, 3) := by decide +kernel
theorem eb_390 : opK [0xa4, 0x00, 0x1c] = true ∧ decode ⟨⟨[0xa4, 0x00, 0x1c]⟩⟩ 0 = .ok (.if_icmp .le 28, 3) := by decide +kernel
theorem eb_391 : opK [0xb8, 0x00, 0x7d] = true ∧ decode ⟨⟨[0xb8, 0x00, 0x7d]⟩⟩ 0 = .ok (.invokestatic 125, 3) := by decide +kernel
theorem eb_392 : opK [0xb4, 0x00, 0x83] = true ∧ decode ⟨⟨[0xb4, 0x00, 0x83]⟩⟩ 0 = .ok (.getfield 131, 3) := by decide +kernel
theorem eb_393 : opK [0xb5, 0x00, 0x83] = true ∧ decode ⟨⟨[0xb5, 0x00, 0x83]⟩⟩ 0 = .ok (.putfield 131, 3) := by decide +kernel
theorem eb_394 : opK [0x12, 0x86] = true ∧ decode ⟨⟨[0x12, 0x86]⟩⟩ 0 = .ok (.ldc 134, 2) := by decide +kernel
theorem eb_395 : opK [0xa2, 0x00, 0x16] = true ∧ decode ⟨⟨[0xa2, 0x00, 0x16]⟩⟩ 0 = .ok (.if_icmp .ge 22, 3) := by decide +kernel
theorem eb_396 : opK [0xb6, 0x00, 0x87] = true ∧ decode ⟨⟨[0xb6, 0x00, 0x87]⟩⟩ 0 = .ok (.invokevirtual 135, 3) := by decide +kernel
theorem eb_397 : opK [0xa3, 0x00, 0x21] = true ∧ decode ⟨⟨[0xa3, 0x00, 0x21]⟩⟩ 0 = .ok (.if_icmp .gt 33, 3) := by decide +kernel
theorem eb_398 : opK [0x12, 0x8b] = true ∧ decode ⟨⟨[0x12, 0x8b]⟩⟩ 0 = .ok (.ldc 139, 2) := by decide +kernel
theorem eb_399 : opK [0xa7, 0xff, 0xdf] = true ∧ decode ⟨⟨[0xa7, 0xff, 0xdf]⟩⟩ 0 = .ok (.goto (-33), 3) := by decide +kernel
theorem eb_400 : opK [0x9b, 0x00, 0x2e] = true ∧ decode ⟨⟨[0x9b, 0x00, 0x2e]⟩⟩ 0 = .ok (.ifCond .lt 46, 3) := by decide +kernel
theorem eb_401 : opK [0xa3, 0x00, 0x1f] = true ∧ decode ⟨⟨[0xa3, 0x00, 0x1f]⟩⟩ 0 = .ok (.if_icmp .gt 31, 3) := by decide +kernel
theorem eb_402 : opK [0xb6, 0x00, 0x8c] = true ∧ decode ⟨⟨[0xb6, 0x00, 0x8c]⟩⟩ 0 = .ok (.invokevirtual 140, 3) := by decide +kernel
theorem eb_403 : opK [0xa7, 0xff, 0xe1] = true ∧ decode ⟨⟨[0xa7, 0xff, 0xe1]⟩⟩ 0 = .ok (.goto (-31), 3) := by decide +kernel
theorem eb_404 : opK [0x84, 0x04, 0xff] = true ∧ decode ⟨⟨[0x84, 0x04, 0xff]⟩⟩ 0 = .ok (.iinc 4 (-1), 3) := by decide +kernel
theorem eb_405 : opK [0xb6, 0x00, 0x8f] = true ∧ decode ⟨⟨[0xb6, 0x00, 0x8f]⟩⟩ 0 = .ok (.invokevirtual 143, 3) := by decide +kernel
theorem eb_406 : opK [0xb6, 0x00, 0x93] = true ∧ decode ⟨⟨[0xb6, 0x00, 0x93]⟩⟩ 0 = .ok (.invokevirtual 147, 3) := by decide +kernel
theorem eb_407 : opK [0xa7, 0xff, 0xe7] = true ∧ decode ⟨⟨[0xa7, 0xff, 0xe7]⟩⟩ 0 = .ok (.goto (-25), 3) := by decide +kernel
theorem eb_408 : opK [0xa2, 0x00, 0x74] = true ∧ decode ⟨⟨[0xa2, 0x00, 0x74]⟩⟩ 0 = .ok (.if_icmp .ge 116, 3) := by decide +kernel
theorem eb_409 : opK [0xa0, 0x00, 0x36] = true ∧ decode ⟨⟨[0xa0, 0x00, 0x36]⟩⟩ 0 = .ok (.if_icmp .ne 54, 3) := by decide +kernel
theorem eb_410 : opK [0xa0, 0x00, 0x0c] = true ∧ decode ⟨⟨[0xa0, 0x00, 0x0c]⟩⟩ 0 = .ok (.if_icmp .ne 12, 3) := by decide +kernel
theorem eb_411 : opK [0x9f, 0x00, 0x11] = true ∧ decode ⟨⟨[0x9f, 0x00, 0x11]⟩⟩ 0 = .ok (.if_icmp .eq 17, 3) := by decide +kernel
theorem eb_412 : opK [0xa7, 0xff, 0x8c] = true ∧ decode ⟨⟨[0xa7, 0xff, 0x8c]⟩⟩ 0 = .ok (.goto (-116), 3) := by decide +kernel
theorem eb_413 : opK [0x11, 0x01, 0x90] = true ∧ decode ⟨⟨[0x11, 0x01, 0x90]⟩⟩ 0 = .ok (.sipush 400, 3) := by decide +kernel
theorem eb_414 : opK [0x9b, 0x00, 0x21] = true ∧ decode ⟨⟨[0x9b, 0x00, 0x21]⟩⟩ 0 = .ok (.ifCond .lt 33, 3) := by decide +kernel
theorem eb_415 : opK [0xa2, 0x00, 0x19] = true ∧ decode ⟨⟨[0xa2, 0x00, 0x19]⟩⟩ 0 = .ok (.if_icmp .ge 25, 3) := by decide +kernel
theorem eb_416 : opK [0x99, 0x00, 0x16] = true ∧ decode ⟨⟨[0x99, 0x00, 0x16]⟩⟩ 0 = .ok (.ifCond .eq 22, 3) := by decide +kernel
theorem eb_417 : opK [0xa3, 0x00, 0x0c] = true ∧ decode ⟨⟨[0xa3, 0x00, 0x0c]⟩⟩ 0 = .ok (.if_icmp .gt 12, 3) := by decide +kernel
theorem eb_418 : opK [0xb4, 0x00, 0x32] = true ∧ decode ⟨⟨[0xb4, 0x00, 0x32]⟩⟩ 0 = .ok (.getfield 50, 3) := by decide +kernel
theorem eb_419 : opK [0xa2, 0x00, 0x27] = true ∧ decode ⟨⟨[0xa2, 0x00, 0x27]⟩⟩ 0 = .ok (.if_icmp .ge 39, 3) := by decide +kernel
theorem eb_420 : opK [0xa0, 0x00, 0x16] = true ∧ decode ⟨⟨[0xa0, 0x00, 0x16]⟩⟩ 0 = .ok (.if_icmp .ne 22, 3) := by decide +kernel
theorem eb_421 : opK [0xa3, 0x00, 0x0b] = true ∧ decode ⟨⟨[0xa3, 0x00, 0x0b]⟩⟩ 0 = .ok (.if_icmp .gt 11, 3) := by decide +kernel
theorem eb_422 : opK [0xa7, 0xff, 0xd6] = true ∧ decode ⟨⟨[0xa7, 0xff, 0xd6]⟩⟩ 0 = .ok (.goto (-42), 3) := by decide +kernel
theorem eb_423 : opK [0xa0, 0x00, 0x0d] = true ∧ decode ⟨⟨[0xa0, 0x00, 0x0d]⟩⟩ 0 = .ok (.if_icmp .ne 13, 3) := by decide +kernel
theorem eb_424 : opK [0xb5, 0x00, 0x32] = true ∧ decode ⟨⟨[0xb5, 0x00, 0x32]⟩⟩ 0 = .ok (.putfield 50, 3) := by decide +kernel
theorem eb_425 : opK [0xa7, 0xff, 0xe6] = true ∧ decode ⟨⟨[0xa7, 0xff, 0xe6]⟩⟩ 0 = .ok (.goto (-26), 3) := by decide +kernel
theorem eb_426 : opK [0xa0, 0x00, 0x15] = true ∧ decode ⟨⟨[0xa0, 0x00, 0x15]⟩⟩ 0 = .ok (.if_icmp .ne 21, 3) := by decide +kernel
theorem eb_427 : opK [0xa2, 0x00, 0x22] = true ∧ decode ⟨⟨[0xa2, 0x00, 0x22]⟩⟩ 0 = .ok (.if_icmp .ge 34, 3) := by decide +kernel
theorem eb_428 : opK [0xa7, 0xff, 0xdb] = true ∧ decode ⟨⟨[0xa7, 0xff, 0xdb]⟩⟩ 0 = .ok (.goto (-37), 3) := by decide +kernel
theorem eb_429 : opK [0xa2, 0x00, 0x2c] = true ∧ decode ⟨⟨[0xa2, 0x00, 0x2c]⟩⟩ 0 = .ok (.if_icmp .ge 44, 3) := by decide +kernel
theorem eb_430 : opK [0x99, 0x00, 0x1b] = true ∧ decode ⟨⟨[0x99, 0x00, 0x1b]⟩⟩ 0 = .ok (.ifCond .eq 27, 3) := by decide +kernel
theorem eb_431 : opK [0x9f, 0x00, 0x09] = true ∧ decode ⟨⟨[0x9f, 0x00, 0x09]⟩⟩ 0 = .ok (.if_icmp .eq 9, 3) := by decide +kernel
theorem eb_432 : opK [0xa1, 0x00, 0x06] = true ∧ decode ⟨⟨[0xa1, 0x00, 0x06]⟩⟩ 0 = .ok (.if_icmp .lt 6, 3) := by decide +kernel
theorem eb_433 : opK [0xa7, 0xff, 0xd1] = true ∧ decode ⟨⟨[0xa7, 0xff, 0xd1]⟩⟩ 0 = .ok (.goto (-47), 3) := by decide +kernel
theorem eb_434 : opK [0x11, 0x00, 0xa0] = true ∧ decode ⟨⟨[0x11, 0x00, 0xa0]⟩⟩ 0 = .ok (.sipush 160, 3) := by decide +kernel
theorem eb_435 : opK [0x12, 0x0f] = true ∧ decode ⟨⟨[0x12, 0x0f]⟩⟩ 0 = .ok (.ldc 15, 2) := by decide +kernel
theorem eb_436 : opK [0xb5, 0x00, 0x11] = true ∧ decode ⟨⟨[0xb5, 0x00, 0x11]⟩⟩ 0 = .ok (.putfield 17, 3) := by decide +kernel
theorem eb_437 : opK [0xb5, 0x00, 0x17] = true ∧ decode ⟨⟨[0xb5, 0x00, 0x17]⟩⟩ 0 = .ok (.putfield 23, 3) := by decide +kernel
theorem eb_438 : opK [0x11, 0x00, 0xa4] = true ∧ decode ⟨⟨[0x11, 0x00, 0xa4]⟩⟩ 0 = .ok (.sipush 164, 3) := by decide +kernel
theorem eb_439 : opK [0xb8, 0x00, 0x1f] = true ∧ decode ⟨⟨[0xb8, 0x00, 0x1f]⟩⟩ 0 = .ok (.invokestatic 31, 3) := by decide +kernel
theorem eb_440 : opK [0xb4, 0x00, 0x23] = true ∧ decode ⟨⟨[0xb4, 0x00, 0x23]⟩⟩ 0 = .ok (.getfield 35, 3) := by decide +kernel
theorem eb_441 : opK [0x10, 0x18] = true ∧ decode ⟨⟨[0x10, 0x18]⟩⟩ 0 = .ok (.bipush 24, 2) := by decide +kernel
theorem eb_442 : opK [0x9b, 0x00, 0x16] = true ∧ decode ⟨⟨[0x9b, 0x00, 0x16]⟩⟩ 0 = .ok (.ifCond .lt 22, 3) := by decide +kernel
theorem eb_443 : opK [0x11, 0x00, 0xff] = true ∧ decode ⟨⟨[0x11, 0x00, 0xff]⟩⟩ 0 = .ok (.sipush 255, 3) := by decide +kernel
theorem eb_444 : opK [0x99, 0x00, 0x06] = true ∧ decode ⟨⟨[0x99, 0x00, 0x06]⟩⟩ 0 = .ok (.ifCond .eq 6, 3) := by decide +kernel
theorem eb_445 : opK [0x84, 0x02, 0xf8] = true ∧ decode ⟨⟨[0x84, 0x02, 0xf8]⟩⟩ 0 = .ok (.iinc 2 (-8), 3) := by decide +kernel
theorem eb_446 : opK [0xa7, 0xff, 0xec] = true ∧ decode ⟨⟨[0xa7, 0xff, 0xec]⟩⟩ 0 = .ok (.goto (-20), 3) := by decide +kernel
theorem eb_447 : opK [0x9b, 0x00, 0x33] = true ∧ decode ⟨⟨[0x9b, 0x00, 0x33]⟩⟩ 0 = .ok (.ifCond .lt 51, 3) := by decide +kernel
theorem eb_448 : opK [0x99, 0x00, 0x21] = true ∧ decode ⟨⟨[0x99, 0x00, 0x21]⟩⟩ 0 = .ok (.ifCond .eq 33, 3) := by decide +kernel
theorem eb_449 : opK [0xb5, 0x00, 0x23] = true ∧ decode ⟨⟨[0xb5, 0x00, 0x23]⟩⟩ 0 = .ok (.putfield 35, 3) := by decide +kernel
theorem eb_450 : opK [0xa7, 0xff, 0xcf] = true ∧ decode ⟨⟨[0xa7, 0xff, 0xcf]⟩⟩ 0 = .ok (.goto (-49), 3) := by decide +kernel
theorem eb_451 : opK [0xb8, 0x00, 0x2b] = true ∧ decode ⟨⟨[0xb8, 0x00, 0x2b]⟩⟩ 0 = .ok (.invokestatic 43, 3) := by decide +kernel
theorem eb_452 : opK [0xb5, 0x00, 0x2f] = true ∧ decode ⟨⟨[0xb5, 0x00, 0x2f]⟩⟩ 0 = .ok (.putfield 47, 3) := by decide +kernel
theorem eb_453 : opK [0xb5, 0x00, 0x35] = true ∧ decode ⟨⟨[0xb5, 0x00, 0x35]⟩⟩ 0 = .ok (.putfield 53, 3) := by decide +kernel
theorem eb_454 : opK [0xb5, 0x00, 0x38] = true ∧ decode ⟨⟨[0xb5, 0x00, 0x38]⟩⟩ 0 = .ok (.putfield 56, 3) := by decide +kernel
theorem eb_455 : opK [0xb4, 0x00, 0x2f] = true ∧ decode ⟨⟨[0xb4, 0x00, 0x2f]⟩⟩ 0 = .ok (.getfield 47, 3) := by decide +kernel
theorem eb_456 : opK [0x10, 0x20] = true ∧ decode ⟨⟨[0x10, 0x20]⟩⟩ 0 = .ok (.bipush 32, 2) := by decide +kernel
theorem eb_457 : opK [0xa2, 0x00, 0x0f] = true ∧ decode ⟨⟨[0xa2, 0x00, 0x0f]⟩⟩ 0 = .ok (.if_icmp .ge 15, 3) := by decide +kernel
theorem eb_458 : opK [0x9f, 0x00, 0x08] = true ∧ decode ⟨⟨[0x9f, 0x00, 0x08]⟩⟩ 0 = .ok (.if_icmp .eq 8, 3) := by decide +kernel
theorem eb_459 : opK [0xa1, 0x00, 0x0d] = true ∧ decode ⟨⟨[0xa1, 0x00, 0x0d]⟩⟩ 0 = .ok (.if_icmp .lt 13, 3) := by decide +kernel
theorem eb_460 : opK [0x10, 0x39] = true ∧ decode ⟨⟨[0x10, 0x39]⟩⟩ 0 = .ok (.bipush 57, 2) := by decide +kernel
theorem eb_461 : opK [0x99, 0x00, 0x4f] = true ∧ decode ⟨⟨[0x99, 0x00, 0x4f]⟩⟩ 0 = .ok (.ifCond .eq 79, 3) := by decide +kernel
theorem eb_462 : opK [0x99, 0x00, 0x35] = true ∧ decode ⟨⟨[0x99, 0x00, 0x35]⟩⟩ 0 = .ok (.ifCond .eq 53, 3) := by decide +kernel
theorem eb_463 : opK [0xa7, 0xff, 0xb2] = true ∧ decode ⟨⟨[0xa7, 0xff, 0xb2]⟩⟩ 0 = .ok (.goto (-78), 3) := by decide +kernel
theorem eb_464 : opK [0x9a, 0x00, 0x0d] = true ∧ decode ⟨⟨[0x9a, 0x00, 0x0d]⟩⟩ 0 = .ok (.ifCond .ne 13, 3) := by decide +kernel
theorem eb_465 : opK [0x9a, 0x00, 0x0f] = true ∧ decode ⟨⟨[0x9a, 0x00, 0x0f]⟩⟩ 0 = .ok (.ifCond .ne 15, 3) := by decide +kernel
theorem eb_466 : opK [0x57] = true ∧ decode ⟨⟨[0x57]⟩⟩ 0 = .ok (.pop, 1) := by decide +kernel
theorem eb_467 : opK [0x99, 0x00, 0x22] = true ∧ decode ⟨⟨[0x99, 0x00, 0x22]⟩⟩ 0 = .ok (.ifCond .eq 34, 3) := by decide +kernel
theorem eb_468 : opK [0x10, 0x3b] = true ∧ decode ⟨⟨[0x10, 0x3b]⟩⟩ 0 = .ok (.bipush 59, 2) := by decide +kernel
theorem eb_469 : opK [0xb6, 0x00, 0x55] = true ∧ decode ⟨⟨[0xb6, 0x00, 0x55]⟩⟩ 0 = .ok (.invokevirtual 85, 3) := by decide +kernel
theorem eb_470 : opK [0xb6, 0x00, 0x59] = true ∧ decode ⟨⟨[0xb6, 0x00, 0x59]⟩⟩ 0 = .ok (.invokevirtual 89, 3) := by decide +kernel
theorem eb_471 : opK [0x11, 0x00, 0xf0] = true ∧ decode ⟨⟨[0x11, 0x00, 0xf0]⟩⟩ 0 = .ok (.sipush 240, 3) := by decide +kernel
theorem eb_472 : opK [0xb6, 0x00, 0x5c] = true ∧ decode ⟨⟨[0xb6, 0x00, 0x5c]⟩⟩ 0 = .ok (.invokevirtual 92, 3) := by decide +kernel
theorem eb_473 : opK [0xb6, 0x00, 0x5f] = true ∧ decode ⟨⟨[0xb6, 0x00, 0x5f]⟩⟩ 0 = .ok (.invokevirtual 95, 3) := by decide +kernel
theorem eb_474 : opK [0x9f, 0x00, 0x18] = true ∧ decode ⟨⟨[0x9f, 0x00, 0x18]⟩⟩ 0 = .ok (.if_icmp .eq 24, 3) := by decide +kernel
theorem eb_475 : opK [0xb4, 0x00, 0x35] = true ∧ decode ⟨⟨[0xb4, 0x00, 0x35]⟩⟩ 0 = .ok (.getfield 53, 3) := by decide +kernel
theorem eb_476 : opK [0x10, 0x29] = true ∧ decode ⟨⟨[0x10, 0x29]⟩⟩ 0 = .ok (.bipush 41, 2) := by decide +kernel
theorem eb_477 : opK [0xb6, 0x00, 0x62] = true ∧ decode ⟨⟨[0xb6, 0x00, 0x62]⟩⟩ 0 = .ok (.invokevirtual 98, 3) := by decide +kernel
theorem eb_478 : opK [0x10, 0x14] = true ∧ decode ⟨⟨[0x10, 0x14]⟩⟩ 0 = .ok (.bipush 20, 2) := by decide +kernel
theorem eb_479 : opK [0xa0, 0x00, 0x05] = true ∧ decode ⟨⟨[0xa0, 0x00, 0x05]⟩⟩ 0 = .ok (.if_icmp .ne 5, 3) := by decide +kernel
theorem eb_480 : opK [0xb4, 0x00, 0x38] = true ∧ decode ⟨⟨[0xb4, 0x00, 0x38]⟩⟩ 0 = .ok (.getfield 56, 3) := by decide +kernel
theorem eb_481 : opK [0x9a, 0x00, 0x24] = true ∧ decode ⟨⟨[0x9a, 0x00, 0x24]⟩⟩ 0 = .ok (.ifCond .ne 36, 3) := by decide +kernel
theorem eb_482 : opK [0xa2, 0x00, 0x14] = true ∧ decode ⟨⟨[0xa2, 0x00, 0x14]⟩⟩ 0 = .ok (.if_icmp .ge 20, 3) := by decide +kernel
theorem eb_483 : opK [0xb4, 0x00, 0x17] = true ∧ decode ⟨⟨[0xb4, 0x00, 0x17]⟩⟩ 0 = .ok (.getfield 23, 3) := by decide +kernel
theorem eb_484 : opK [0xb6, 0x00, 0x65] = true ∧ decode ⟨⟨[0xb6, 0x00, 0x65]⟩⟩ 0 = .ok (.invokevirtual 101, 3) := by decide +kernel
theorem eb_485 : opK [0xa7, 0xff, 0xeb] = true ∧ decode ⟨⟨[0xa7, 0xff, 0xeb]⟩⟩ 0 = .ok (.goto (-21), 3) := by decide +kernel
theorem eb_486 : opK [0xb8, 0x00, 0x68] = true ∧ decode ⟨⟨[0xb8, 0x00, 0x68]⟩⟩ 0 = .ok (.invokestatic 104, 3) := by decide +kernel
theorem eb_487 : opK [0xa2, 0x00, 0x1a] = true ∧ decode ⟨⟨[0xa2, 0x00, 0x1a]⟩⟩ 0 = .ok (.if_icmp .ge 26, 3) := by decide +kernel
theorem eb_488 : opK [0xa7, 0x00, 0x08] = true ∧ decode ⟨⟨[0xa7, 0x00, 0x08]⟩⟩ 0 = .ok (.goto 8, 3) := by decide +kernel
theorem eb_489 : opK [0x99, 0x00, 0x08] = true ∧ decode ⟨⟨[0x99, 0x00, 0x08]⟩⟩ 0 = .ok (.ifCond .eq 8, 3) := by decide +kernel
theorem eb_490 : opK [0x12, 0x6c] = true ∧ decode ⟨⟨[0x12, 0x6c]⟩⟩ 0 = .ok (.ldc 108, 2) := by decide +kernel
theorem eb_491 : opK [0x12, 0x6e] = true ∧ decode ⟨⟨[0x12, 0x6e]⟩⟩ 0 = .ok (.ldc 110, 2) := by decide +kernel
theorem eb_492 : opK [0xb6, 0x00, 0x70] = true ∧ decode ⟨⟨[0xb6, 0x00, 0x70]⟩⟩ 0 = .ok (.invokevirtual 112, 3) := by decide +kernel
theorem eb_493 : opK [0xa2, 0x00, 0x30] = true ∧ decode ⟨⟨[0xa2, 0x00, 0x30]⟩⟩ 0 = .ok (.if_icmp .ge 48, 3) := by decide +kernel
theorem eb_494 : opK [0x99, 0x00, 0x2c] = true ∧ decode ⟨⟨[0x99, 0x00, 0x2c]⟩⟩ 0 = .ok (.ifCond .eq 44, 3) := by decide +kernel
theorem eb_495 : opK [0xa0, 0x00, 0x23] = true ∧ decode ⟨⟨[0xa0, 0x00, 0x23]⟩⟩ 0 = .ok (.if_icmp .ne 35, 3) := by decide +kernel
theorem eb_496 : opK [0xb6, 0x00, 0x76] = true ∧ decode ⟨⟨[0xb6, 0x00, 0x76]⟩⟩ 0 = .ok (.invokevirtual 118, 3) := by decide +kernel
theorem eb_497 : opK [0x10, 0x3f] = true ∧ decode ⟨⟨[0x10, 0x3f]⟩⟩ 0 = .ok (.bipush 63, 2) := by decide +kernel
theorem eb_498 : opK [0xb6, 0x00, 0x79] = true ∧ decode ⟨⟨[0xb6, 0x00, 0x79]⟩⟩ 0 = .ok (.invokevirtual 121, 3) := by decide +kernel
theorem eb_499 : opK [0x12, 0x7c] = true ∧ decode ⟨⟨[0x12, 0x7c]⟩⟩ 0 = .ok (.ldc 124, 2) := by decide +kernel
theorem eb_500 : opK [0xb6, 0x00, 0x7e] = true ∧ decode ⟨⟨[0xb6, 0x00, 0x7e]⟩⟩ 0 = .ok (.invokevirtual 126, 3) := by decide +kernel
theorem eb_501 : opK [0x9c, 0x00, 0x08] = true ∧ decode ⟨⟨[0x9c, 0x00, 0x08]⟩⟩ 0 = .ok (.ifCond .ge 8, 3) := by decide +kernel
theorem eb_502 : opK [0xb6, 0x00, 0x83] = true ∧ decode ⟨⟨[0xb6, 0x00, 0x83]⟩⟩ 0 = .ok (.invokevirtual 131, 3) := by decide +kernel
theorem eb_503 : opK [0x10, 0x21] = true ∧ decode ⟨⟨[0x10, 0x21]⟩⟩ 0 = .ok (.bipush 33, 2) := by decide +kernel
theorem eb_504 : opK [0xa0, 0x00, 0x18] = true ∧ decode ⟨⟨[0xa0, 0x00, 0x18]⟩⟩ 0 = .ok (.if_icmp .ne 24, 3) := by decide +kernel
theorem eb_505 : opK [0xb6, 0x00, 0x86] = true ∧ decode ⟨⟨[0xb6, 0x00, 0x86]⟩⟩ 0 = .ok (.invokevirtual 134, 3) := by decide +kernel
theorem eb_506 : opK [0xb6, 0x00, 0x89] = true ∧ decode ⟨⟨[0xb6, 0x00, 0x89]⟩⟩ 0 = .ok (.invokevirtual 137, 3) := by decide +kernel
theorem eb_507 : opK [0xb8, 0x00, 0x8c] = true ∧ decode ⟨⟨[0xb8, 0x00, 0x8c]⟩⟩ 0 = .ok (.invokestatic 140, 3) := by decide +kernel
theorem eb_508 : opK [0xb6, 0x00, 0x92] = true ∧ decode ⟨⟨[0xb6, 0x00, 0x92]⟩⟩ 0 = .ok (.invokevirtual 146, 3) := by decide +kernel
theorem eb_509 : opK [0xb8, 0x00, 0x95] = true ∧ decode ⟨⟨[0xb8, 0x00, 0x95]⟩⟩ 0 = .ok (.invokestatic 149, 3) := by decide +kernel
theorem eb_510 : opK [0xb6, 0x00, 0x97] = true ∧ decode ⟨⟨[0xb6, 0x00, 0x97]⟩⟩ 0 = .ok (.invokevirtual 151, 3) := by decide +kernel
theorem eb_511 : opK [0xb6, 0x00, 0x9a] = true ∧ decode ⟨⟨[0xb6, 0x00, 0x9a]⟩⟩ 0 = .ok (.invokevirtual 154, 3) := by decide +kernel
theorem eb_512 : opK [0x99, 0x00, 0x3a] = true ∧ decode ⟨⟨[0x99, 0x00, 0x3a]⟩⟩ 0 = .ok (.ifCond .eq 58, 3) := by decide +kernel
theorem eb_513 : opK [0x10, 0x7c] = true ∧ decode ⟨⟨[0x10, 0x7c]⟩⟩ 0 = .ok (.bipush 124, 2) := by decide +kernel
theorem eb_514 : opK [0xa0, 0x00, 0x31] = true ∧ decode ⟨⟨[0xa0, 0x00, 0x31]⟩⟩ 0 = .ok (.if_icmp .ne 49, 3) := by decide +kernel
theorem eb_515 : opK [0xa7, 0xff, 0xc1] = true ∧ decode ⟨⟨[0xa7, 0xff, 0xc1]⟩⟩ 0 = .ok (.goto (-63), 3) := by decide +kernel
theorem eb_516 : opK [0x99, 0x00, 0x2a] = true ∧ decode ⟨⟨[0x99, 0x00, 0x2a]⟩⟩ 0 = .ok (.ifCond .eq 42, 3) := by decide +kernel
theorem eb_517 : opK [0x10, 0x26] = true ∧ decode ⟨⟨[0x10, 0x26]⟩⟩ 0 = .ok (.bipush 38, 2) := by decide +kernel
theorem eb_518 : opK [0xa0, 0x00, 0x21] = true ∧ decode ⟨⟨[0xa0, 0x00, 0x21]⟩⟩ 0 = .ok (.if_icmp .ne 33, 3) := by decide +kernel
theorem eb_519 : opK [0x9f, 0x00, 0x1f] = true ∧ decode ⟨⟨[0x9f, 0x00, 0x1f]⟩⟩ 0 = .ok (.if_icmp .eq 31, 3) := by decide +kernel
theorem eb_520 : opK [0x9f, 0x00, 0x19] = true ∧ decode ⟨⟨[0x9f, 0x00, 0x19]⟩⟩ 0 = .ok (.if_icmp .eq 25, 3) := by decide +kernel
theorem eb_521 : opK [0xa0, 0x00, 0x1c] = true ∧ decode ⟨⟨[0xa0, 0x00, 0x1c]⟩⟩ 0 = .ok (.if_icmp .ne 28, 3) := by decide +kernel
theorem eb_522 : opK [0x10, 0x3d] = true ∧ decode ⟨⟨[0x10, 0x3d]⟩⟩ 0 = .ok (.bipush 61, 2) := by decide +kernel
theorem eb_523 : opK [0x9f, 0x00, 0x0f] = true ∧ decode ⟨⟨[0x9f, 0x00, 0x0f]⟩⟩ 0 = .ok (.if_icmp .eq 15, 3) := by decide +kernel
theorem eb_524 : opK [0x10, 0x3e] = true ∧ decode ⟨⟨[0x10, 0x3e]⟩⟩ 0 = .ok (.bipush 62, 2) := by decide +kernel
theorem eb_525 : opK [0x9a, 0x00, 0x08] = true ∧ decode ⟨⟨[0x9a, 0x00, 0x08]⟩⟩ 0 = .ok (.ifCond .ne 8, 3) := by decide +kernel
theorem eb_526 : opK [0xa0, 0x00, 0x08] = true ∧ decode ⟨⟨[0xa0, 0x00, 0x08]⟩⟩ 0 = .ok (.if_icmp .ne 8, 3) := by decide +kernel
theorem eb_527 : opK [0xa7, 0x00, 0x10] = true ∧ decode ⟨⟨[0xa7, 0x00, 0x10]⟩⟩ 0 = .ok (.goto 16, 3) := by decide +kernel
theorem eb_528 : opK [0xb6, 0x00, 0x9d] = true ∧ decode ⟨⟨[0xb6, 0x00, 0x9d]⟩⟩ 0 = .ok (.invokevirtual 157, 3) := by decide +kernel
theorem eb_529 : opK [0x99, 0x00, 0x44] = true ∧ decode ⟨⟨[0x99, 0x00, 0x44]⟩⟩ 0 = .ok (.ifCond .eq 68, 3) := by decide +kernel
theorem eb_530 : opK [0x10, 0x2b] = true ∧ decode ⟨⟨[0x10, 0x2b]⟩⟩ 0 = .ok (.bipush 43, 2) := by decide +kernel
theorem eb_531 : opK [0x9f, 0x00, 0x0c] = true ∧ decode ⟨⟨[0x9f, 0x00, 0x0c]⟩⟩ 0 = .ok (.if_icmp .eq 12, 3) := by decide +kernel
theorem eb_532 : opK [0x10, 0x2d] = true ∧ decode ⟨⟨[0x10, 0x2d]⟩⟩ 0 = .ok (.bipush 45, 2) := by decide +kernel
theorem eb_533 : opK [0xa0, 0x00, 0x32] = true ∧ decode ⟨⟨[0xa0, 0x00, 0x32]⟩⟩ 0 = .ok (.if_icmp .ne 50, 3) := by decide +kernel
theorem eb_534 : opK [0xa7, 0xff, 0xb7] = true ∧ decode ⟨⟨[0xa7, 0xff, 0xb7]⟩⟩ 0 = .ok (.goto (-73), 3) := by decide +kernel
theorem eb_535 : opK [0xb6, 0x00, 0xa0] = true ∧ decode ⟨⟨[0xb6, 0x00, 0xa0]⟩⟩ 0 = .ok (.invokevirtual 160, 3) := by decide +kernel
theorem eb_536 : opK [0x10, 0x2a] = true ∧ decode ⟨⟨[0x10, 0x2a]⟩⟩ 0 = .ok (.bipush 42, 2) := by decide +kernel
theorem eb_537 : opK [0x99, 0x00, 0x1e] = true ∧ decode ⟨⟨[0x99, 0x00, 0x1e]⟩⟩ 0 = .ok (.ifCond .eq 30, 3) := by decide +kernel
theorem eb_538 : opK [0x11, 0x27, 0x0f] = true ∧ decode ⟨⟨[0x11, 0x27, 0x0f]⟩⟩ 0 = .ok (.sipush 9999, 3) := by decide +kernel
theorem eb_539 : opK [0x9f, 0x00, 0x07] = true ∧ decode ⟨⟨[0x9f, 0x00, 0x07]⟩⟩ 0 = .ok (.if_icmp .eq 7, 3) := by decide +kernel
theorem eb_540 : opK [0x10, 0x5b] = true ∧ decode ⟨⟨[0x10, 0x5b]⟩⟩ 0 = .ok (.bipush 91, 2) := by decide +kernel
theorem eb_541 : opK [0x10, 0x5d] = true ∧ decode ⟨⟨[0x10, 0x5d]⟩⟩ 0 = .ok (.bipush 93, 2) := by decide +kernel
theorem eb_542 : opK [0xa7, 0x00, 0x0c] = true ∧ decode ⟨⟨[0xa7, 0x00, 0x0c]⟩⟩ 0 = .ok (.goto 12, 3) := by decide +kernel
theorem eb_543 : opK [0xb4, 0x00, 0x11] = true ∧ decode ⟨⟨[0xb4, 0x00, 0x11]⟩⟩ 0 = .ok (.getfield 17, 3) := by decide +kernel
theorem eb_544 : opK [0xb4, 0x00, 0x09] = true ∧ decode ⟨⟨[0xb4, 0x00, 0x09]⟩⟩ 0 = .ok (.getfield 9, 3) := by decide +kernel
theorem eb_545 : opK [0xb8, 0x00, 0x10] = true ∧ decode ⟨⟨[0xb8, 0x00, 0x10]⟩⟩ 0 = .ok (.invokestatic 16, 3) := by decide +kernel
theorem eb_546 : opK [0xb4, 0x00, 0x14] = true ∧ decode ⟨⟨[0xb4, 0x00, 0x14]⟩⟩ 0 = .ok (.getfield 20, 3) := by decide +kernel
theorem eb_547 : opK [0xa2, 0x00, 0x75] = true ∧ decode ⟨⟨[0xa2, 0x00, 0x75]⟩⟩ 0 = .ok (.if_icmp .ge 117, 3) := by decide +kernel
theorem eb_548 : opK [0xb8, 0x00, 0x18] = true ∧ decode ⟨⟨[0xb8, 0x00, 0x18]⟩⟩ 0 = .ok (.invokestatic 24, 3) := by decide +kernel
theorem eb_549 : opK [0xa7, 0xff, 0x9a] = true ∧ decode ⟨⟨[0xa7, 0xff, 0x9a]⟩⟩ 0 = .ok (.goto (-102), 3) := by decide +kernel
theorem eb_550 : opK [0xa7, 0xff, 0x8a] = true ∧ decode ⟨⟨[0xa7, 0xff, 0x8a]⟩⟩ 0 = .ok (.goto (-118), 3) := by decide +kernel
theorem eb_551 : opK [0xb5, 0x00, 0x14] = true ∧ decode ⟨⟨[0xb5, 0x00, 0x14]⟩⟩ 0 = .ok (.putfield 20, 3) := by decide +kernel
theorem eb_552 : opK [0x11, 0x0c, 0xd0] = true ∧ decode ⟨⟨[0x11, 0x0c, 0xd0]⟩⟩ 0 = .ok (.sipush 3280, 3) := by decide +kernel
theorem eb_553 : opK [0xb8, 0x00, 0x27] = true ∧ decode ⟨⟨[0xb8, 0x00, 0x27]⟩⟩ 0 = .ok (.invokestatic 39, 3) := by decide +kernel
theorem eb_554 : opK [0xa2, 0x00, 0x37] = true ∧ decode ⟨⟨[0xa2, 0x00, 0x37]⟩⟩ 0 = .ok (.if_icmp .ge 55, 3) := by decide +kernel
theorem eb_555 : opK [0xa3, 0x00, 0x26] = true ∧ decode ⟨⟨[0xa3, 0x00, 0x26]⟩⟩ 0 = .ok (.if_icmp .gt 38, 3) := by decide +kernel
theorem eb_556 : opK [0xa3, 0x00, 0x1b] = true ∧ decode ⟨⟨[0xa3, 0x00, 0x1b]⟩⟩ 0 = .ok (.if_icmp .gt 27, 3) := by decide +kernel
theorem eb_557 : opK [0x9f, 0x00, 0x13] = true ∧ decode ⟨⟨[0x9f, 0x00, 0x13]⟩⟩ 0 = .ok (.if_icmp .eq 19, 3) := by decide +kernel
theorem eb_558 : opK [0xa7, 0xff, 0xc6] = true ∧ decode ⟨⟨[0xa7, 0xff, 0xc6]⟩⟩ 0 = .ok (.goto (-58), 3) := by decide +kernel
theorem eb_559 : opK [0xb8, 0x00, 0x2d] = true ∧ decode ⟨⟨[0xb8, 0x00, 0x2d]⟩⟩ 0 = .ok (.invokestatic 45, 3) := by decide +kernel
theorem eb_560 : opK [0xa2, 0x00, 0xe6] = true ∧ decode ⟨⟨[0xa2, 0x00, 0xe6]⟩⟩ 0 = .ok (.if_icmp .ge 230, 3) := by decide +kernel
theorem eb_561 : opK [0xa0, 0x00, 0x2e] = true ∧ decode ⟨⟨[0xa0, 0x00, 0x2e]⟩⟩ 0 = .ok (.if_icmp .ne 46, 3) := by decide +kernel
theorem eb_562 : opK [0xa7, 0x00, 0x0b] = true ∧ decode ⟨⟨[0xa7, 0x00, 0x0b]⟩⟩ 0 = .ok (.goto 11, 3) := by decide +kernel
theorem eb_563 : opK [0xb8, 0x00, 0x31] = true ∧ decode ⟨⟨[0xb8, 0x00, 0x31]⟩⟩ 0 = .ok (.invokestatic 49, 3) := by decide +kernel
theorem eb_564 : opK [0xa7, 0x00, 0x87] = true ∧ decode ⟨⟨[0xa7, 0x00, 0x87]⟩⟩ 0 = .ok (.goto 135, 3) := by decide +kernel
theorem eb_565 : opK [0xa1, 0x00, 0x2f] = true ∧ decode ⟨⟨[0xa1, 0x00, 0x2f]⟩⟩ 0 = .ok (.if_icmp .lt 47, 3) := by decide +kernel
theorem eb_566 : opK [0xa2, 0x00, 0x05] = true ∧ decode ⟨⟨[0xa2, 0x00, 0x05]⟩⟩ 0 = .ok (.if_icmp .ge 5, 3) := by decide +kernel
theorem eb_567 : opK [0xb8, 0x00, 0x35] = true ∧ decode ⟨⟨[0xb8, 0x00, 0x35]⟩⟩ 0 = .ok (.invokestatic 53, 3) := by decide +kernel
theorem eb_568 : opK [0xa7, 0x00, 0x55] = true ∧ decode ⟨⟨[0xa7, 0x00, 0x55]⟩⟩ 0 = .ok (.goto 85, 3) := by decide +kernel
theorem eb_569 : opK [0xa7, 0x00, 0x30] = true ∧ decode ⟨⟨[0xa7, 0x00, 0x30]⟩⟩ 0 = .ok (.goto 48, 3) := by decide +kernel
theorem eb_570 : opK [0xa7, 0xff, 0x15] = true ∧ decode ⟨⟨[0xa7, 0xff, 0x15]⟩⟩ 0 = .ok (.goto (-235), 3) := by decide +kernel
theorem eb_571 : opK [0xb8, 0x00, 0x3f] = true ∧ decode ⟨⟨[0xb8, 0x00, 0x3f]⟩⟩ 0 = .ok (.invokestatic 63, 3) := by decide +kernel
theorem eb_572 : opK [0xa4, 0x00, 0x07] = true ∧ decode ⟨⟨[0xa4, 0x00, 0x07]⟩⟩ 0 = .ok (.if_icmp .le 7, 3) := by decide +kernel
theorem eb_573 : opK [0x1e] = true ∧ decode ⟨⟨[0x1e]⟩⟩ 0 = .ok (.lload_n 0, 1) := by decide +kernel
theorem eb_574 : opK [0x9e, 0x00, 0x08] = true ∧ decode ⟨⟨[0x9e, 0x00, 0x08]⟩⟩ 0 = .ok (.ifCond .le 8, 3) := by decide +kernel
theorem eb_575 : opK [0x12, 0x45] = true ∧ decode ⟨⟨[0x12, 0x45]⟩⟩ 0 = .ok (.ldc 69, 2) := by decide +kernel
theorem eb_576 : opK [0x12, 0x48] = true ∧ decode ⟨⟨[0x12, 0x48]⟩⟩ 0 = .ok (.ldc 72, 2) := by decide +kernel
theorem eb_577 : opK [0xb7, 0x00, 0x01] = true ∧ decode ⟨⟨[0xb7, 0x00, 0x01]⟩⟩ 0 = .ok (.invokespecial 1, 3) := by decide +kernel
theorem eb_578 : opK [0xbb, 0x00, 0x07] = true ∧ decode ⟨⟨[0xbb, 0x00, 0x07]⟩⟩ 0 = .ok (.new 7, 3) := by decide +kernel
theorem eb_579 : opK [0xb7, 0x00, 0x09] = true ∧ decode ⟨⟨[0xb7, 0x00, 0x09]⟩⟩ 0 = .ok (.invokespecial 9, 3) := by decide +kernel
theorem eb_580 : opK [0xb5, 0x00, 0x0a] = true ∧ decode ⟨⟨[0xb5, 0x00, 0x0a]⟩⟩ 0 = .ok (.putfield 10, 3) := by decide +kernel
theorem eb_581 : opK [0xbb, 0x00, 0x10] = true ∧ decode ⟨⟨[0xbb, 0x00, 0x10]⟩⟩ 0 = .ok (.new 16, 3) := by decide +kernel
theorem eb_582 : opK [0xb7, 0x00, 0x12] = true ∧ decode ⟨⟨[0xb7, 0x00, 0x12]⟩⟩ 0 = .ok (.invokespecial 18, 3) := by decide +kernel
theorem eb_583 : opK [0xb5, 0x00, 0x13] = true ∧ decode ⟨⟨[0xb5, 0x00, 0x13]⟩⟩ 0 = .ok (.putfield 19, 3) := by decide +kernel
theorem eb_584 : opK [0xbb, 0x00, 0x17] = true ∧ decode ⟨⟨[0xbb, 0x00, 0x17]⟩⟩ 0 = .ok (.new 23, 3) := by decide +kernel
theorem eb_585 : opK [0xb7, 0x00, 0x19] = true ∧ decode ⟨⟨[0xb7, 0x00, 0x19]⟩⟩ 0 = .ok (.invokespecial 25, 3) := by decide +kernel
theorem eb_586 : opK [0xbb, 0x00, 0x1e] = true ∧ decode ⟨⟨[0xbb, 0x00, 0x1e]⟩⟩ 0 = .ok (.new 30, 3) := by decide +kernel
theorem eb_587 : opK [0xb7, 0x00, 0x20] = true ∧ decode ⟨⟨[0xb7, 0x00, 0x20]⟩⟩ 0 = .ok (.invokespecial 32, 3) := by decide +kernel
theorem eb_588 : opK [0xbb, 0x00, 0x2e] = true ∧ decode ⟨⟨[0xbb, 0x00, 0x2e]⟩⟩ 0 = .ok (.new 46, 3) := by decide +kernel
theorem eb_589 : opK [0xb7, 0x00, 0x30] = true ∧ decode ⟨⟨[0xb7, 0x00, 0x30]⟩⟩ 0 = .ok (.invokespecial 48, 3) := by decide +kernel
theorem eb_590 : opK [0xbb, 0x00, 0x35] = true ∧ decode ⟨⟨[0xbb, 0x00, 0x35]⟩⟩ 0 = .ok (.new 53, 3) := by decide +kernel
theorem eb_591 : opK [0xb7, 0x00, 0x37] = true ∧ decode ⟨⟨[0xb7, 0x00, 0x37]⟩⟩ 0 = .ok (.invokespecial 55, 3) := by decide +kernel
theorem eb_592 : opK [0xbb, 0x00, 0x3c] = true ∧ decode ⟨⟨[0xbb, 0x00, 0x3c]⟩⟩ 0 = .ok (.new 60, 3) := by decide +kernel
theorem eb_593 : opK [0xb7, 0x00, 0x3e] = true ∧ decode ⟨⟨[0xb7, 0x00, 0x3e]⟩⟩ 0 = .ok (.invokespecial 62, 3) := by decide +kernel
theorem eb_594 : opK [0xbb, 0x00, 0x43] = true ∧ decode ⟨⟨[0xbb, 0x00, 0x43]⟩⟩ 0 = .ok (.new 67, 3) := by decide +kernel
theorem eb_595 : opK [0xb7, 0x00, 0x45] = true ∧ decode ⟨⟨[0xb7, 0x00, 0x45]⟩⟩ 0 = .ok (.invokespecial 69, 3) := by decide +kernel
theorem eb_596 : opK [0xbb, 0x00, 0x4a] = true ∧ decode ⟨⟨[0xbb, 0x00, 0x4a]⟩⟩ 0 = .ok (.new 74, 3) := by decide +kernel
theorem eb_597 : opK [0xb7, 0x00, 0x4c] = true ∧ decode ⟨⟨[0xb7, 0x00, 0x4c]⟩⟩ 0 = .ok (.invokespecial 76, 3) := by decide +kernel
theorem eb_598 : opK [0xb5, 0x00, 0x4d] = true ∧ decode ⟨⟨[0xb5, 0x00, 0x4d]⟩⟩ 0 = .ok (.putfield 77, 3) := by decide +kernel
theorem eb_599 : opK [0xbb, 0x00, 0x51] = true ∧ decode ⟨⟨[0xbb, 0x00, 0x51]⟩⟩ 0 = .ok (.new 81, 3) := by decide +kernel
theorem eb_600 : opK [0xb7, 0x00, 0x53] = true ∧ decode ⟨⟨[0xb7, 0x00, 0x53]⟩⟩ 0 = .ok (.invokespecial 83, 3) := by decide +kernel
theorem eb_601 : opK [0xb5, 0x00, 0x54] = true ∧ decode ⟨⟨[0xb5, 0x00, 0x54]⟩⟩ 0 = .ok (.putfield 84, 3) := by decide +kernel
theorem eb_602 : opK [0xb5, 0x00, 0x58] = true ∧ decode ⟨⟨[0xb5, 0x00, 0x58]⟩⟩ 0 = .ok (.putfield 88, 3) := by decide +kernel
theorem eb_603 : opK [0xa1, 0x00, 0x0c] = true ∧ decode ⟨⟨[0xa1, 0x00, 0x0c]⟩⟩ 0 = .ok (.if_icmp .lt 12, 3) := by decide +kernel
theorem eb_604 : opK [0x9b, 0x00, 0x0d] = true ∧ decode ⟨⟨[0x9b, 0x00, 0x0d]⟩⟩ 0 = .ok (.ifCond .lt 13, 3) := by decide +kernel
theorem eb_605 : opK [0xb4, 0x00, 0x5c] = true ∧ decode ⟨⟨[0xb4, 0x00, 0x5c]⟩⟩ 0 = .ok (.getfield 92, 3) := by decide +kernel
theorem eb_606 : opK [0xb8, 0x00, 0x60] = true ∧ decode ⟨⟨[0xb8, 0x00, 0x60]⟩⟩ 0 = .ok (.invokestatic 96, 3) := by decide +kernel
theorem eb_607 : opK [0xc6, 0x00, 0x07] = true ∧ decode ⟨⟨[0xc6, 0x00, 0x07]⟩⟩ 0 = .ok (.ifnull 7, 3) := by decide +kernel
theorem eb_608 : opK [0xb8, 0x00, 0x6b] = true ∧ decode ⟨⟨[0xb8, 0x00, 0x6b]⟩⟩ 0 = .ok (.invokestatic 107, 3) := by decide +kernel
theorem eb_609 : opK [0xb4, 0x00, 0x0a] = true ∧ decode ⟨⟨[0xb4, 0x00, 0x0a]⟩⟩ 0 = .ok (.getfield 10, 3) := by decide +kernel
theorem eb_610 : opK [0xbb, 0x00, 0x28] = true ∧ decode ⟨⟨[0xbb, 0x00, 0x28]⟩⟩ 0 = .ok (.new 40, 3) := by decide +kernel
theorem eb_611 : opK [0xb7, 0x00, 0x77] = true ∧ decode ⟨⟨[0xb7, 0x00, 0x77]⟩⟩ 0 = .ok (.invokespecial 119, 3) := by decide +kernel
theorem eb_612 : opK [0xb6, 0x00, 0x7a] = true ∧ decode ⟨⟨[0xb6, 0x00, 0x7a]⟩⟩ 0 = .ok (.invokevirtual 122, 3) := by decide +kernel
theorem eb_613 : opK [0xb4, 0x00, 0x7e] = true ∧ decode ⟨⟨[0xb4, 0x00, 0x7e]⟩⟩ 0 = .ok (.getfield 126, 3) := by decide +kernel
theorem eb_614 : opK [0xb4, 0x00, 0x13] = true ∧ decode ⟨⟨[0xb4, 0x00, 0x13]⟩⟩ 0 = .ok (.getfield 19, 3) := by decide +kernel
theorem eb_615 : opK [0xb6, 0x00, 0x81] = true ∧ decode ⟨⟨[0xb6, 0x00, 0x81]⟩⟩ 0 = .ok (.invokevirtual 129, 3) := by decide +kernel
theorem eb_616 : opK [0xb6, 0x00, 0x85] = true ∧ decode ⟨⟨[0xb6, 0x00, 0x85]⟩⟩ 0 = .ok (.invokevirtual 133, 3) := by decide +kernel
theorem eb_617 : opK [0xb6, 0x00, 0x88] = true ∧ decode ⟨⟨[0xb6, 0x00, 0x88]⟩⟩ 0 = .ok (.invokevirtual 136, 3) := by decide +kernel
theorem eb_618 : opK [0x10, 0xfe] = true ∧ decode ⟨⟨[0x10, 0xfe]⟩⟩ 0 = .ok (.bipush (-2), 2) := by decide +kernel
theorem eb_619 : opK [0xb6, 0x00, 0x90] = true ∧ decode ⟨⟨[0xb6, 0x00, 0x90]⟩⟩ 0 = .ok (.invokevirtual 144, 3) := by decide +kernel
theorem eb_620 : opK [0xb6, 0x00, 0x94] = true ∧ decode ⟨⟨[0xb6, 0x00, 0x94]⟩⟩ 0 = .ok (.invokevirtual 148, 3) := by decide +kernel
theorem eb_621 : opK [0xb6, 0x00, 0x9b] = true ∧ decode ⟨⟨[0xb6, 0x00, 0x9b]⟩⟩ 0 = .ok (.invokevirtual 155, 3) := by decide +kernel
theorem eb_622 : opK [0xc6, 0x00, 0x27] = true ∧ decode ⟨⟨[0xc6, 0x00, 0x27]⟩⟩ 0 = .ok (.ifnull 39, 3) := by decide +kernel
theorem eb_623 : opK [0x99, 0x00, 0x1c] = true ∧ decode ⟨⟨[0x99, 0x00, 0x1c]⟩⟩ 0 = .ok (.ifCond .eq 28, 3) := by decide +kernel
theorem eb_624 : opK [0xb4, 0x00, 0x9e] = true ∧ decode ⟨⟨[0xb4, 0x00, 0x9e]⟩⟩ 0 = .ok (.getfield 158, 3) := by decide +kernel
theorem eb_625 : opK [0xb6, 0x00, 0xa1] = true ∧ decode ⟨⟨[0xb6, 0x00, 0xa1]⟩⟩ 0 = .ok (.invokevirtual 161, 3) := by decide +kernel
theorem eb_626 : opK [0xb5, 0x00, 0x9e] = true ∧ decode ⟨⟨[0xb5, 0x00, 0x9e]⟩⟩ 0 = .ok (.putfield 158, 3) := by decide +kernel
theorem eb_627 : opK [0xb5, 0x00, 0xa4] = true ∧ decode ⟨⟨[0xb5, 0x00, 0xa4]⟩⟩ 0 = .ok (.putfield 164, 3) := by decide +kernel
theorem eb_628 : opK [0xb5, 0x00, 0xa7] = true ∧ decode ⟨⟨[0xb5, 0x00, 0xa7]⟩⟩ 0 = .ok (.putfield 167, 3) := by decide +kernel
theorem eb_629 : opK [0xb5, 0x00, 0xaa] = true ∧ decode ⟨⟨[0xb5, 0x00, 0xaa]⟩⟩ 0 = .ok (.putfield 170, 3) := by decide +kernel
theorem eb_630 : opK [0xb4, 0x00, 0xad] = true ∧ decode ⟨⟨[0xb4, 0x00, 0xad]⟩⟩ 0 = .ok (.getfield 173, 3) := by decide +kernel
theorem eb_631 : opK [0xb5, 0x00, 0xb0] = true ∧ decode ⟨⟨[0xb5, 0x00, 0xb0]⟩⟩ 0 = .ok (.putfield 176, 3) := by decide +kernel
theorem eb_632 : opK [0xb6, 0x00, 0xb3] = true ∧ decode ⟨⟨[0xb6, 0x00, 0xb3]⟩⟩ 0 = .ok (.invokevirtual 179, 3) := by decide +kernel
theorem eb_633 : opK [0xb5, 0x00, 0xb7] = true ∧ decode ⟨⟨[0xb5, 0x00, 0xb7]⟩⟩ 0 = .ok (.putfield 183, 3) := by decide +kernel
theorem eb_634 : opK [0xb6, 0x00, 0xba] = true ∧ decode ⟨⟨[0xb6, 0x00, 0xba]⟩⟩ 0 = .ok (.invokevirtual 186, 3) := by decide +kernel
theorem eb_635 : opK [0xb4, 0x00, 0xa4] = true ∧ decode ⟨⟨[0xb4, 0x00, 0xa4]⟩⟩ 0 = .ok (.getfield 164, 3) := by decide +kernel
theorem eb_636 : opK [0xb6, 0x00, 0xbd] = true ∧ decode ⟨⟨[0xb6, 0x00, 0xbd]⟩⟩ 0 = .ok (.invokevirtual 189, 3) := by decide +kernel
theorem eb_637 : opK [0xb8, 0x00, 0xc0] = true ∧ decode ⟨⟨[0xb8, 0x00, 0xc0]⟩⟩ 0 = .ok (.invokestatic 192, 3) := by decide +kernel
theorem eb_638 : opK [0xb8, 0x00, 0xc3] = true ∧ decode ⟨⟨[0xb8, 0x00, 0xc3]⟩⟩ 0 = .ok (.invokestatic 195, 3) := by decide +kernel
theorem eb_639 : opK [0xb8, 0x00, 0xc6] = true ∧ decode ⟨⟨[0xb8, 0x00, 0xc6]⟩⟩ 0 = .ok (.invokestatic 198, 3) := by decide +kernel
theorem eb_640 : opK [0xb6, 0x00, 0xc9] = true ∧ decode ⟨⟨[0xb6, 0x00, 0xc9]⟩⟩ 0 = .ok (.invokevirtual 201, 3) := by decide +kernel
theorem eb_641 : opK [0xa7, 0xff, 0xc3] = true ∧ decode ⟨⟨[0xa7, 0xff, 0xc3]⟩⟩ 0 = .ok (.goto (-61), 3) := by decide +kernel
theorem eb_642 : opK [0xc6, 0x00, 0x18] = true ∧ decode ⟨⟨[0xc6, 0x00, 0x18]⟩⟩ 0 = .ok (.ifnull 24, 3) := by decide +kernel
theorem eb_643 : opK [0x11, 0x75, 0x30] = true ∧ decode ⟨⟨[0x11, 0x75, 0x30]⟩⟩ 0 = .ok (.sipush 30000, 3) := by decide +kernel
theorem eb_644 : opK [0xb4, 0x00, 0xcc] = true ∧ decode ⟨⟨[0xb4, 0x00, 0xcc]⟩⟩ 0 = .ok (.getfield 204, 3) := by decide +kernel
theorem eb_645 : opK [0x9f, 0x00, 0x15] = true ∧ decode ⟨⟨[0x9f, 0x00, 0x15]⟩⟩ 0 = .ok (.if_icmp .eq 21, 3) := by decide +kernel
theorem eb_646 : opK [0xb6, 0x00, 0xcf] = true ∧ decode ⟨⟨[0xb6, 0x00, 0xcf]⟩⟩ 0 = .ok (.invokevirtual 207, 3) := by decide +kernel
theorem eb_647 : opK [0xb5, 0x00, 0xd2] = true ∧ decode ⟨⟨[0xb5, 0x00, 0xd2]⟩⟩ 0 = .ok (.putfield 210, 3) := by decide +kernel
theorem eb_648 : opK [0xb5, 0x00, 0xd5] = true ∧ decode ⟨⟨[0xb5, 0x00, 0xd5]⟩⟩ 0 = .ok (.putfield 213, 3) := by decide +kernel
theorem eb_649 : opK [0xb4, 0x00, 0xd8] = true ∧ decode ⟨⟨[0xb4, 0x00, 0xd8]⟩⟩ 0 = .ok (.getfield 216, 3) := by decide +kernel
theorem eb_650 : opK [0xb5, 0x00, 0xdb] = true ∧ decode ⟨⟨[0xb5, 0x00, 0xdb]⟩⟩ 0 = .ok (.putfield 219, 3) := by decide +kernel
theorem eb_651 : opK [0xb6, 0x00, 0xde] = true ∧ decode ⟨⟨[0xb6, 0x00, 0xde]⟩⟩ 0 = .ok (.invokevirtual 222, 3) := by decide +kernel
theorem eb_652 : opK [0xc6, 0x00, 0x14] = true ∧ decode ⟨⟨[0xc6, 0x00, 0x14]⟩⟩ 0 = .ok (.ifnull 20, 3) := by decide +kernel
theorem eb_653 : opK [0xb5, 0x00, 0xd8] = true ∧ decode ⟨⟨[0xb5, 0x00, 0xd8]⟩⟩ 0 = .ok (.putfield 216, 3) := by decide +kernel
theorem eb_654 : opK [0xb6, 0x00, 0xe1] = true ∧ decode ⟨⟨[0xb6, 0x00, 0xe1]⟩⟩ 0 = .ok (.invokevirtual 225, 3) := by decide +kernel
theorem eb_655 : opK [0x11, 0x05, 0xdc] = true ∧ decode ⟨⟨[0x11, 0x05, 0xdc]⟩⟩ 0 = .ok (.sipush 1500, 3) := by decide +kernel
theorem eb_656 : opK [0x11, 0x4e, 0x20] = true ∧ decode ⟨⟨[0x11, 0x4e, 0x20]⟩⟩ 0 = .ok (.sipush 20000, 3) := by decide +kernel
theorem eb_657 : opK [0xb6, 0x00, 0xe4] = true ∧ decode ⟨⟨[0xb6, 0x00, 0xe4]⟩⟩ 0 = .ok (.invokevirtual 228, 3) := by decide +kernel
theorem eb_658 : opK [0xa2, 0x00, 0x4f] = true ∧ decode ⟨⟨[0xa2, 0x00, 0x4f]⟩⟩ 0 = .ok (.if_icmp .ge 79, 3) := by decide +kernel
theorem eb_659 : opK [0xb4, 0x00, 0x58] = true ∧ decode ⟨⟨[0xb4, 0x00, 0x58]⟩⟩ 0 = .ok (.getfield 88, 3) := by decide +kernel
theorem eb_660 : opK [0xb4, 0x00, 0xe8] = true ∧ decode ⟨⟨[0xb4, 0x00, 0xe8]⟩⟩ 0 = .ok (.getfield 232, 3) := by decide +kernel
theorem eb_661 : opK [0xb5, 0x00, 0x5c] = true ∧ decode ⟨⟨[0xb5, 0x00, 0x5c]⟩⟩ 0 = .ok (.putfield 92, 3) := by decide +kernel
theorem eb_662 : opK [0xa2, 0x00, 0x28] = true ∧ decode ⟨⟨[0xa2, 0x00, 0x28]⟩⟩ 0 = .ok (.if_icmp .ge 40, 3) := by decide +kernel
theorem eb_663 : opK [0xc6, 0x00, 0x15] = true ∧ decode ⟨⟨[0xc6, 0x00, 0x15]⟩⟩ 0 = .ok (.ifnull 21, 3) := by decide +kernel
theorem eb_664 : opK [0xb4, 0x00, 0xdb] = true ∧ decode ⟨⟨[0xb4, 0x00, 0xdb]⟩⟩ 0 = .ok (.getfield 219, 3) := by decide +kernel
theorem eb_665 : opK [0xb6, 0x00, 0xec] = true ∧ decode ⟨⟨[0xb6, 0x00, 0xec]⟩⟩ 0 = .ok (.invokevirtual 236, 3) := by decide +kernel
theorem eb_666 : opK [0xa4, 0x00, 0x21] = true ∧ decode ⟨⟨[0xa4, 0x00, 0x21]⟩⟩ 0 = .ok (.if_icmp .le 33, 3) := by decide +kernel
theorem eb_667 : opK [0xb8, 0x00, 0xef] = true ∧ decode ⟨⟨[0xb8, 0x00, 0xef]⟩⟩ 0 = .ok (.invokestatic 239, 3) := by decide +kernel
theorem eb_668 : opK [0xb8, 0x00, 0xf4] = true ∧ decode ⟨⟨[0xb8, 0x00, 0xf4]⟩⟩ 0 = .ok (.invokestatic 244, 3) := by decide +kernel
theorem eb_669 : opK [0xb8, 0x00, 0xf7] = true ∧ decode ⟨⟨[0xb8, 0x00, 0xf7]⟩⟩ 0 = .ok (.invokestatic 247, 3) := by decide +kernel
theorem eb_670 : opK [0x99, 0x00, 0x13] = true ∧ decode ⟨⟨[0x99, 0x00, 0x13]⟩⟩ 0 = .ok (.ifCond .eq 19, 3) := by decide +kernel
theorem eb_671 : opK [0xb6, 0x00, 0xfd] = true ∧ decode ⟨⟨[0xb6, 0x00, 0xfd]⟩⟩ 0 = .ok (.invokevirtual 253, 3) := by decide +kernel
theorem eb_672 : opK [0x99, 0x00, 0x32] = true ∧ decode ⟨⟨[0x99, 0x00, 0x32]⟩⟩ 0 = .ok (.ifCond .eq 50, 3) := by decide +kernel
theorem eb_673 : opK [0xb4, 0x00, 0xa7] = true ∧ decode ⟨⟨[0xb4, 0x00, 0xa7]⟩⟩ 0 = .ok (.getfield 167, 3) := by decide +kernel
theorem eb_674 : opK [0xa7, 0x00, 0x20] = true ∧ decode ⟨⟨[0xa7, 0x00, 0x20]⟩⟩ 0 = .ok (.goto 32, 3) := by decide +kernel
theorem eb_675 : opK [0xa0, 0x00, 0x0b] = true ∧ decode ⟨⟨[0xa0, 0x00, 0x0b]⟩⟩ 0 = .ok (.if_icmp .ne 11, 3) := by decide +kernel
theorem eb_676 : opK [0xb6, 0x01, 0x01] = true ∧ decode ⟨⟨[0xb6, 0x01, 0x01]⟩⟩ 0 = .ok (.invokevirtual 257, 3) := by decide +kernel
theorem eb_677 : opK [0xb6, 0x01, 0x04] = true ∧ decode ⟨⟨[0xb6, 0x01, 0x04]⟩⟩ 0 = .ok (.invokevirtual 260, 3) := by decide +kernel
theorem eb_678 : opK [0xb6, 0x01, 0x08] = true ∧ decode ⟨⟨[0xb6, 0x01, 0x08]⟩⟩ 0 = .ok (.invokevirtual 264, 3) := by decide +kernel
theorem eb_679 : opK [0x99, 0x00, 0x04] = true ∧ decode ⟨⟨[0x99, 0x00, 0x04]⟩⟩ 0 = .ok (.ifCond .eq 4, 3) := by decide +kernel
theorem eb_680 : opK [0xa7, 0xff, 0xe5] = true ∧ decode ⟨⟨[0xa7, 0xff, 0xe5]⟩⟩ 0 = .ok (.goto (-27), 3) := by decide +kernel
theorem eb_681 : opK [0xb6, 0x01, 0x0c] = true ∧ decode ⟨⟨[0xb6, 0x01, 0x0c]⟩⟩ 0 = .ok (.invokevirtual 268, 3) := by decide +kernel
theorem eb_682 : opK [0xb6, 0x01, 0x0f] = true ∧ decode ⟨⟨[0xb6, 0x01, 0x0f]⟩⟩ 0 = .ok (.invokevirtual 271, 3) := by decide +kernel
theorem eb_683 : opK [0xb6, 0x01, 0x12] = true ∧ decode ⟨⟨[0xb6, 0x01, 0x12]⟩⟩ 0 = .ok (.invokevirtual 274, 3) := by decide +kernel
theorem eb_684 : opK [0xb4, 0x01, 0x15] = true ∧ decode ⟨⟨[0xb4, 0x01, 0x15]⟩⟩ 0 = .ok (.getfield 277, 3) := by decide +kernel
theorem eb_685 : opK [0xb6, 0x01, 0x18] = true ∧ decode ⟨⟨[0xb6, 0x01, 0x18]⟩⟩ 0 = .ok (.invokevirtual 280, 3) := by decide +kernel
theorem eb_686 : opK [0x9a, 0x00, 0x0c] = true ∧ decode ⟨⟨[0x9a, 0x00, 0x0c]⟩⟩ 0 = .ok (.ifCond .ne 12, 3) := by decide +kernel
theorem eb_687 : opK [0xb4, 0x00, 0xaa] = true ∧ decode ⟨⟨[0xb4, 0x00, 0xaa]⟩⟩ 0 = .ok (.getfield 170, 3) := by decide +kernel
theorem eb_688 : opK [0xa4, 0x00, 0x0c] = true ∧ decode ⟨⟨[0xa4, 0x00, 0x0c]⟩⟩ 0 = .ok (.if_icmp .le 12, 3) := by decide +kernel
theorem eb_689 : opK [0xa4, 0x00, 0x0a] = true ∧ decode ⟨⟨[0xa4, 0x00, 0x0a]⟩⟩ 0 = .ok (.if_icmp .le 10, 3) := by decide +kernel
theorem eb_690 : opK [0x9d, 0x00, 0x05] = true ∧ decode ⟨⟨[0x9d, 0x00, 0x05]⟩⟩ 0 = .ok (.ifCond .gt 5, 3) := by decide +kernel
theorem eb_691 : opK [0xb4, 0x00, 0xb0] = true ∧ decode ⟨⟨[0xb4, 0x00, 0xb0]⟩⟩ 0 = .ok (.getfield 176, 3) := by decide +kernel
theorem eb_692 : opK [0xb4, 0x00, 0xb7] = true ∧ decode ⟨⟨[0xb4, 0x00, 0xb7]⟩⟩ 0 = .ok (.getfield 183, 3) := by decide +kernel
theorem eb_693 : opK [0xb6, 0x01, 0x1c] = true ∧ decode ⟨⟨[0xb6, 0x01, 0x1c]⟩⟩ 0 = .ok (.invokevirtual 284, 3) := by decide +kernel
theorem eb_694 : opK [0xb4, 0x01, 0x1f] = true ∧ decode ⟨⟨[0xb4, 0x01, 0x1f]⟩⟩ 0 = .ok (.getfield 287, 3) := by decide +kernel
theorem eb_695 : opK [0xb5, 0x01, 0x1f] = true ∧ decode ⟨⟨[0xb5, 0x01, 0x1f]⟩⟩ 0 = .ok (.putfield 287, 3) := by decide +kernel
theorem eb_696 : opK [0xb4, 0x01, 0x22] = true ∧ decode ⟨⟨[0xb4, 0x01, 0x22]⟩⟩ 0 = .ok (.getfield 290, 3) := by decide +kernel
theorem eb_697 : opK [0xb5, 0x01, 0x22] = true ∧ decode ⟨⟨[0xb5, 0x01, 0x22]⟩⟩ 0 = .ok (.putfield 290, 3) := by decide +kernel
theorem eb_698 : opK [0xb6, 0x01, 0x25] = true ∧ decode ⟨⟨[0xb6, 0x01, 0x25]⟩⟩ 0 = .ok (.invokevirtual 293, 3) := by decide +kernel
theorem eb_699 : opK [0xa7, 0xff, 0xf0] = true ∧ decode ⟨⟨[0xa7, 0xff, 0xf0]⟩⟩ 0 = .ok (.goto (-16), 3) := by decide +kernel
theorem eb_700 : opK [0x9a, 0x00, 0x11] = true ∧ decode ⟨⟨[0x9a, 0x00, 0x11]⟩⟩ 0 = .ok (.ifCond .ne 17, 3) := by decide +kernel
theorem eb_701 : opK [0xb6, 0x01, 0x28] = true ∧ decode ⟨⟨[0xb6, 0x01, 0x28]⟩⟩ 0 = .ok (.invokevirtual 296, 3) := by decide +kernel
theorem eb_702 : opK [0xb4, 0x00, 0xd2] = true ∧ decode ⟨⟨[0xb4, 0x00, 0xd2]⟩⟩ 0 = .ok (.getfield 210, 3) := by decide +kernel
theorem eb_703 : opK [0xb4, 0x00, 0xd5] = true ∧ decode ⟨⟨[0xb4, 0x00, 0xd5]⟩⟩ 0 = .ok (.getfield 213, 3) := by decide +kernel
theorem eb_704 : opK [0xa4, 0x00, 0x0e] = true ∧ decode ⟨⟨[0xa4, 0x00, 0x0e]⟩⟩ 0 = .ok (.if_icmp .le 14, 3) := by decide +kernel
theorem eb_705 : opK [0xb5, 0x01, 0x15] = true ∧ decode ⟨⟨[0xb5, 0x01, 0x15]⟩⟩ 0 = .ok (.putfield 277, 3) := by decide +kernel
theorem eb_706 : opK [0xb5, 0x00, 0xe8] = true ∧ decode ⟨⟨[0xb5, 0x00, 0xe8]⟩⟩ 0 = .ok (.putfield 232, 3) := by decide +kernel
theorem eb_707 : opK [0x10, 0x1f] = true ∧ decode ⟨⟨[0x10, 0x1f]⟩⟩ 0 = .ok (.bipush 31, 2) := by decide +kernel
theorem eb_708 : opK [0xc7, 0x00, 0x0e] = true ∧ decode ⟨⟨[0xc7, 0x00, 0x0e]⟩⟩ 0 = .ok (.ifnonnull 14, 3) := by decide +kernel
theorem eb_709 : opK [0xbb, 0x01, 0x32] = true ∧ decode ⟨⟨[0xbb, 0x01, 0x32]⟩⟩ 0 = .ok (.new 306, 3) := by decide +kernel
theorem eb_710 : opK [0x13, 0x01, 0x34] = true ∧ decode ⟨⟨[0x13, 0x01, 0x34]⟩⟩ 0 = .ok (.ldc_w 308, 3) := by decide +kernel
theorem eb_711 : opK [0xb7, 0x01, 0x36] = true ∧ decode ⟨⟨[0xb7, 0x01, 0x36]⟩⟩ 0 = .ok (.invokespecial 310, 3) := by decide +kernel
theorem eb_712 : opK [0xb4, 0x01, 0x39] = true ∧ decode ⟨⟨[0xb4, 0x01, 0x39]⟩⟩ 0 = .ok (.getfield 313, 3) := by decide +kernel
theorem eb_713 : opK [0x13, 0x01, 0x3c] = true ∧ decode ⟨⟨[0x13, 0x01, 0x3c]⟩⟩ 0 = .ok (.ldc_w 316, 3) := by decide +kernel
theorem eb_714 : opK [0xb6, 0x01, 0x3e] = true ∧ decode ⟨⟨[0xb6, 0x01, 0x3e]⟩⟩ 0 = .ok (.invokevirtual 318, 3) := by decide +kernel
theorem eb_715 : opK [0x99, 0x00, 0x0b] = true ∧ decode ⟨⟨[0x99, 0x00, 0x0b]⟩⟩ 0 = .ok (.ifCond .eq 11, 3) := by decide +kernel
theorem eb_716 : opK [0xb6, 0x01, 0x41] = true ∧ decode ⟨⟨[0xb6, 0x01, 0x41]⟩⟩ 0 = .ok (.invokevirtual 321, 3) := by decide +kernel
theorem eb_717 : opK [0xb6, 0x01, 0x44] = true ∧ decode ⟨⟨[0xb6, 0x01, 0x44]⟩⟩ 0 = .ok (.invokevirtual 324, 3) := by decide +kernel
theorem eb_718 : opK [0x10, 0x11] = true ∧ decode ⟨⟨[0x10, 0x11]⟩⟩ 0 = .ok (.bipush 17, 2) := by decide +kernel
theorem eb_719 : opK [0xa7, 0x00, 0x06] = true ∧ decode ⟨⟨[0xa7, 0x00, 0x06]⟩⟩ 0 = .ok (.goto 6, 3) := by decide +kernel
theorem eb_720 : opK [0xb6, 0x01, 0x47] = true ∧ decode ⟨⟨[0xb6, 0x01, 0x47]⟩⟩ 0 = .ok (.invokevirtual 327, 3) := by decide +kernel
theorem eb_721 : opK [0xb6, 0x01, 0x48] = true ∧ decode ⟨⟨[0xb6, 0x01, 0x48]⟩⟩ 0 = .ok (.invokevirtual 328, 3) := by decide +kernel
theorem eb_722 : opK [0xb6, 0x01, 0x4b] = true ∧ decode ⟨⟨[0xb6, 0x01, 0x4b]⟩⟩ 0 = .ok (.invokevirtual 331, 3) := by decide +kernel
theorem eb_723 : opK [0xb6, 0x01, 0x4e] = true ∧ decode ⟨⟨[0xb6, 0x01, 0x4e]⟩⟩ 0 = .ok (.invokevirtual 334, 3) := by decide +kernel
theorem eb_724 : opK [0xb6, 0x01, 0x51] = true ∧ decode ⟨⟨[0xb6, 0x01, 0x51]⟩⟩ 0 = .ok (.invokevirtual 337, 3) := by decide +kernel
theorem eb_725 : opK [0xb6, 0x01, 0x54] = true ∧ decode ⟨⟨[0xb6, 0x01, 0x54]⟩⟩ 0 = .ok (.invokevirtual 340, 3) := by decide +kernel
theorem eb_726 : opK [0xb6, 0x01, 0x58] = true ∧ decode ⟨⟨[0xb6, 0x01, 0x58]⟩⟩ 0 = .ok (.invokevirtual 344, 3) := by decide +kernel
theorem eb_727 : opK [0xb6, 0x01, 0x5b] = true ∧ decode ⟨⟨[0xb6, 0x01, 0x5b]⟩⟩ 0 = .ok (.invokevirtual 347, 3) := by decide +kernel
theorem eb_728 : opK [0xb4, 0x01, 0x5e] = true ∧ decode ⟨⟨[0xb4, 0x01, 0x5e]⟩⟩ 0 = .ok (.getfield 350, 3) := by decide +kernel
theorem eb_729 : opK [0xb6, 0x01, 0x61] = true ∧ decode ⟨⟨[0xb6, 0x01, 0x61]⟩⟩ 0 = .ok (.invokevirtual 353, 3) := by decide +kernel
theorem eb_730 : opK [0xb6, 0x01, 0x64] = true ∧ decode ⟨⟨[0xb6, 0x01, 0x64]⟩⟩ 0 = .ok (.invokevirtual 356, 3) := by decide +kernel
theorem eb_731 : opK [0xb6, 0x01, 0x67] = true ∧ decode ⟨⟨[0xb6, 0x01, 0x67]⟩⟩ 0 = .ok (.invokevirtual 359, 3) := by decide +kernel
theorem eb_732 : opK [0xb4, 0x00, 0x54] = true ∧ decode ⟨⟨[0xb4, 0x00, 0x54]⟩⟩ 0 = .ok (.getfield 84, 3) := by decide +kernel
theorem eb_733 : opK [0xb6, 0x01, 0x69] = true ∧ decode ⟨⟨[0xb6, 0x01, 0x69]⟩⟩ 0 = .ok (.invokevirtual 361, 3) := by decide +kernel
theorem eb_734 : opK [0xb6, 0x01, 0x6d] = true ∧ decode ⟨⟨[0xb6, 0x01, 0x6d]⟩⟩ 0 = .ok (.invokevirtual 365, 3) := by decide +kernel
theorem eb_735 : opK [0xb6, 0x01, 0x71] = true ∧ decode ⟨⟨[0xb6, 0x01, 0x71]⟩⟩ 0 = .ok (.invokevirtual 369, 3) := by decide +kernel
theorem eb_736 : opK [0xb4, 0x01, 0x74] = true ∧ decode ⟨⟨[0xb4, 0x01, 0x74]⟩⟩ 0 = .ok (.getfield 372, 3) := by decide +kernel
theorem eb_737 : opK [0x13, 0x01, 0x78] = true ∧ decode ⟨⟨[0x13, 0x01, 0x78]⟩⟩ 0 = .ok (.ldc_w 376, 3) := by decide +kernel
theorem eb_738 : opK [0xb6, 0x01, 0x7a] = true ∧ decode ⟨⟨[0xb6, 0x01, 0x7a]⟩⟩ 0 = .ok (.invokevirtual 378, 3) := by decide +kernel
theorem eb_739 : opK [0xb6, 0x01, 0x7f] = true ∧ decode ⟨⟨[0xb6, 0x01, 0x7f]⟩⟩ 0 = .ok (.invokevirtual 383, 3) := by decide +kernel
theorem eb_740 : opK [0xb6, 0x01, 0x83] = true ∧ decode ⟨⟨[0xb6, 0x01, 0x83]⟩⟩ 0 = .ok (.invokevirtual 387, 3) := by decide +kernel
theorem eb_741 : opK [0xb6, 0x01, 0x84] = true ∧ decode ⟨⟨[0xb6, 0x01, 0x84]⟩⟩ 0 = .ok (.invokevirtual 388, 3) := by decide +kernel
theorem eb_742 : opK [0xb6, 0x01, 0x87] = true ∧ decode ⟨⟨[0xb6, 0x01, 0x87]⟩⟩ 0 = .ok (.invokevirtual 391, 3) := by decide +kernel
theorem eb_743 : opK [0xc6, 0x00, 0x13] = true ∧ decode ⟨⟨[0xc6, 0x00, 0x13]⟩⟩ 0 = .ok (.ifnull 19, 3) := by decide +kernel
theorem eb_744 : opK [0xb6, 0x01, 0x88] = true ∧ decode ⟨⟨[0xb6, 0x01, 0x88]⟩⟩ 0 = .ok (.invokevirtual 392, 3) := by decide +kernel
theorem eb_745 : opK [0xb6, 0x01, 0x89] = true ∧ decode ⟨⟨[0xb6, 0x01, 0x89]⟩⟩ 0 = .ok (.invokevirtual 393, 3) := by decide +kernel
theorem eb_746 : opK [0xb6, 0x01, 0x8b] = true ∧ decode ⟨⟨[0xb6, 0x01, 0x8b]⟩⟩ 0 = .ok (.invokevirtual 395, 3) := by decide +kernel
theorem eb_747 : opK [0xb6, 0x01, 0x8e] = true ∧ decode ⟨⟨[0xb6, 0x01, 0x8e]⟩⟩ 0 = .ok (.invokevirtual 398, 3) := by decide +kernel
theorem eb_748 : opK [0xb6, 0x01, 0x92] = true ∧ decode ⟨⟨[0xb6, 0x01, 0x92]⟩⟩ 0 = .ok (.invokevirtual 402, 3) := by decide +kernel
theorem eb_749 : opK [0xb4, 0x01, 0x95] = true ∧ decode ⟨⟨[0xb4, 0x01, 0x95]⟩⟩ 0 = .ok (.getfield 405, 3) := by decide +kernel
theorem eb_750 : opK [0xb4, 0x01, 0x98] = true ∧ decode ⟨⟨[0xb4, 0x01, 0x98]⟩⟩ 0 = .ok (.getfield 408, 3) := by decide +kernel
theorem eb_751 : opK [0xb6, 0x01, 0x9b] = true ∧ decode ⟨⟨[0xb6, 0x01, 0x9b]⟩⟩ 0 = .ok (.invokevirtual 411, 3) := by decide +kernel
theorem eb_752 : opK [0xb6, 0x01, 0x9c] = true ∧ decode ⟨⟨[0xb6, 0x01, 0x9c]⟩⟩ 0 = .ok (.invokevirtual 412, 3) := by decide +kernel
theorem eb_753 : opK [0xb6, 0x01, 0xa0] = true ∧ decode ⟨⟨[0xb6, 0x01, 0xa0]⟩⟩ 0 = .ok (.invokevirtual 416, 3) := by decide +kernel
theorem eb_754 : opK [0xb6, 0x01, 0xa3] = true ∧ decode ⟨⟨[0xb6, 0x01, 0xa3]⟩⟩ 0 = .ok (.invokevirtual 419, 3) := by decide +kernel
theorem eb_755 : opK [0xb6, 0x01, 0xa7] = true ∧ decode ⟨⟨[0xb6, 0x01, 0xa7]⟩⟩ 0 = .ok (.invokevirtual 423, 3) := by decide +kernel
theorem eb_756 : opK [0xb6, 0x01, 0xaa] = true ∧ decode ⟨⟨[0xb6, 0x01, 0xaa]⟩⟩ 0 = .ok (.invokevirtual 426, 3) := by decide +kernel
theorem eb_757 : opK [0xb6, 0x01, 0xad] = true ∧ decode ⟨⟨[0xb6, 0x01, 0xad]⟩⟩ 0 = .ok (.invokevirtual 429, 3) := by decide +kernel
theorem eb_758 : opK [0x99, 0x00, 0x1f] = true ∧ decode ⟨⟨[0x99, 0x00, 0x1f]⟩⟩ 0 = .ok (.ifCond .eq 31, 3) := by decide +kernel
theorem eb_759 : opK [0xb6, 0x01, 0xae] = true ∧ decode ⟨⟨[0xb6, 0x01, 0xae]⟩⟩ 0 = .ok (.invokevirtual 430, 3) := by decide +kernel
theorem eb_760 : opK [0xb6, 0x01, 0xb2] = true ∧ decode ⟨⟨[0xb6, 0x01, 0xb2]⟩⟩ 0 = .ok (.invokevirtual 434, 3) := by decide +kernel
theorem eb_761 : opK [0x13, 0x01, 0xb5] = true ∧ decode ⟨⟨[0x13, 0x01, 0xb5]⟩⟩ 0 = .ok (.ldc_w 437, 3) := by decide +kernel
theorem eb_762 : opK [0xb6, 0x01, 0xb6] = true ∧ decode ⟨⟨[0xb6, 0x01, 0xb6]⟩⟩ 0 = .ok (.invokevirtual 438, 3) := by decide +kernel
theorem eb_763 : opK [0xb6, 0x01, 0xba] = true ∧ decode ⟨⟨[0xb6, 0x01, 0xba]⟩⟩ 0 = .ok (.invokevirtual 442, 3) := by decide +kernel
theorem eb_764 : opK [0xb6, 0x01, 0xbd] = true ∧ decode ⟨⟨[0xb6, 0x01, 0xbd]⟩⟩ 0 = .ok (.invokevirtual 445, 3) := by decide +kernel
theorem eb_765 : opK [0xb6, 0x01, 0xc0] = true ∧ decode ⟨⟨[0xb6, 0x01, 0xc0]⟩⟩ 0 = .ok (.invokevirtual 448, 3) := by decide +kernel
theorem eb_766 : opK [0xb6, 0x01, 0xc3] = true ∧ decode ⟨⟨[0xb6, 0x01, 0xc3]⟩⟩ 0 = .ok (.invokevirtual 451, 3) := by decide +kernel
theorem eb_767 : opK [0xb6, 0x01, 0xc6] = true ∧ decode ⟨⟨[0xb6, 0x01, 0xc6]⟩⟩ 0 = .ok (.invokevirtual 454, 3) := by decide +kernel
theorem eb_768 : opK [0xb6, 0x01, 0xc9] = true ∧ decode ⟨⟨[0xb6, 0x01, 0xc9]⟩⟩ 0 = .ok (.invokevirtual 457, 3) := by decide +kernel
theorem eb_769 : opK [0xb4, 0x00, 0x4d] = true ∧ decode ⟨⟨[0xb4, 0x00, 0x4d]⟩⟩ 0 = .ok (.getfield 77, 3) := by decide +kernel
theorem eb_770 : opK [0xb6, 0x01, 0xcc] = true ∧ decode ⟨⟨[0xb6, 0x01, 0xcc]⟩⟩ 0 = .ok (.invokevirtual 460, 3) := by decide +kernel
theorem eb_771 : opK [0xb6, 0x01, 0xcf] = true ∧ decode ⟨⟨[0xb6, 0x01, 0xcf]⟩⟩ 0 = .ok (.invokevirtual 463, 3) := by decide +kernel
theorem eb_772 : opK [0xb6, 0x01, 0xd2] = true ∧ decode ⟨⟨[0xb6, 0x01, 0xd2]⟩⟩ 0 = .ok (.invokevirtual 466, 3) := by decide +kernel
theorem eb_773 : opK [0x9e, 0x00, 0x1c] = true ∧ decode ⟨⟨[0x9e, 0x00, 0x1c]⟩⟩ 0 = .ok (.ifCond .le 28, 3) := by decide +kernel
theorem eb_774 : opK [0xb4, 0x01, 0xd6] = true ∧ decode ⟨⟨[0xb4, 0x01, 0xd6]⟩⟩ 0 = .ok (.getfield 470, 3) := by decide +kernel
theorem eb_775 : opK [0xb8, 0x01, 0xd8] = true ∧ decode ⟨⟨[0xb8, 0x01, 0xd8]⟩⟩ 0 = .ok (.invokestatic 472, 3) := by decide +kernel
theorem eb_776 : opK [0xb6, 0x01, 0xdd] = true ∧ decode ⟨⟨[0xb6, 0x01, 0xdd]⟩⟩ 0 = .ok (.invokevirtual 477, 3) := by decide +kernel
theorem eb_777 : opK [0xb6, 0x01, 0xe0] = true ∧ decode ⟨⟨[0xb6, 0x01, 0xe0]⟩⟩ 0 = .ok (.invokevirtual 480, 3) := by decide +kernel
theorem eb_778 : opK [0xb6, 0x01, 0xe4] = true ∧ decode ⟨⟨[0xb6, 0x01, 0xe4]⟩⟩ 0 = .ok (.invokevirtual 484, 3) := by decide +kernel
theorem eb_779 : opK [0xb6, 0x01, 0xe8] = true ∧ decode ⟨⟨[0xb6, 0x01, 0xe8]⟩⟩ 0 = .ok (.invokevirtual 488, 3) := by decide +kernel
theorem eb_780 : opK [0xb6, 0x01, 0xeb] = true ∧ decode ⟨⟨[0xb6, 0x01, 0xeb]⟩⟩ 0 = .ok (.invokevirtual 491, 3) := by decide +kernel
theorem eb_781 : opK [0xb6, 0x01, 0xef] = true ∧ decode ⟨⟨[0xb6, 0x01, 0xef]⟩⟩ 0 = .ok (.invokevirtual 495, 3) := by decide +kernel
theorem eb_782 : opK [0xb6, 0x01, 0xf2] = true ∧ decode ⟨⟨[0xb6, 0x01, 0xf2]⟩⟩ 0 = .ok (.invokevirtual 498, 3) := by decide +kernel
theorem eb_783 : opK [0xb6, 0x01, 0xf5] = true ∧ decode ⟨⟨[0xb6, 0x01, 0xf5]⟩⟩ 0 = .ok (.invokevirtual 501, 3) := by decide +kernel
theorem eb_784 : opK [0xa2, 0x00, 0x3f] = true ∧ decode ⟨⟨[0xa2, 0x00, 0x3f]⟩⟩ 0 = .ok (.if_icmp .ge 63, 3) := by decide +kernel
theorem eb_785 : opK [0xb4, 0x01, 0xf8] = true ∧ decode ⟨⟨[0xb4, 0x01, 0xf8]⟩⟩ 0 = .ok (.getfield 504, 3) := by decide +kernel
theorem eb_786 : opK [0xb6, 0x01, 0xfb] = true ∧ decode ⟨⟨[0xb6, 0x01, 0xfb]⟩⟩ 0 = .ok (.invokevirtual 507, 3) := by decide +kernel
theorem eb_787 : opK [0xb6, 0x01, 0xfe] = true ∧ decode ⟨⟨[0xb6, 0x01, 0xfe]⟩⟩ 0 = .ok (.invokevirtual 510, 3) := by decide +kernel
theorem eb_788 : opK [0xb6, 0x02, 0x01] = true ∧ decode ⟨⟨[0xb6, 0x02, 0x01]⟩⟩ 0 = .ok (.invokevirtual 513, 3) := by decide +kernel
theorem eb_789 : opK [0xb6, 0x02, 0x04] = true ∧ decode ⟨⟨[0xb6, 0x02, 0x04]⟩⟩ 0 = .ok (.invokevirtual 516, 3) := by decide +kernel
theorem eb_790 : opK [0xa7, 0xff, 0xbf] = true ∧ decode ⟨⟨[0xa7, 0xff, 0xbf]⟩⟩ 0 = .ok (.goto (-65), 3) := by decide +kernel
theorem eb_791 : opK [0xb6, 0x02, 0x07] = true ∧ decode ⟨⟨[0xb6, 0x02, 0x07]⟩⟩ 0 = .ok (.invokevirtual 519, 3) := by decide +kernel
theorem eb_792 : opK [0xc6, 0x00, 0x12] = true ∧ decode ⟨⟨[0xc6, 0x00, 0x12]⟩⟩ 0 = .ok (.ifnull 18, 3) := by decide +kernel
theorem eb_793 : opK [0xb8, 0x02, 0x0a] = true ∧ decode ⟨⟨[0xb8, 0x02, 0x0a]⟩⟩ 0 = .ok (.invokestatic 522, 3) := by decide +kernel
theorem eb_794 : opK [0xb6, 0x02, 0x0d] = true ∧ decode ⟨⟨[0xb6, 0x02, 0x0d]⟩⟩ 0 = .ok (.invokevirtual 525, 3) := by decide +kernel
theorem eb_795 : opK [0xb6, 0x02, 0x10] = true ∧ decode ⟨⟨[0xb6, 0x02, 0x10]⟩⟩ 0 = .ok (.invokevirtual 528, 3) := by decide +kernel
theorem eb_796 : opK [0xc6, 0x00, 0x1a] = true ∧ decode ⟨⟨[0xc6, 0x00, 0x1a]⟩⟩ 0 = .ok (.ifnull 26, 3) := by decide +kernel
theorem eb_797 : opK [0xb6, 0x02, 0x14] = true ∧ decode ⟨⟨[0xb6, 0x02, 0x14]⟩⟩ 0 = .ok (.invokevirtual 532, 3) := by decide +kernel
theorem eb_798 : opK [0xc7, 0x00, 0x05] = true ∧ decode ⟨⟨[0xc7, 0x00, 0x05]⟩⟩ 0 = .ok (.ifnonnull 5, 3) := by decide +kernel
theorem eb_799 : opK [0xb4, 0x02, 0x17] = true ∧ decode ⟨⟨[0xb4, 0x02, 0x17]⟩⟩ 0 = .ok (.getfield 535, 3) := by decide +kernel
theorem eb_800 : opK [0xb6, 0x02, 0x18] = true ∧ decode ⟨⟨[0xb6, 0x02, 0x18]⟩⟩ 0 = .ok (.invokevirtual 536, 3) := by decide +kernel
theorem eb_801 : opK [0xb6, 0x02, 0x1b] = true ∧ decode ⟨⟨[0xb6, 0x02, 0x1b]⟩⟩ 0 = .ok (.invokevirtual 539, 3) := by decide +kernel
theorem eb_802 : opK [0xb6, 0x02, 0x1e] = true ∧ decode ⟨⟨[0xb6, 0x02, 0x1e]⟩⟩ 0 = .ok (.invokevirtual 542, 3) := by decide +kernel
theorem eb_803 : opK [0x11, 0x27, 0x10] = true ∧ decode ⟨⟨[0x11, 0x27, 0x10]⟩⟩ 0 = .ok (.sipush 10000, 3) := by decide +kernel
theorem eb_804 : opK [0xa2, 0x00, 0x21] = true ∧ decode ⟨⟨[0xa2, 0x00, 0x21]⟩⟩ 0 = .ok (.if_icmp .ge 33, 3) := by decide +kernel
theorem eb_805 : opK [0xb6, 0x02, 0x22] = true ∧ decode ⟨⟨[0xb6, 0x02, 0x22]⟩⟩ 0 = .ok (.invokevirtual 546, 3) := by decide +kernel
theorem eb_806 : opK [0xb6, 0x02, 0x25] = true ∧ decode ⟨⟨[0xb6, 0x02, 0x25]⟩⟩ 0 = .ok (.invokevirtual 549, 3) := by decide +kernel
theorem eb_807 : opK [0xb6, 0x02, 0x28] = true ∧ decode ⟨⟨[0xb6, 0x02, 0x28]⟩⟩ 0 = .ok (.invokevirtual 552, 3) := by decide +kernel
theorem eb_808 : opK [0xb6, 0x02, 0x2b] = true ∧ decode ⟨⟨[0xb6, 0x02, 0x2b]⟩⟩ 0 = .ok (.invokevirtual 555, 3) := by decide +kernel
theorem eb_809 : opK [0xb5, 0x02, 0x2e] = true ∧ decode ⟨⟨[0xb5, 0x02, 0x2e]⟩⟩ 0 = .ok (.putfield 558, 3) := by decide +kernel
theorem eb_810 : opK [0x13, 0x02, 0x31] = true ∧ decode ⟨⟨[0x13, 0x02, 0x31]⟩⟩ 0 = .ok (.ldc_w 561, 3) := by decide +kernel
theorem eb_811 : opK [0xb6, 0x02, 0x32] = true ∧ decode ⟨⟨[0xb6, 0x02, 0x32]⟩⟩ 0 = .ok (.invokevirtual 562, 3) := by decide +kernel
theorem eb_812 : opK [0xb4, 0x02, 0x35] = true ∧ decode ⟨⟨[0xb4, 0x02, 0x35]⟩⟩ 0 = .ok (.getfield 565, 3) := by decide +kernel
theorem eb_813 : opK [0xb4, 0x02, 0x38] = true ∧ decode ⟨⟨[0xb4, 0x02, 0x38]⟩⟩ 0 = .ok (.getfield 568, 3) := by decide +kernel
theorem eb_814 : opK [0xb4, 0x02, 0x3b] = true ∧ decode ⟨⟨[0xb4, 0x02, 0x3b]⟩⟩ 0 = .ok (.getfield 571, 3) := by decide +kernel
theorem eb_815 : opK [0xb4, 0x02, 0x3e] = true ∧ decode ⟨⟨[0xb4, 0x02, 0x3e]⟩⟩ 0 = .ok (.getfield 574, 3) := by decide +kernel
theorem eb_816 : opK [0xb6, 0x02, 0x41] = true ∧ decode ⟨⟨[0xb6, 0x02, 0x41]⟩⟩ 0 = .ok (.invokevirtual 577, 3) := by decide +kernel
theorem eb_817 : opK [0xb4, 0x02, 0x44] = true ∧ decode ⟨⟨[0xb4, 0x02, 0x44]⟩⟩ 0 = .ok (.getfield 580, 3) := by decide +kernel
theorem eb_818 : opK [0xb4, 0x02, 0x47] = true ∧ decode ⟨⟨[0xb4, 0x02, 0x47]⟩⟩ 0 = .ok (.getfield 583, 3) := by decide +kernel
theorem eb_819 : opK [0xb4, 0x02, 0x4a] = true ∧ decode ⟨⟨[0xb4, 0x02, 0x4a]⟩⟩ 0 = .ok (.getfield 586, 3) := by decide +kernel
theorem eb_820 : opK [0xb4, 0x02, 0x4d] = true ∧ decode ⟨⟨[0xb4, 0x02, 0x4d]⟩⟩ 0 = .ok (.getfield 589, 3) := by decide +kernel
theorem eb_821 : opK [0xb4, 0x02, 0x50] = true ∧ decode ⟨⟨[0xb4, 0x02, 0x50]⟩⟩ 0 = .ok (.getfield 592, 3) := by decide +kernel
theorem eb_822 : opK [0xb4, 0x02, 0x53] = true ∧ decode ⟨⟨[0xb4, 0x02, 0x53]⟩⟩ 0 = .ok (.getfield 595, 3) := by decide +kernel
theorem eb_823 : opK [0xb4, 0x02, 0x56] = true ∧ decode ⟨⟨[0xb4, 0x02, 0x56]⟩⟩ 0 = .ok (.getfield 598, 3) := by decide +kernel
theorem eb_824 : opK [0xb4, 0x02, 0x59] = true ∧ decode ⟨⟨[0xb4, 0x02, 0x59]⟩⟩ 0 = .ok (.getfield 601, 3) := by decide +kernel
theorem eb_825 : opK [0xb5, 0x00, 0x0d] = true ∧ decode ⟨⟨[0xb5, 0x00, 0x0d]⟩⟩ 0 = .ok (.putfield 13, 3) := by decide +kernel
theorem eb_826 : opK [0xb5, 0x00, 0x10] = true ∧ decode ⟨⟨[0xb5, 0x00, 0x10]⟩⟩ 0 = .ok (.putfield 16, 3) := by decide +kernel
theorem eb_827 : opK [0xb5, 0x00, 0x3d] = true ∧ decode ⟨⟨[0xb5, 0x00, 0x3d]⟩⟩ 0 = .ok (.putfield 61, 3) := by decide +kernel
theorem eb_828 : opK [0xb5, 0x00, 0x40] = true ∧ decode ⟨⟨[0xb5, 0x00, 0x40]⟩⟩ 0 = .ok (.putfield 64, 3) := by decide +kernel
theorem eb_829 : opK [0x12, 0x46] = true ∧ decode ⟨⟨[0x12, 0x46]⟩⟩ 0 = .ok (.ldc 70, 2) := by decide +kernel
theorem eb_830 : opK [0xb5, 0x00, 0x47] = true ∧ decode ⟨⟨[0xb5, 0x00, 0x47]⟩⟩ 0 = .ok (.putfield 71, 3) := by decide +kernel
theorem eb_831 : opK [0xb5, 0x00, 0x4b] = true ∧ decode ⟨⟨[0xb5, 0x00, 0x4b]⟩⟩ 0 = .ok (.putfield 75, 3) := by decide +kernel
theorem eb_832 : opK [0xb5, 0x00, 0x4e] = true ∧ decode ⟨⟨[0xb5, 0x00, 0x4e]⟩⟩ 0 = .ok (.putfield 78, 3) := by decide +kernel
theorem eb_833 : opK [0xb5, 0x00, 0x51] = true ∧ decode ⟨⟨[0xb5, 0x00, 0x51]⟩⟩ 0 = .ok (.putfield 81, 3) := by decide +kernel
theorem eb_834 : opK [0xb5, 0x00, 0x57] = true ∧ decode ⟨⟨[0xb5, 0x00, 0x57]⟩⟩ 0 = .ok (.putfield 87, 3) := by decide +kernel
theorem eb_835 : opK [0x11, 0x02, 0x30] = true ∧ decode ⟨⟨[0x11, 0x02, 0x30]⟩⟩ 0 = .ok (.sipush 560, 3) := by decide +kernel
theorem eb_836 : opK [0xb5, 0x00, 0x5a] = true ∧ decode ⟨⟨[0xb5, 0x00, 0x5a]⟩⟩ 0 = .ok (.putfield 90, 3) := by decide +kernel
theorem eb_837 : opK [0xb5, 0x00, 0x5d] = true ∧ decode ⟨⟨[0xb5, 0x00, 0x5d]⟩⟩ 0 = .ok (.putfield 93, 3) := by decide +kernel
theorem eb_838 : opK [0xb5, 0x00, 0x60] = true ∧ decode ⟨⟨[0xb5, 0x00, 0x60]⟩⟩ 0 = .ok (.putfield 96, 3) := by decide +kernel
theorem eb_839 : opK [0xb5, 0x00, 0x63] = true ∧ decode ⟨⟨[0xb5, 0x00, 0x63]⟩⟩ 0 = .ok (.putfield 99, 3) := by decide +kernel
theorem eb_840 : opK [0xb5, 0x00, 0x66] = true ∧ decode ⟨⟨[0xb5, 0x00, 0x66]⟩⟩ 0 = .ok (.putfield 102, 3) := by decide +kernel
theorem eb_841 : opK [0x11, 0x57, 0x80] = true ∧ decode ⟨⟨[0x11, 0x57, 0x80]⟩⟩ 0 = .ok (.sipush 22400, 3) := by decide +kernel
theorem eb_842 : opK [0xb5, 0x00, 0x69] = true ∧ decode ⟨⟨[0xb5, 0x00, 0x69]⟩⟩ 0 = .ok (.putfield 105, 3) := by decide +kernel
theorem eb_843 : opK [0xb5, 0x00, 0x6c] = true ∧ decode ⟨⟨[0xb5, 0x00, 0x6c]⟩⟩ 0 = .ok (.putfield 108, 3) := by decide +kernel
theorem eb_844 : opK [0xb5, 0x00, 0x6f] = true ∧ decode ⟨⟨[0xb5, 0x00, 0x6f]⟩⟩ 0 = .ok (.putfield 111, 3) := by decide +kernel
theorem eb_845 : opK [0xb5, 0x00, 0x72] = true ∧ decode ⟨⟨[0xb5, 0x00, 0x72]⟩⟩ 0 = .ok (.putfield 114, 3) := by decide +kernel
theorem eb_846 : opK [0xb5, 0x00, 0x75] = true ∧ decode ⟨⟨[0xb5, 0x00, 0x75]⟩⟩ 0 = .ok (.putfield 117, 3) := by decide +kernel
theorem eb_847 : opK [0x11, 0x00, 0x80] = true ∧ decode ⟨⟨[0x11, 0x00, 0x80]⟩⟩ 0 = .ok (.sipush 128, 3) := by decide +kernel
theorem eb_848 : opK [0xb5, 0x00, 0x78] = true ∧ decode ⟨⟨[0xb5, 0x00, 0x78]⟩⟩ 0 = .ok (.putfield 120, 3) := by decide +kernel
theorem eb_849 : opK [0xb5, 0x00, 0x7b] = true ∧ decode ⟨⟨[0xb5, 0x00, 0x7b]⟩⟩ 0 = .ok (.putfield 123, 3) := by decide +kernel
theorem eb_850 : opK [0xb5, 0x00, 0x7e] = true ∧ decode ⟨⟨[0xb5, 0x00, 0x7e]⟩⟩ 0 = .ok (.putfield 126, 3) := by decide +kernel
theorem eb_851 : opK [0xb5, 0x00, 0x81] = true ∧ decode ⟨⟨[0xb5, 0x00, 0x81]⟩⟩ 0 = .ok (.putfield 129, 3) := by decide +kernel
theorem eb_852 : opK [0xb5, 0x00, 0x84] = true ∧ decode ⟨⟨[0xb5, 0x00, 0x84]⟩⟩ 0 = .ok (.putfield 132, 3) := by decide +kernel
theorem eb_853 : opK [0xb5, 0x00, 0x87] = true ∧ decode ⟨⟨[0xb5, 0x00, 0x87]⟩⟩ 0 = .ok (.putfield 135, 3) := by decide +kernel
theorem eb_854 : opK [0xb5, 0x00, 0x8a] = true ∧ decode ⟨⟨[0xb5, 0x00, 0x8a]⟩⟩ 0 = .ok (.putfield 138, 3) := by decide +kernel
theorem eb_855 : opK [0xb5, 0x00, 0x8d] = true ∧ decode ⟨⟨[0xb5, 0x00, 0x8d]⟩⟩ 0 = .ok (.putfield 141, 3) := by decide +kernel
theorem eb_856 : opK [0xb5, 0x00, 0x90] = true ∧ decode ⟨⟨[0xb5, 0x00, 0x90]⟩⟩ 0 = .ok (.putfield 144, 3) := by decide +kernel
theorem eb_857 : opK [0xb5, 0x00, 0x93] = true ∧ decode ⟨⟨[0xb5, 0x00, 0x93]⟩⟩ 0 = .ok (.putfield 147, 3) := by decide +kernel
theorem eb_858 : opK [0xb5, 0x00, 0x96] = true ∧ decode ⟨⟨[0xb5, 0x00, 0x96]⟩⟩ 0 = .ok (.putfield 150, 3) := by decide +kernel
theorem eb_859 : opK [0xb5, 0x00, 0x99] = true ∧ decode ⟨⟨[0xb5, 0x00, 0x99]⟩⟩ 0 = .ok (.putfield 153, 3) := by decide +kernel
theorem eb_860 : opK [0xb5, 0x00, 0x9c] = true ∧ decode ⟨⟨[0xb5, 0x00, 0x9c]⟩⟩ 0 = .ok (.putfield 156, 3) := by decide +kernel
theorem eb_861 : opK [0xb5, 0x00, 0xa0] = true ∧ decode ⟨⟨[0xb5, 0x00, 0xa0]⟩⟩ 0 = .ok (.putfield 160, 3) := by decide +kernel
theorem eb_862 : opK [0xb5, 0x00, 0xa3] = true ∧ decode ⟨⟨[0xb5, 0x00, 0xa3]⟩⟩ 0 = .ok (.putfield 163, 3) := by decide +kernel
theorem eb_863 : opK [0xb5, 0x00, 0xa6] = true ∧ decode ⟨⟨[0xb5, 0x00, 0xa6]⟩⟩ 0 = .ok (.putfield 166, 3) := by decide +kernel
theorem eb_864 : opK [0xb5, 0x00, 0xa9] = true ∧ decode ⟨⟨[0xb5, 0x00, 0xa9]⟩⟩ 0 = .ok (.putfield 169, 3) := by decide +kernel
theorem eb_865 : opK [0xb5, 0x00, 0xac] = true ∧ decode ⟨⟨[0xb5, 0x00, 0xac]⟩⟩ 0 = .ok (.putfield 172, 3) := by decide +kernel
theorem eb_866 : opK [0xb5, 0x00, 0xaf] = true ∧ decode ⟨⟨[0xb5, 0x00, 0xaf]⟩⟩ 0 = .ok (.putfield 175, 3) := by decide +kernel
theorem eb_867 : opK [0xb5, 0x00, 0xb2] = true ∧ decode ⟨⟨[0xb5, 0x00, 0xb2]⟩⟩ 0 = .ok (.putfield 178, 3) := by decide +kernel
theorem eb_868 : opK [0xb5, 0x00, 0xb5] = true ∧ decode ⟨⟨[0xb5, 0x00, 0xb5]⟩⟩ 0 = .ok (.putfield 181, 3) := by decide +kernel
theorem eb_869 : opK [0xb5, 0x00, 0xb8] = true ∧ decode ⟨⟨[0xb5, 0x00, 0xb8]⟩⟩ 0 = .ok (.putfield 184, 3) := by decide +kernel
theorem eb_870 : opK [0xb5, 0x00, 0xbb] = true ∧ decode ⟨⟨[0xb5, 0x00, 0xbb]⟩⟩ 0 = .ok (.putfield 187, 3) := by decide +kernel
theorem eb_871 : opK [0xb5, 0x00, 0xbe] = true ∧ decode ⟨⟨[0xb5, 0x00, 0xbe]⟩⟩ 0 = .ok (.putfield 190, 3) := by decide +kernel
theorem eb_872 : opK [0xb5, 0x00, 0xc1] = true ∧ decode ⟨⟨[0xb5, 0x00, 0xc1]⟩⟩ 0 = .ok (.putfield 193, 3) := by decide +kernel
theorem eb_873 : opK [0xb5, 0x00, 0xc4] = true ∧ decode ⟨⟨[0xb5, 0x00, 0xc4]⟩⟩ 0 = .ok (.putfield 196, 3) := by decide +kernel
theorem eb_874 : opK [0xb5, 0x00, 0xc7] = true ∧ decode ⟨⟨[0xb5, 0x00, 0xc7]⟩⟩ 0 = .ok (.putfield 199, 3) := by decide +kernel
theorem eb_875 : opK [0xb5, 0x00, 0xca] = true ∧ decode ⟨⟨[0xb5, 0x00, 0xca]⟩⟩ 0 = .ok (.putfield 202, 3) := by decide +kernel
theorem eb_876 : opK [0xb5, 0x00, 0xcd] = true ∧ decode ⟨⟨[0xb5, 0x00, 0xcd]⟩⟩ 0 = .ok (.putfield 205, 3) := by decide +kernel
theorem eb_877 : opK [0xb5, 0x00, 0xd0] = true ∧ decode ⟨⟨[0xb5, 0x00, 0xd0]⟩⟩ 0 = .ok (.putfield 208, 3) := by decide +kernel
theorem eb_878 : opK [0xb5, 0x00, 0xd3] = true ∧ decode ⟨⟨[0xb5, 0x00, 0xd3]⟩⟩ 0 = .ok (.putfield 211, 3) := by decide +kernel
theorem eb_879 : opK [0xb5, 0x00, 0xd6] = true ∧ decode ⟨⟨[0xb5, 0x00, 0xd6]⟩⟩ 0 = .ok (.putfield 214, 3) := by decide +kernel
theorem eb_880 : opK [0xb5, 0x00, 0xd9] = true ∧ decode ⟨⟨[0xb5, 0x00, 0xd9]⟩⟩ 0 = .ok (.putfield 217, 3) := by decide +kernel
theorem eb_881 : opK [0xb5, 0x00, 0xdc] = true ∧ decode ⟨⟨[0xb5, 0x00, 0xdc]⟩⟩ 0 = .ok (.putfield 220, 3) := by decide +kernel
theorem eb_882 : opK [0xb5, 0x00, 0xdf] = true ∧ decode ⟨⟨[0xb5, 0x00, 0xdf]⟩⟩ 0 = .ok (.putfield 223, 3) := by decide +kernel
theorem eb_883 : opK [0xb5, 0x00, 0xe2] = true ∧ decode ⟨⟨[0xb5, 0x00, 0xe2]⟩⟩ 0 = .ok (.putfield 226, 3) := by decide +kernel
theorem eb_884 : opK [0xb5, 0x00, 0xe5] = true ∧ decode ⟨⟨[0xb5, 0x00, 0xe5]⟩⟩ 0 = .ok (.putfield 229, 3) := by decide +kernel
theorem eb_885 : opK [0xb5, 0x00, 0xeb] = true ∧ decode ⟨⟨[0xb5, 0x00, 0xeb]⟩⟩ 0 = .ok (.putfield 235, 3) := by decide +kernel
theorem eb_886 : opK [0xb5, 0x00, 0xee] = true ∧ decode ⟨⟨[0xb5, 0x00, 0xee]⟩⟩ 0 = .ok (.putfield 238, 3) := by decide +kernel
theorem eb_887 : opK [0xb5, 0x00, 0xf1] = true ∧ decode ⟨⟨[0xb5, 0x00, 0xf1]⟩⟩ 0 = .ok (.putfield 241, 3) := by decide +kernel
theorem eb_888 : opK [0xb5, 0x00, 0xf4] = true ∧ decode ⟨⟨[0xb5, 0x00, 0xf4]⟩⟩ 0 = .ok (.putfield 244, 3) := by decide +kernel
theorem eb_889 : opK [0xb5, 0x00, 0xf7] = true ∧ decode ⟨⟨[0xb5, 0x00, 0xf7]⟩⟩ 0 = .ok (.putfield 247, 3) := by decide +kernel
theorem eb_890 : opK [0xb5, 0x00, 0xfa] = true ∧ decode ⟨⟨[0xb5, 0x00, 0xfa]⟩⟩ 0 = .ok (.putfield 250, 3) := by decide +kernel
theorem eb_891 : opK [0xb5, 0x00, 0xfd] = true ∧ decode ⟨⟨[0xb5, 0x00, 0xfd]⟩⟩ 0 = .ok (.putfield 253, 3) := by decide +kernel
theorem eb_892 : opK [0xb5, 0x01, 0x01] = true ∧ decode ⟨⟨[0xb5, 0x01, 0x01]⟩⟩ 0 = .ok (.putfield 257, 3) := by decide +kernel
theorem eb_893 : opK [0xb5, 0x01, 0x04] = true ∧ decode ⟨⟨[0xb5, 0x01, 0x04]⟩⟩ 0 = .ok (.putfield 260, 3) := by decide +kernel
theorem eb_894 : opK [0xb5, 0x01, 0x07] = true ∧ decode ⟨⟨[0xb5, 0x01, 0x07]⟩⟩ 0 = .ok (.putfield 263, 3) := by decide +kernel
theorem eb_895 : opK [0xb5, 0x01, 0x0a] = true ∧ decode ⟨⟨[0xb5, 0x01, 0x0a]⟩⟩ 0 = .ok (.putfield 266, 3) := by decide +kernel
theorem eb_896 : opK [0xb5, 0x01, 0x0d] = true ∧ decode ⟨⟨[0xb5, 0x01, 0x0d]⟩⟩ 0 = .ok (.putfield 269, 3) := by decide +kernel
theorem eb_897 : opK [0xb5, 0x01, 0x10] = true ∧ decode ⟨⟨[0xb5, 0x01, 0x10]⟩⟩ 0 = .ok (.putfield 272, 3) := by decide +kernel
theorem eb_898 : opK [0xb5, 0x01, 0x13] = true ∧ decode ⟨⟨[0xb5, 0x01, 0x13]⟩⟩ 0 = .ok (.putfield 275, 3) := by decide +kernel
theorem eb_899 : opK [0xb5, 0x01, 0x16] = true ∧ decode ⟨⟨[0xb5, 0x01, 0x16]⟩⟩ 0 = .ok (.putfield 278, 3) := by decide +kernel
theorem eb_900 : opK [0xb5, 0x01, 0x19] = true ∧ decode ⟨⟨[0xb5, 0x01, 0x19]⟩⟩ 0 = .ok (.putfield 281, 3) := by decide +kernel
theorem eb_901 : opK [0xb5, 0x01, 0x1c] = true ∧ decode ⟨⟨[0xb5, 0x01, 0x1c]⟩⟩ 0 = .ok (.putfield 284, 3) := by decide +kernel
theorem eb_902 : opK [0xb5, 0x01, 0x25] = true ∧ decode ⟨⟨[0xb5, 0x01, 0x25]⟩⟩ 0 = .ok (.putfield 293, 3) := by decide +kernel
theorem eb_903 : opK [0x11, 0x01, 0x74] = true ∧ decode ⟨⟨[0x11, 0x01, 0x74]⟩⟩ 0 = .ok (.sipush 372, 3) := by decide +kernel
theorem eb_904 : opK [0xb5, 0x01, 0x28] = true ∧ decode ⟨⟨[0xb5, 0x01, 0x28]⟩⟩ 0 = .ok (.putfield 296, 3) := by decide +kernel
theorem eb_905 : opK [0xb5, 0x01, 0x2b] = true ∧ decode ⟨⟨[0xb5, 0x01, 0x2b]⟩⟩ 0 = .ok (.putfield 299, 3) := by decide +kernel
theorem eb_906 : opK [0xb5, 0x01, 0x2e] = true ∧ decode ⟨⟨[0xb5, 0x01, 0x2e]⟩⟩ 0 = .ok (.putfield 302, 3) := by decide +kernel
theorem eb_907 : opK [0xb5, 0x01, 0x31] = true ∧ decode ⟨⟨[0xb5, 0x01, 0x31]⟩⟩ 0 = .ok (.putfield 305, 3) := by decide +kernel
theorem eb_908 : opK [0xb5, 0x01, 0x34] = true ∧ decode ⟨⟨[0xb5, 0x01, 0x34]⟩⟩ 0 = .ok (.putfield 308, 3) := by decide +kernel
theorem eb_909 : opK [0xb5, 0x01, 0x37] = true ∧ decode ⟨⟨[0xb5, 0x01, 0x37]⟩⟩ 0 = .ok (.putfield 311, 3) := by decide +kernel
theorem eb_910 : opK [0xb5, 0x01, 0x3a] = true ∧ decode ⟨⟨[0xb5, 0x01, 0x3a]⟩⟩ 0 = .ok (.putfield 314, 3) := by decide +kernel
theorem eb_911 : opK [0xb5, 0x01, 0x3d] = true ∧ decode ⟨⟨[0xb5, 0x01, 0x3d]⟩⟩ 0 = .ok (.putfield 317, 3) := by decide +kernel
theorem eb_912 : opK [0xb4, 0x00, 0xd0] = true ∧ decode ⟨⟨[0xb4, 0x00, 0xd0]⟩⟩ 0 = .ok (.getfield 208, 3) := by decide +kernel
theorem eb_913 : opK [0xb8, 0x01, 0x43] = true ∧ decode ⟨⟨[0xb8, 0x01, 0x43]⟩⟩ 0 = .ok (.invokestatic 323, 3) := by decide +kernel
theorem eb_914 : opK [0xb8, 0x01, 0x47] = true ∧ decode ⟨⟨[0xb8, 0x01, 0x47]⟩⟩ 0 = .ok (.invokestatic 327, 3) := by decide +kernel
theorem eb_915 : opK [0xb4, 0x01, 0x4b] = true ∧ decode ⟨⟨[0xb4, 0x01, 0x4b]⟩⟩ 0 = .ok (.getfield 331, 3) := by decide +kernel
theorem eb_916 : opK [0xb4, 0x00, 0x0d] = true ∧ decode ⟨⟨[0xb4, 0x00, 0x0d]⟩⟩ 0 = .ok (.getfield 13, 3) := by decide +kernel
theorem eb_917 : opK [0xb4, 0x00, 0x10] = true ∧ decode ⟨⟨[0xb4, 0x00, 0x10]⟩⟩ 0 = .ok (.getfield 16, 3) := by decide +kernel
theorem eb_918 : opK [0xb5, 0x01, 0x4b] = true ∧ decode ⟨⟨[0xb5, 0x01, 0x4b]⟩⟩ 0 = .ok (.putfield 331, 3) := by decide +kernel
theorem eb_919 : opK [0x13, 0x01, 0x4e] = true ∧ decode ⟨⟨[0x13, 0x01, 0x4e]⟩⟩ 0 = .ok (.ldc_w 334, 3) := by decide +kernel
theorem eb_920 : opK [0x99, 0x00, 0x8e] = true ∧ decode ⟨⟨[0x99, 0x00, 0x8e]⟩⟩ 0 = .ok (.ifCond .eq 142, 3) := by decide +kernel
theorem eb_921 : opK [0xa2, 0x00, 0x7d] = true ∧ decode ⟨⟨[0xa2, 0x00, 0x7d]⟩⟩ 0 = .ok (.if_icmp .ge 125, 3) := by decide +kernel
theorem eb_922 : opK [0xa7, 0xff, 0x80] = true ∧ decode ⟨⟨[0xa7, 0xff, 0x80]⟩⟩ 0 = .ok (.goto (-128), 3) := by decide +kernel
theorem eb_923 : opK [0xa7, 0xff, 0x74] = true ∧ decode ⟨⟨[0xa7, 0xff, 0x74]⟩⟩ 0 = .ok (.goto (-140), 3) := by decide +kernel
theorem eb_924 : opK [0xa7, 0x00, 0x09] = true ∧ decode ⟨⟨[0xa7, 0x00, 0x09]⟩⟩ 0 = .ok (.goto 9, 3) := by decide +kernel
theorem eb_925 : opK [0xb6, 0x01, 0x4f] = true ∧ decode ⟨⟨[0xb6, 0x01, 0x4f]⟩⟩ 0 = .ok (.invokevirtual 335, 3) := by decide +kernel
theorem eb_926 : opK [0xb4, 0x01, 0x53] = true ∧ decode ⟨⟨[0xb4, 0x01, 0x53]⟩⟩ 0 = .ok (.getfield 339, 3) := by decide +kernel
theorem eb_927 : opK [0x99, 0x00, 0x1d] = true ∧ decode ⟨⟨[0x99, 0x00, 0x1d]⟩⟩ 0 = .ok (.ifCond .eq 29, 3) := by decide +kernel
theorem eb_928 : opK [0xb4, 0x01, 0x56] = true ∧ decode ⟨⟨[0xb4, 0x01, 0x56]⟩⟩ 0 = .ok (.getfield 342, 3) := by decide +kernel
theorem eb_929 : opK [0xb5, 0x01, 0x53] = true ∧ decode ⟨⟨[0xb5, 0x01, 0x53]⟩⟩ 0 = .ok (.putfield 339, 3) := by decide +kernel
theorem eb_930 : opK [0xb6, 0x01, 0x59] = true ∧ decode ⟨⟨[0xb6, 0x01, 0x59]⟩⟩ 0 = .ok (.invokevirtual 345, 3) := by decide +kernel
theorem eb_931 : opK [0xb4, 0x01, 0x5c] = true ∧ decode ⟨⟨[0xb4, 0x01, 0x5c]⟩⟩ 0 = .ok (.getfield 348, 3) := by decide +kernel
theorem eb_932 : opK [0xb4, 0x00, 0x4b] = true ∧ decode ⟨⟨[0xb4, 0x00, 0x4b]⟩⟩ 0 = .ok (.getfield 75, 3) := by decide +kernel
theorem eb_933 : opK [0xb4, 0x00, 0x4e] = true ∧ decode ⟨⟨[0xb4, 0x00, 0x4e]⟩⟩ 0 = .ok (.getfield 78, 3) := by decide +kernel
theorem eb_934 : opK [0xb4, 0x00, 0x51] = true ∧ decode ⟨⟨[0xb4, 0x00, 0x51]⟩⟩ 0 = .ok (.getfield 81, 3) := by decide +kernel
theorem eb_935 : opK [0xb5, 0x01, 0x5c] = true ∧ decode ⟨⟨[0xb5, 0x01, 0x5c]⟩⟩ 0 = .ok (.putfield 348, 3) := by decide +kernel
theorem eb_936 : opK [0xa3, 0x00, 0x2c] = true ∧ decode ⟨⟨[0xa3, 0x00, 0x2c]⟩⟩ 0 = .ok (.if_icmp .gt 44, 3) := by decide +kernel
theorem eb_937 : opK [0xa1, 0x00, 0x15] = true ∧ decode ⟨⟨[0xa1, 0x00, 0x15]⟩⟩ 0 = .ok (.if_icmp .lt 21, 3) := by decide +kernel
theorem eb_938 : opK [0xb6, 0x01, 0x5f] = true ∧ decode ⟨⟨[0xb6, 0x01, 0x5f]⟩⟩ 0 = .ok (.invokevirtual 351, 3) := by decide +kernel
theorem eb_939 : opK [0xb6, 0x01, 0x62] = true ∧ decode ⟨⟨[0xb6, 0x01, 0x62]⟩⟩ 0 = .ok (.invokevirtual 354, 3) := by decide +kernel
theorem eb_940 : opK [0xa7, 0x00, 0x26] = true ∧ decode ⟨⟨[0xa7, 0x00, 0x26]⟩⟩ 0 = .ok (.goto 38, 3) := by decide +kernel
theorem eb_941 : opK [0xa7, 0x00, 0x1b] = true ∧ decode ⟨⟨[0xa7, 0x00, 0x1b]⟩⟩ 0 = .ok (.goto 27, 3) := by decide +kernel
theorem eb_942 : opK [0xb8, 0x01, 0x66] = true ∧ decode ⟨⟨[0xb8, 0x01, 0x66]⟩⟩ 0 = .ok (.invokestatic 358, 3) := by decide +kernel
theorem eb_943 : opK [0xb4, 0x01, 0x6a] = true ∧ decode ⟨⟨[0xb4, 0x01, 0x6a]⟩⟩ 0 = .ok (.getfield 362, 3) := by decide +kernel
theorem eb_944 : opK [0xb4, 0x00, 0x57] = true ∧ decode ⟨⟨[0xb4, 0x00, 0x57]⟩⟩ 0 = .ok (.getfield 87, 3) := by decide +kernel
theorem eb_945 : opK [0xb5, 0x01, 0x6a] = true ∧ decode ⟨⟨[0xb5, 0x01, 0x6a]⟩⟩ 0 = .ok (.putfield 362, 3) := by decide +kernel
theorem eb_946 : opK [0xa7, 0xff, 0xce] = true ∧ decode ⟨⟨[0xa7, 0xff, 0xce]⟩⟩ 0 = .ok (.goto (-50), 3) := by decide +kernel
theorem eb_947 : opK [0x9b, 0x00, 0x0b] = true ∧ decode ⟨⟨[0x9b, 0x00, 0x0b]⟩⟩ 0 = .ok (.ifCond .lt 11, 3) := by decide +kernel
theorem eb_948 : opK [0xb4, 0x01, 0x6d] = true ∧ decode ⟨⟨[0xb4, 0x01, 0x6d]⟩⟩ 0 = .ok (.getfield 365, 3) := by decide +kernel
theorem eb_949 : opK [0xb5, 0x01, 0x6d] = true ∧ decode ⟨⟨[0xb5, 0x01, 0x6d]⟩⟩ 0 = .ok (.putfield 365, 3) := by decide +kernel
theorem eb_950 : opK [0xb4, 0x01, 0x70] = true ∧ decode ⟨⟨[0xb4, 0x01, 0x70]⟩⟩ 0 = .ok (.getfield 368, 3) := by decide +kernel
theorem eb_951 : opK [0xb5, 0x01, 0x70] = true ∧ decode ⟨⟨[0xb5, 0x01, 0x70]⟩⟩ 0 = .ok (.putfield 368, 3) := by decide +kernel
theorem eb_952 : opK [0xb4, 0x00, 0x5a] = true ∧ decode ⟨⟨[0xb4, 0x00, 0x5a]⟩⟩ 0 = .ok (.getfield 90, 3) := by decide +kernel
theorem eb_953 : opK [0xb4, 0x01, 0x73] = true ∧ decode ⟨⟨[0xb4, 0x01, 0x73]⟩⟩ 0 = .ok (.getfield 371, 3) := by decide +kernel
theorem eb_954 : opK [0xb5, 0x01, 0x73] = true ∧ decode ⟨⟨[0xb5, 0x01, 0x73]⟩⟩ 0 = .ok (.putfield 371, 3) := by decide +kernel
theorem eb_955 : opK [0xb6, 0x01, 0x76] = true ∧ decode ⟨⟨[0xb6, 0x01, 0x76]⟩⟩ 0 = .ok (.invokevirtual 374, 3) := by decide +kernel
theorem eb_956 : opK [0xb8, 0x01, 0x7a] = true ∧ decode ⟨⟨[0xb8, 0x01, 0x7a]⟩⟩ 0 = .ok (.invokestatic 378, 3) := by decide +kernel
theorem eb_957 : opK [0x9a, 0x00, 0x09] = true ∧ decode ⟨⟨[0x9a, 0x00, 0x09]⟩⟩ 0 = .ok (.ifCond .ne 9, 3) := by decide +kernel
theorem eb_958 : opK [0xb6, 0x01, 0x7d] = true ∧ decode ⟨⟨[0xb6, 0x01, 0x7d]⟩⟩ 0 = .ok (.invokevirtual 381, 3) := by decide +kernel
theorem eb_959 : opK [0xb6, 0x01, 0x80] = true ∧ decode ⟨⟨[0xb6, 0x01, 0x80]⟩⟩ 0 = .ok (.invokevirtual 384, 3) := by decide +kernel
theorem eb_960 : opK [0x10, 0x67] = true ∧ decode ⟨⟨[0x10, 0x67]⟩⟩ 0 = .ok (.bipush 103, 2) := by decide +kernel
theorem eb_961 : opK [0xa0, 0x00, 0x20] = true ∧ decode ⟨⟨[0xa0, 0x00, 0x20]⟩⟩ 0 = .ok (.if_icmp .ne 32, 3) := by decide +kernel
theorem eb_962 : opK [0xb6, 0x01, 0x86] = true ∧ decode ⟨⟨[0xb6, 0x01, 0x86]⟩⟩ 0 = .ok (.invokevirtual 390, 3) := by decide +kernel
theorem eb_963 : opK [0xb6, 0x01, 0x8a] = true ∧ decode ⟨⟨[0xb6, 0x01, 0x8a]⟩⟩ 0 = .ok (.invokevirtual 394, 3) := by decide +kernel
theorem eb_964 : opK [0xa7, 0x00, 0xe9] = true ∧ decode ⟨⟨[0xa7, 0x00, 0xe9]⟩⟩ 0 = .ok (.goto 233, 3) := by decide +kernel
theorem eb_965 : opK [0x10, 0x77] = true ∧ decode ⟨⟨[0x10, 0x77]⟩⟩ 0 = .ok (.bipush 119, 2) := by decide +kernel
theorem eb_966 : opK [0xa7, 0x00, 0xc5] = true ∧ decode ⟨⟨[0xa7, 0x00, 0xc5]⟩⟩ 0 = .ok (.goto 197, 3) := by decide +kernel
theorem eb_967 : opK [0x10, 0x70] = true ∧ decode ⟨⟨[0x10, 0x70]⟩⟩ 0 = .ok (.bipush 112, 2) := by decide +kernel
theorem eb_968 : opK [0xa0, 0x00, 0x34] = true ∧ decode ⟨⟨[0xa0, 0x00, 0x34]⟩⟩ 0 = .ok (.if_icmp .ne 52, 3) := by decide +kernel
theorem eb_969 : opK [0xa0, 0x00, 0x9d] = true ∧ decode ⟨⟨[0xa0, 0x00, 0x9d]⟩⟩ 0 = .ok (.if_icmp .ne 157, 3) := by decide +kernel
theorem eb_970 : opK [0xa7, 0x00, 0x8e] = true ∧ decode ⟨⟨[0xa7, 0x00, 0x8e]⟩⟩ 0 = .ok (.goto 142, 3) := by decide +kernel
theorem eb_971 : opK [0x10, 0x6c] = true ∧ decode ⟨⟨[0x10, 0x6c]⟩⟩ 0 = .ok (.bipush 108, 2) := by decide +kernel
theorem eb_972 : opK [0xa7, 0x00, 0x76] = true ∧ decode ⟨⟨[0xa7, 0x00, 0x76]⟩⟩ 0 = .ok (.goto 118, 3) := by decide +kernel
theorem eb_973 : opK [0xa0, 0x00, 0x6c] = true ∧ decode ⟨⟨[0xa0, 0x00, 0x6c]⟩⟩ 0 = .ok (.if_icmp .ne 108, 3) := by decide +kernel
theorem eb_974 : opK [0xb4, 0x01, 0x8d] = true ∧ decode ⟨⟨[0xb4, 0x01, 0x8d]⟩⟩ 0 = .ok (.getfield 397, 3) := by decide +kernel
theorem eb_975 : opK [0xa2, 0x00, 0x64] = true ∧ decode ⟨⟨[0xa2, 0x00, 0x64]⟩⟩ 0 = .ok (.if_icmp .ge 100, 3) := by decide +kernel
theorem eb_976 : opK [0xb5, 0x01, 0x8d] = true ∧ decode ⟨⟨[0xb5, 0x01, 0x8d]⟩⟩ 0 = .ok (.putfield 397, 3) := by decide +kernel
theorem eb_977 : opK [0xb6, 0x01, 0x90] = true ∧ decode ⟨⟨[0xb6, 0x01, 0x90]⟩⟩ 0 = .ok (.invokevirtual 400, 3) := by decide +kernel
theorem eb_978 : opK [0xb5, 0x01, 0x93] = true ∧ decode ⟨⟨[0xb5, 0x01, 0x93]⟩⟩ 0 = .ok (.putfield 403, 3) := by decide +kernel
theorem eb_979 : opK [0xb4, 0x01, 0x93] = true ∧ decode ⟨⟨[0xb4, 0x01, 0x93]⟩⟩ 0 = .ok (.getfield 403, 3) := by decide +kernel
theorem eb_980 : opK [0xa2, 0x00, 0xfe] = true ∧ decode ⟨⟨[0xa2, 0x00, 0xfe]⟩⟩ 0 = .ok (.if_icmp .ge 254, 3) := by decide +kernel
theorem eb_981 : opK [0x9f, 0x00, 0xf1] = true ∧ decode ⟨⟨[0x9f, 0x00, 0xf1]⟩⟩ 0 = .ok (.if_icmp .eq 241, 3) := by decide +kernel
theorem eb_982 : opK [0xa0, 0x00, 0x4f] = true ∧ decode ⟨⟨[0xa0, 0x00, 0x4f]⟩⟩ 0 = .ok (.if_icmp .ne 79, 3) := by decide +kernel
theorem eb_983 : opK [0xb6, 0x01, 0x96] = true ∧ decode ⟨⟨[0xb6, 0x01, 0x96]⟩⟩ 0 = .ok (.invokevirtual 406, 3) := by decide +kernel
theorem eb_984 : opK [0xa7, 0xff, 0xea] = true ∧ decode ⟨⟨[0xa7, 0xff, 0xea]⟩⟩ 0 = .ok (.goto (-22), 3) := by decide +kernel
theorem eb_985 : opK [0xa7, 0xff, 0x90] = true ∧ decode ⟨⟨[0xa7, 0xff, 0x90]⟩⟩ 0 = .ok (.goto (-112), 3) := by decide +kernel
theorem eb_986 : opK [0xb4, 0x01, 0x9a] = true ∧ decode ⟨⟨[0xb4, 0x01, 0x9a]⟩⟩ 0 = .ok (.getfield 410, 3) := by decide +kernel
theorem eb_987 : opK [0xb4, 0x01, 0x9d] = true ∧ decode ⟨⟨[0xb4, 0x01, 0x9d]⟩⟩ 0 = .ok (.getfield 413, 3) := by decide +kernel
theorem eb_988 : opK [0x99, 0x00, 0x41] = true ∧ decode ⟨⟨[0x99, 0x00, 0x41]⟩⟩ 0 = .ok (.ifCond .eq 65, 3) := by decide +kernel
theorem eb_989 : opK [0xb4, 0x00, 0x60] = true ∧ decode ⟨⟨[0xb4, 0x00, 0x60]⟩⟩ 0 = .ok (.getfield 96, 3) := by decide +kernel
theorem eb_990 : opK [0xb4, 0x00, 0x63] = true ∧ decode ⟨⟨[0xb4, 0x00, 0x63]⟩⟩ 0 = .ok (.getfield 99, 3) := by decide +kernel
theorem eb_991 : opK [0xa7, 0x00, 0x0e] = true ∧ decode ⟨⟨[0xa7, 0x00, 0x0e]⟩⟩ 0 = .ok (.goto 14, 3) := by decide +kernel
theorem eb_992 : opK [0xb4, 0x00, 0x66] = true ∧ decode ⟨⟨[0xb4, 0x00, 0x66]⟩⟩ 0 = .ok (.getfield 102, 3) := by decide +kernel
theorem eb_993 : opK [0xa0, 0x00, 0x11] = true ∧ decode ⟨⟨[0xa0, 0x00, 0x11]⟩⟩ 0 = .ok (.if_icmp .ne 17, 3) := by decide +kernel
theorem eb_994 : opK [0xb5, 0x01, 0x9a] = true ∧ decode ⟨⟨[0xb5, 0x01, 0x9a]⟩⟩ 0 = .ok (.putfield 410, 3) := by decide +kernel
theorem eb_995 : opK [0xa7, 0xfe, 0xfd] = true ∧ decode ⟨⟨[0xa7, 0xfe, 0xfd]⟩⟩ 0 = .ok (.goto (-259), 3) := by decide +kernel
theorem eb_996 : opK [0xb4, 0x00, 0x5d] = true ∧ decode ⟨⟨[0xb4, 0x00, 0x5d]⟩⟩ 0 = .ok (.getfield 93, 3) := by decide +kernel
theorem eb_997 : opK [0xb5, 0x01, 0x9d] = true ∧ decode ⟨⟨[0xb5, 0x01, 0x9d]⟩⟩ 0 = .ok (.putfield 413, 3) := by decide +kernel
theorem eb_998 : opK [0xb6, 0x01, 0xa4] = true ∧ decode ⟨⟨[0xb6, 0x01, 0xa4]⟩⟩ 0 = .ok (.invokevirtual 420, 3) := by decide +kernel
theorem eb_999 : opK [0xa0, 0x00, 0x17] = true ∧ decode ⟨⟨[0xa0, 0x00, 0x17]⟩⟩ 0 = .ok (.if_icmp .ne 23, 3) := by decide +kernel
theorem eb_1000 : opK [0xb6, 0x01, 0xab] = true ∧ decode ⟨⟨[0xb6, 0x01, 0xab]⟩⟩ 0 = .ok (.invokevirtual 427, 3) := by decide +kernel
theorem eb_1001 : opK [0xa7, 0x00, 0x34] = true ∧ decode ⟨⟨[0xa7, 0x00, 0x34]⟩⟩ 0 = .ok (.goto 52, 3) := by decide +kernel
theorem eb_1002 : opK [0xb4, 0x01, 0xb1] = true ∧ decode ⟨⟨[0xb4, 0x01, 0xb1]⟩⟩ 0 = .ok (.getfield 433, 3) := by decide +kernel
theorem eb_1003 : opK [0xb8, 0x01, 0xb4] = true ∧ decode ⟨⟨[0xb8, 0x01, 0xb4]⟩⟩ 0 = .ok (.invokestatic 436, 3) := by decide +kernel
theorem eb_1004 : opK [0xb6, 0x01, 0xb8] = true ∧ decode ⟨⟨[0xb6, 0x01, 0xb8]⟩⟩ 0 = .ok (.invokevirtual 440, 3) := by decide +kernel
theorem eb_1005 : opK [0xb6, 0x01, 0xbb] = true ∧ decode ⟨⟨[0xb6, 0x01, 0xbb]⟩⟩ 0 = .ok (.invokevirtual 443, 3) := by decide +kernel
theorem eb_1006 : opK [0xa0, 0x00, 0x2a] = true ∧ decode ⟨⟨[0xa0, 0x00, 0x2a]⟩⟩ 0 = .ok (.if_icmp .ne 42, 3) := by decide +kernel
theorem eb_1007 : opK [0xa7, 0xff, 0xd4] = true ∧ decode ⟨⟨[0xa7, 0xff, 0xd4]⟩⟩ 0 = .ok (.goto (-44), 3) := by decide +kernel
theorem eb_1008 : opK [0xb8, 0x01, 0xbe] = true ∧ decode ⟨⟨[0xb8, 0x01, 0xbe]⟩⟩ 0 = .ok (.invokestatic 446, 3) := by decide +kernel
theorem eb_1009 : opK [0x99, 0x00, 0x3d] = true ∧ decode ⟨⟨[0x99, 0x00, 0x3d]⟩⟩ 0 = .ok (.ifCond .eq 61, 3) := by decide +kernel
theorem eb_1010 : opK [0xb6, 0x01, 0xc1] = true ∧ decode ⟨⟨[0xb6, 0x01, 0xc1]⟩⟩ 0 = .ok (.invokevirtual 449, 3) := by decide +kernel
theorem eb_1011 : opK [0xb6, 0x01, 0xc4] = true ∧ decode ⟨⟨[0xb6, 0x01, 0xc4]⟩⟩ 0 = .ok (.invokevirtual 452, 3) := by decide +kernel
theorem eb_1012 : opK [0xb6, 0x01, 0xc8] = true ∧ decode ⟨⟨[0xb6, 0x01, 0xc8]⟩⟩ 0 = .ok (.invokevirtual 456, 3) := by decide +kernel
theorem eb_1013 : opK [0xb6, 0x01, 0xcb] = true ∧ decode ⟨⟨[0xb6, 0x01, 0xcb]⟩⟩ 0 = .ok (.invokevirtual 459, 3) := by decide +kernel
theorem eb_1014 : opK [0xa0, 0x00, 0x6f] = true ∧ decode ⟨⟨[0xa0, 0x00, 0x6f]⟩⟩ 0 = .ok (.if_icmp .ne 111, 3) := by decide +kernel
theorem eb_1015 : opK [0xb6, 0x01, 0xce] = true ∧ decode ⟨⟨[0xb6, 0x01, 0xce]⟩⟩ 0 = .ok (.invokevirtual 462, 3) := by decide +kernel
theorem eb_1016 : opK [0x9f, 0x00, 0x04] = true ∧ decode ⟨⟨[0x9f, 0x00, 0x04]⟩⟩ 0 = .ok (.if_icmp .eq 4, 3) := by decide +kernel
theorem eb_1017 : opK [0x10, 0x78] = true ∧ decode ⟨⟨[0x10, 0x78]⟩⟩ 0 = .ok (.bipush 120, 2) := by decide +kernel
theorem eb_1018 : opK [0x9f, 0x00, 0x1a] = true ∧ decode ⟨⟨[0x9f, 0x00, 0x1a]⟩⟩ 0 = .ok (.if_icmp .eq 26, 3) := by decide +kernel
theorem eb_1019 : opK [0x10, 0x6e] = true ∧ decode ⟨⟨[0x10, 0x6e]⟩⟩ 0 = .ok (.bipush 110, 2) := by decide +kernel
theorem eb_1020 : opK [0x9f, 0x00, 0x14] = true ∧ decode ⟨⟨[0x9f, 0x00, 0x14]⟩⟩ 0 = .ok (.if_icmp .eq 20, 3) := by decide +kernel
theorem eb_1021 : opK [0x10, 0x72] = true ∧ decode ⟨⟨[0x10, 0x72]⟩⟩ 0 = .ok (.bipush 114, 2) := by decide +kernel
theorem eb_1022 : opK [0x10, 0x74] = true ∧ decode ⟨⟨[0x10, 0x74]⟩⟩ 0 = .ok (.bipush 116, 2) := by decide +kernel
theorem eb_1023 : opK [0xa7, 0x00, 0x18] = true ∧ decode ⟨⟨[0xa7, 0x00, 0x18]⟩⟩ 0 = .ok (.goto 24, 3) := by decide +kernel
theorem eb_1024 : opK [0x99, 0x00, 0x6c] = true ∧ decode ⟨⟨[0x99, 0x00, 0x6c]⟩⟩ 0 = .ok (.ifCond .eq 108, 3) := by decide +kernel
theorem eb_1025 : opK [0x9a, 0x00, 0x50] = true ∧ decode ⟨⟨[0x9a, 0x00, 0x50]⟩⟩ 0 = .ok (.ifCond .ne 80, 3) := by decide +kernel
theorem eb_1026 : opK [0xa1, 0x00, 0x19] = true ∧ decode ⟨⟨[0xa1, 0x00, 0x19]⟩⟩ 0 = .ok (.if_icmp .lt 25, 3) := by decide +kernel
theorem eb_1027 : opK [0xb5, 0x01, 0xb1] = true ∧ decode ⟨⟨[0xb5, 0x01, 0xb1]⟩⟩ 0 = .ok (.putfield 433, 3) := by decide +kernel
theorem eb_1028 : opK [0x9a, 0x00, 0x0a] = true ∧ decode ⟨⟨[0x9a, 0x00, 0x0a]⟩⟩ 0 = .ok (.ifCond .ne 10, 3) := by decide +kernel
theorem eb_1029 : opK [0xa7, 0x00, 0x29] = true ∧ decode ⟨⟨[0xa7, 0x00, 0x29]⟩⟩ 0 = .ok (.goto 41, 3) := by decide +kernel
theorem eb_1030 : opK [0xb6, 0x01, 0xd1] = true ∧ decode ⟨⟨[0xb6, 0x01, 0xd1]⟩⟩ 0 = .ok (.invokevirtual 465, 3) := by decide +kernel
theorem eb_1031 : opK [0xb4, 0x00, 0x75] = true ∧ decode ⟨⟨[0xb4, 0x00, 0x75]⟩⟩ 0 = .ok (.getfield 117, 3) := by decide +kernel
theorem eb_1032 : opK [0xb4, 0x00, 0x69] = true ∧ decode ⟨⟨[0xb4, 0x00, 0x69]⟩⟩ 0 = .ok (.getfield 105, 3) := by decide +kernel
theorem eb_1033 : opK [0xb4, 0x00, 0x6c] = true ∧ decode ⟨⟨[0xb4, 0x00, 0x6c]⟩⟩ 0 = .ok (.getfield 108, 3) := by decide +kernel
theorem eb_1034 : opK [0xb4, 0x00, 0x6f] = true ∧ decode ⟨⟨[0xb4, 0x00, 0x6f]⟩⟩ 0 = .ok (.getfield 111, 3) := by decide +kernel
theorem eb_1035 : opK [0xb4, 0x00, 0x72] = true ∧ decode ⟨⟨[0xb4, 0x00, 0x72]⟩⟩ 0 = .ok (.getfield 114, 3) := by decide +kernel
theorem eb_1036 : opK [0xb6, 0x01, 0xd4] = true ∧ decode ⟨⟨[0xb6, 0x01, 0xd4]⟩⟩ 0 = .ok (.invokevirtual 468, 3) := by decide +kernel
theorem eb_1037 : opK [0xa3, 0x00, 0x2e] = true ∧ decode ⟨⟨[0xa3, 0x00, 0x2e]⟩⟩ 0 = .ok (.if_icmp .gt 46, 3) := by decide +kernel
theorem eb_1038 : opK [0xa3, 0x00, 0x23] = true ∧ decode ⟨⟨[0xa3, 0x00, 0x23]⟩⟩ 0 = .ok (.if_icmp .gt 35, 3) := by decide +kernel
theorem eb_1039 : opK [0xa7, 0xff, 0xb3] = true ∧ decode ⟨⟨[0xa7, 0xff, 0xb3]⟩⟩ 0 = .ok (.goto (-77), 3) := by decide +kernel
theorem eb_1040 : opK [0xb6, 0x01, 0xd7] = true ∧ decode ⟨⟨[0xb6, 0x01, 0xd7]⟩⟩ 0 = .ok (.invokevirtual 471, 3) := by decide +kernel
theorem eb_1041 : opK [0xb8, 0x01, 0xde] = true ∧ decode ⟨⟨[0xb8, 0x01, 0xde]⟩⟩ 0 = .ok (.invokestatic 478, 3) := by decide +kernel
theorem eb_1042 : opK [0xb8, 0x01, 0xe4] = true ∧ decode ⟨⟨[0xb8, 0x01, 0xe4]⟩⟩ 0 = .ok (.invokestatic 484, 3) := by decide +kernel
theorem eb_1043 : opK [0xb8, 0x01, 0xe7] = true ∧ decode ⟨⟨[0xb8, 0x01, 0xe7]⟩⟩ 0 = .ok (.invokestatic 487, 3) := by decide +kernel
theorem eb_1044 : opK [0xb4, 0x01, 0xeb] = true ∧ decode ⟨⟨[0xb4, 0x01, 0xeb]⟩⟩ 0 = .ok (.getfield 491, 3) := by decide +kernel
theorem eb_1045 : opK [0x9f, 0x00, 0xa2] = true ∧ decode ⟨⟨[0x9f, 0x00, 0xa2]⟩⟩ 0 = .ok (.if_icmp .eq 162, 3) := by decide +kernel
theorem eb_1046 : opK [0x9f, 0x00, 0x95] = true ∧ decode ⟨⟨[0x9f, 0x00, 0x95]⟩⟩ 0 = .ok (.if_icmp .eq 149, 3) := by decide +kernel
theorem eb_1047 : opK [0xb5, 0x01, 0xeb] = true ∧ decode ⟨⟨[0xb5, 0x01, 0xeb]⟩⟩ 0 = .ok (.putfield 491, 3) := by decide +kernel
theorem eb_1048 : opK [0xb4, 0x00, 0x7b] = true ∧ decode ⟨⟨[0xb4, 0x00, 0x7b]⟩⟩ 0 = .ok (.getfield 123, 3) := by decide +kernel
theorem eb_1049 : opK [0xa7, 0x00, 0x11] = true ∧ decode ⟨⟨[0xa7, 0x00, 0x11]⟩⟩ 0 = .ok (.goto 17, 3) := by decide +kernel
theorem eb_1050 : opK [0xb4, 0x00, 0x78] = true ∧ decode ⟨⟨[0xb4, 0x00, 0x78]⟩⟩ 0 = .ok (.getfield 120, 3) := by decide +kernel
theorem eb_1051 : opK [0xa7, 0x00, 0x41] = true ∧ decode ⟨⟨[0xa7, 0x00, 0x41]⟩⟩ 0 = .ok (.goto 65, 3) := by decide +kernel
theorem eb_1052 : opK [0x84, 0x01, 0xff] = true ∧ decode ⟨⟨[0x84, 0x01, 0xff]⟩⟩ 0 = .ok (.iinc 1 (-1), 3) := by decide +kernel
theorem eb_1053 : opK [0xb8, 0x01, 0xee] = true ∧ decode ⟨⟨[0xb8, 0x01, 0xee]⟩⟩ 0 = .ok (.invokestatic 494, 3) := by decide +kernel
theorem eb_1054 : opK [0xa7, 0xff, 0x57] = true ∧ decode ⟨⟨[0xa7, 0xff, 0x57]⟩⟩ 0 = .ok (.goto (-169), 3) := by decide +kernel
theorem eb_1055 : opK [0xb6, 0x01, 0xf1] = true ∧ decode ⟨⟨[0xb6, 0x01, 0xf1]⟩⟩ 0 = .ok (.invokevirtual 497, 3) := by decide +kernel
theorem eb_1056 : opK [0xb4, 0x00, 0x8a] = true ∧ decode ⟨⟨[0xb4, 0x00, 0x8a]⟩⟩ 0 = .ok (.getfield 138, 3) := by decide +kernel
theorem eb_1057 : opK [0xb4, 0x00, 0x8d] = true ∧ decode ⟨⟨[0xb4, 0x00, 0x8d]⟩⟩ 0 = .ok (.getfield 141, 3) := by decide +kernel
theorem eb_1058 : opK [0xa2, 0x00, 0x39] = true ∧ decode ⟨⟨[0xa2, 0x00, 0x39]⟩⟩ 0 = .ok (.if_icmp .ge 57, 3) := by decide +kernel
theorem eb_1059 : opK [0xb4, 0x00, 0x87] = true ∧ decode ⟨⟨[0xb4, 0x00, 0x87]⟩⟩ 0 = .ok (.getfield 135, 3) := by decide +kernel
theorem eb_1060 : opK [0xa0, 0x00, 0x0e] = true ∧ decode ⟨⟨[0xa0, 0x00, 0x0e]⟩⟩ 0 = .ok (.if_icmp .ne 14, 3) := by decide +kernel
theorem eb_1061 : opK [0xb6, 0x01, 0xf4] = true ∧ decode ⟨⟨[0xb6, 0x01, 0xf4]⟩⟩ 0 = .ok (.invokevirtual 500, 3) := by decide +kernel
theorem eb_1062 : opK [0xa7, 0xff, 0xbe] = true ∧ decode ⟨⟨[0xa7, 0xff, 0xbe]⟩⟩ 0 = .ok (.goto (-66), 3) := by decide +kernel
theorem eb_1063 : opK [0xa3, 0x00, 0x05] = true ∧ decode ⟨⟨[0xa3, 0x00, 0x05]⟩⟩ 0 = .ok (.if_icmp .gt 5, 3) := by decide +kernel
theorem eb_1064 : opK [0xb4, 0x00, 0x93] = true ∧ decode ⟨⟨[0xb4, 0x00, 0x93]⟩⟩ 0 = .ok (.getfield 147, 3) := by decide +kernel
theorem eb_1065 : opK [0xb4, 0x00, 0x99] = true ∧ decode ⟨⟨[0xb4, 0x00, 0x99]⟩⟩ 0 = .ok (.getfield 153, 3) := by decide +kernel
theorem eb_1066 : opK [0xb4, 0x00, 0x96] = true ∧ decode ⟨⟨[0xb4, 0x00, 0x96]⟩⟩ 0 = .ok (.getfield 150, 3) := by decide +kernel
theorem eb_1067 : opK [0xb4, 0x01, 0xfb] = true ∧ decode ⟨⟨[0xb4, 0x01, 0xfb]⟩⟩ 0 = .ok (.getfield 507, 3) := by decide +kernel
theorem eb_1068 : opK [0xb4, 0x00, 0x90] = true ∧ decode ⟨⟨[0xb4, 0x00, 0x90]⟩⟩ 0 = .ok (.getfield 144, 3) := by decide +kernel
theorem eb_1069 : opK [0xb4, 0x00, 0x81] = true ∧ decode ⟨⟨[0xb4, 0x00, 0x81]⟩⟩ 0 = .ok (.getfield 129, 3) := by decide +kernel
theorem eb_1070 : opK [0xb4, 0x00, 0x84] = true ∧ decode ⟨⟨[0xb4, 0x00, 0x84]⟩⟩ 0 = .ok (.getfield 132, 3) := by decide +kernel
theorem eb_1071 : opK [0xb5, 0x01, 0xf8] = true ∧ decode ⟨⟨[0xb5, 0x01, 0xf8]⟩⟩ 0 = .ok (.putfield 504, 3) := by decide +kernel
theorem eb_1072 : opK [0xa0, 0x00, 0x12] = true ∧ decode ⟨⟨[0xa0, 0x00, 0x12]⟩⟩ 0 = .ok (.if_icmp .ne 18, 3) := by decide +kernel
theorem eb_1073 : opK [0xb4, 0x02, 0x04] = true ∧ decode ⟨⟨[0xb4, 0x02, 0x04]⟩⟩ 0 = .ok (.getfield 516, 3) := by decide +kernel
theorem eb_1074 : opK [0xb4, 0x00, 0xb2] = true ∧ decode ⟨⟨[0xb4, 0x00, 0xb2]⟩⟩ 0 = .ok (.getfield 178, 3) := by decide +kernel
theorem eb_1075 : opK [0xb4, 0x00, 0xbb] = true ∧ decode ⟨⟨[0xb4, 0x00, 0xbb]⟩⟩ 0 = .ok (.getfield 187, 3) := by decide +kernel
theorem eb_1076 : opK [0xb4, 0x00, 0xc1] = true ∧ decode ⟨⟨[0xb4, 0x00, 0xc1]⟩⟩ 0 = .ok (.getfield 193, 3) := by decide +kernel
theorem eb_1077 : opK [0xb6, 0x02, 0x0a] = true ∧ decode ⟨⟨[0xb6, 0x02, 0x0a]⟩⟩ 0 = .ok (.invokevirtual 522, 3) := by decide +kernel
theorem eb_1078 : opK [0xb4, 0x00, 0x40] = true ∧ decode ⟨⟨[0xb4, 0x00, 0x40]⟩⟩ 0 = .ok (.getfield 64, 3) := by decide +kernel
theorem eb_1079 : opK [0xa0, 0x00, 0xcb] = true ∧ decode ⟨⟨[0xa0, 0x00, 0xcb]⟩⟩ 0 = .ok (.if_icmp .ne 203, 3) := by decide +kernel
theorem eb_1080 : opK [0xa0, 0x00, 0x60] = true ∧ decode ⟨⟨[0xa0, 0x00, 0x60]⟩⟩ 0 = .ok (.if_icmp .ne 96, 3) := by decide +kernel
theorem eb_1081 : opK [0x9e, 0x00, 0x0f] = true ∧ decode ⟨⟨[0x9e, 0x00, 0x0f]⟩⟩ 0 = .ok (.ifCond .le 15, 3) := by decide +kernel
theorem eb_1082 : opK [0xa7, 0x00, 0x17] = true ∧ decode ⟨⟨[0xa7, 0x00, 0x17]⟩⟩ 0 = .ok (.goto 23, 3) := by decide +kernel
theorem eb_1083 : opK [0xb6, 0x02, 0x13] = true ∧ decode ⟨⟨[0xb6, 0x02, 0x13]⟩⟩ 0 = .ok (.invokevirtual 531, 3) := by decide +kernel
theorem eb_1084 : opK [0xa7, 0x00, 0x1e] = true ∧ decode ⟨⟨[0xa7, 0x00, 0x1e]⟩⟩ 0 = .ok (.goto 30, 3) := by decide +kernel
theorem eb_1085 : opK [0xa7, 0xff, 0x31] = true ∧ decode ⟨⟨[0xa7, 0xff, 0x31]⟩⟩ 0 = .ok (.goto (-207), 3) := by decide +kernel
theorem eb_1086 : opK [0x9a, 0x00, 0x13] = true ∧ decode ⟨⟨[0x9a, 0x00, 0x13]⟩⟩ 0 = .ok (.ifCond .ne 19, 3) := by decide +kernel
theorem eb_1087 : opK [0xa2, 0x00, 0x6b] = true ∧ decode ⟨⟨[0xa2, 0x00, 0x6b]⟩⟩ 0 = .ok (.if_icmp .ge 107, 3) := by decide +kernel
theorem eb_1088 : opK [0xa0, 0x00, 0x5b] = true ∧ decode ⟨⟨[0xa0, 0x00, 0x5b]⟩⟩ 0 = .ok (.if_icmp .ne 91, 3) := by decide +kernel
theorem eb_1089 : opK [0xb5, 0x01, 0xfb] = true ∧ decode ⟨⟨[0xb5, 0x01, 0xfb]⟩⟩ 0 = .ok (.putfield 507, 3) := by decide +kernel
theorem eb_1090 : opK [0xa7, 0xff, 0x8b] = true ∧ decode ⟨⟨[0xa7, 0xff, 0x8b]⟩⟩ 0 = .ok (.goto (-117), 3) := by decide +kernel
theorem eb_1091 : opK [0xb6, 0x02, 0x16] = true ∧ decode ⟨⟨[0xb6, 0x02, 0x16]⟩⟩ 0 = .ok (.invokevirtual 534, 3) := by decide +kernel
theorem eb_1092 : opK [0x99, 0x00, 0x3b] = true ∧ decode ⟨⟨[0x99, 0x00, 0x3b]⟩⟩ 0 = .ok (.ifCond .eq 59, 3) := by decide +kernel
theorem eb_1093 : opK [0x99, 0x00, 0x34] = true ∧ decode ⟨⟨[0x99, 0x00, 0x34]⟩⟩ 0 = .ok (.ifCond .eq 52, 3) := by decide +kernel
theorem eb_1094 : opK [0x99, 0x00, 0x26] = true ∧ decode ⟨⟨[0x99, 0x00, 0x26]⟩⟩ 0 = .ok (.ifCond .eq 38, 3) := by decide +kernel
theorem eb_1095 : opK [0x9f, 0x00, 0x17] = true ∧ decode ⟨⟨[0x9f, 0x00, 0x17]⟩⟩ 0 = .ok (.if_icmp .eq 23, 3) := by decide +kernel
theorem eb_1096 : opK [0xb6, 0x02, 0x19] = true ∧ decode ⟨⟨[0xb6, 0x02, 0x19]⟩⟩ 0 = .ok (.invokevirtual 537, 3) := by decide +kernel
theorem eb_1097 : opK [0xb4, 0x00, 0x9c] = true ∧ decode ⟨⟨[0xb4, 0x00, 0x9c]⟩⟩ 0 = .ok (.getfield 156, 3) := by decide +kernel
theorem eb_1098 : opK [0xb6, 0x02, 0x1c] = true ∧ decode ⟨⟨[0xb6, 0x02, 0x1c]⟩⟩ 0 = .ok (.invokevirtual 540, 3) := by decide +kernel
theorem eb_1099 : opK [0xa7, 0x00, 0x58] = true ∧ decode ⟨⟨[0xa7, 0x00, 0x58]⟩⟩ 0 = .ok (.goto 88, 3) := by decide +kernel
theorem eb_1100 : opK [0xa0, 0x00, 0x3e] = true ∧ decode ⟨⟨[0xa0, 0x00, 0x3e]⟩⟩ 0 = .ok (.if_icmp .ne 62, 3) := by decide +kernel
theorem eb_1101 : opK [0x9a, 0x00, 0x0b] = true ∧ decode ⟨⟨[0x9a, 0x00, 0x0b]⟩⟩ 0 = .ok (.ifCond .ne 11, 3) := by decide +kernel
theorem eb_1102 : opK [0xa7, 0x00, 0x42] = true ∧ decode ⟨⟨[0xa7, 0x00, 0x42]⟩⟩ 0 = .ok (.goto 66, 3) := by decide +kernel
theorem eb_1103 : opK [0xa7, 0x00, 0x22] = true ∧ decode ⟨⟨[0xa7, 0x00, 0x22]⟩⟩ 0 = .ok (.goto 34, 3) := by decide +kernel
theorem eb_1104 : opK [0xa7, 0x00, 0x13] = true ∧ decode ⟨⟨[0xa7, 0x00, 0x13]⟩⟩ 0 = .ok (.goto 19, 3) := by decide +kernel
theorem eb_1105 : opK [0xb6, 0x02, 0x1f] = true ∧ decode ⟨⟨[0xb6, 0x02, 0x1f]⟩⟩ 0 = .ok (.invokevirtual 543, 3) := by decide +kernel
theorem eb_1106 : opK [0xb6, 0x02, 0x23] = true ∧ decode ⟨⟨[0xb6, 0x02, 0x23]⟩⟩ 0 = .ok (.invokevirtual 547, 3) := by decide +kernel
theorem eb_1107 : opK [0xa2, 0x00, 0x4e] = true ∧ decode ⟨⟨[0xa2, 0x00, 0x4e]⟩⟩ 0 = .ok (.if_icmp .ge 78, 3) := by decide +kernel
theorem eb_1108 : opK [0xb4, 0x00, 0x47] = true ∧ decode ⟨⟨[0xb4, 0x00, 0x47]⟩⟩ 0 = .ok (.getfield 71, 3) := by decide +kernel
theorem eb_1109 : opK [0x11, 0x4e, 0x21] = true ∧ decode ⟨⟨[0x11, 0x4e, 0x21]⟩⟩ 0 = .ok (.sipush 20001, 3) := by decide +kernel
theorem eb_1110 : opK [0xb5, 0x01, 0x56] = true ∧ decode ⟨⟨[0xb5, 0x01, 0x56]⟩⟩ 0 = .ok (.putfield 342, 3) := by decide +kernel
theorem eb_1111 : opK [0xa2, 0x00, 0x0e] = true ∧ decode ⟨⟨[0xa2, 0x00, 0x0e]⟩⟩ 0 = .ok (.if_icmp .ge 14, 3) := by decide +kernel
theorem eb_1112 : opK [0xb6, 0x02, 0x26] = true ∧ decode ⟨⟨[0xb6, 0x02, 0x26]⟩⟩ 0 = .ok (.invokevirtual 550, 3) := by decide +kernel
theorem eb_1113 : opK [0xa2, 0x00, 0x35] = true ∧ decode ⟨⟨[0xa2, 0x00, 0x35]⟩⟩ 0 = .ok (.if_icmp .ge 53, 3) := by decide +kernel
theorem eb_1114 : opK [0xa7, 0xff, 0xc8] = true ∧ decode ⟨⟨[0xa7, 0xff, 0xc8]⟩⟩ 0 = .ok (.goto (-56), 3) := by decide +kernel
theorem eb_1115 : opK [0xb5, 0x01, 0x40] = true ∧ decode ⟨⟨[0xb5, 0x01, 0x40]⟩⟩ 0 = .ok (.putfield 320, 3) := by decide +kernel
theorem eb_1116 : opK [0xb4, 0x01, 0x40] = true ∧ decode ⟨⟨[0xb4, 0x01, 0x40]⟩⟩ 0 = .ok (.getfield 320, 3) := by decide +kernel
theorem eb_1117 : opK [0xb6, 0x02, 0x29] = true ∧ decode ⟨⟨[0xb6, 0x02, 0x29]⟩⟩ 0 = .ok (.invokevirtual 553, 3) := by decide +kernel
theorem eb_1118 : opK [0xb6, 0x02, 0x2d] = true ∧ decode ⟨⟨[0xb6, 0x02, 0x2d]⟩⟩ 0 = .ok (.invokevirtual 557, 3) := by decide +kernel
theorem eb_1119 : opK [0x99, 0x00, 0x2d] = true ∧ decode ⟨⟨[0x99, 0x00, 0x2d]⟩⟩ 0 = .ok (.ifCond .eq 45, 3) := by decide +kernel
theorem eb_1120 : opK [0xb8, 0x02, 0x30] = true ∧ decode ⟨⟨[0xb8, 0x02, 0x30]⟩⟩ 0 = .ok (.invokestatic 560, 3) := by decide +kernel
theorem eb_1121 : opK [0xa3, 0x00, 0x2d] = true ∧ decode ⟨⟨[0xa3, 0x00, 0x2d]⟩⟩ 0 = .ok (.if_icmp .gt 45, 3) := by decide +kernel
theorem eb_1122 : opK [0x9a, 0x00, 0x0e] = true ∧ decode ⟨⟨[0x9a, 0x00, 0x0e]⟩⟩ 0 = .ok (.ifCond .ne 14, 3) := by decide +kernel
theorem eb_1123 : opK [0xa7, 0xff, 0xd2] = true ∧ decode ⟨⟨[0xa7, 0xff, 0xd2]⟩⟩ 0 = .ok (.goto (-46), 3) := by decide +kernel
theorem eb_1124 : opK [0x99, 0x00, 0x2e] = true ∧ decode ⟨⟨[0x99, 0x00, 0x2e]⟩⟩ 0 = .ok (.ifCond .eq 46, 3) := by decide +kernel
theorem eb_1125 : opK [0xb4, 0x02, 0x32] = true ∧ decode ⟨⟨[0xb4, 0x02, 0x32]⟩⟩ 0 = .ok (.getfield 562, 3) := by decide +kernel
theorem eb_1126 : opK [0xb4, 0x00, 0xa0] = true ∧ decode ⟨⟨[0xb4, 0x00, 0xa0]⟩⟩ 0 = .ok (.getfield 160, 3) := by decide +kernel
theorem eb_1127 : opK [0xb4, 0x00, 0xa3] = true ∧ decode ⟨⟨[0xb4, 0x00, 0xa3]⟩⟩ 0 = .ok (.getfield 163, 3) := by decide +kernel
theorem eb_1128 : opK [0xb4, 0x00, 0xa6] = true ∧ decode ⟨⟨[0xb4, 0x00, 0xa6]⟩⟩ 0 = .ok (.getfield 166, 3) := by decide +kernel
theorem eb_1129 : opK [0xb4, 0x00, 0xa9] = true ∧ decode ⟨⟨[0xb4, 0x00, 0xa9]⟩⟩ 0 = .ok (.getfield 169, 3) := by decide +kernel
theorem eb_1130 : opK [0xb4, 0x00, 0xac] = true ∧ decode ⟨⟨[0xb4, 0x00, 0xac]⟩⟩ 0 = .ok (.getfield 172, 3) := by decide +kernel
theorem eb_1131 : opK [0xb5, 0x02, 0x32] = true ∧ decode ⟨⟨[0xb5, 0x02, 0x32]⟩⟩ 0 = .ok (.putfield 562, 3) := by decide +kernel
theorem eb_1132 : opK [0x13, 0x02, 0x35] = true ∧ decode ⟨⟨[0x13, 0x02, 0x35]⟩⟩ 0 = .ok (.ldc_w 565, 3) := by decide +kernel
theorem eb_1133 : opK [0xb6, 0x02, 0x37] = true ∧ decode ⟨⟨[0xb6, 0x02, 0x37]⟩⟩ 0 = .ok (.invokevirtual 567, 3) := by decide +kernel
theorem eb_1134 : opK [0xa2, 0x01, 0xb2] = true ∧ decode ⟨⟨[0xa2, 0x01, 0xb2]⟩⟩ 0 = .ok (.if_icmp .ge 434, 3) := by decide +kernel
theorem eb_1135 : opK [0xa0, 0x01, 0x9d] = true ∧ decode ⟨⟨[0xa0, 0x01, 0x9d]⟩⟩ 0 = .ok (.if_icmp .ne 413, 3) := by decide +kernel
theorem eb_1136 : opK [0x99, 0x01, 0x87] = true ∧ decode ⟨⟨[0x99, 0x01, 0x87]⟩⟩ 0 = .ok (.ifCond .eq 391, 3) := by decide +kernel
theorem eb_1137 : opK [0xb4, 0x00, 0xaf] = true ∧ decode ⟨⟨[0xb4, 0x00, 0xaf]⟩⟩ 0 = .ok (.getfield 175, 3) := by decide +kernel
theorem eb_1138 : opK [0x9a, 0x01, 0x7e] = true ∧ decode ⟨⟨[0x9a, 0x01, 0x7e]⟩⟩ 0 = .ok (.ifCond .ne 382, 3) := by decide +kernel
theorem eb_1139 : opK [0xa7, 0x01, 0x71] = true ∧ decode ⟨⟨[0xa7, 0x01, 0x71]⟩⟩ 0 = .ok (.goto 369, 3) := by decide +kernel
theorem eb_1140 : opK [0xb4, 0x00, 0xb5] = true ∧ decode ⟨⟨[0xb4, 0x00, 0xb5]⟩⟩ 0 = .ok (.getfield 181, 3) := by decide +kernel
theorem eb_1141 : opK [0xb4, 0x00, 0xb8] = true ∧ decode ⟨⟨[0xb4, 0x00, 0xb8]⟩⟩ 0 = .ok (.getfield 184, 3) := by decide +kernel
theorem eb_1142 : opK [0xb4, 0x00, 0xc4] = true ∧ decode ⟨⟨[0xb4, 0x00, 0xc4]⟩⟩ 0 = .ok (.getfield 196, 3) := by decide +kernel
theorem eb_1143 : opK [0xb6, 0x02, 0x3d] = true ∧ decode ⟨⟨[0xb6, 0x02, 0x3d]⟩⟩ 0 = .ok (.invokevirtual 573, 3) := by decide +kernel
theorem eb_1144 : opK [0xb4, 0x00, 0xbe] = true ∧ decode ⟨⟨[0xb4, 0x00, 0xbe]⟩⟩ 0 = .ok (.getfield 190, 3) := by decide +kernel
theorem eb_1145 : opK [0xa4, 0x00, 0x28] = true ∧ decode ⟨⟨[0xa4, 0x00, 0x28]⟩⟩ 0 = .ok (.if_icmp .le 40, 3) := by decide +kernel
theorem eb_1146 : opK [0xb4, 0x02, 0x40] = true ∧ decode ⟨⟨[0xb4, 0x02, 0x40]⟩⟩ 0 = .ok (.getfield 576, 3) := by decide +kernel
theorem eb_1147 : opK [0xb6, 0x02, 0x43] = true ∧ decode ⟨⟨[0xb6, 0x02, 0x43]⟩⟩ 0 = .ok (.invokevirtual 579, 3) := by decide +kernel
theorem eb_1148 : opK [0xb5, 0x02, 0x04] = true ∧ decode ⟨⟨[0xb5, 0x02, 0x04]⟩⟩ 0 = .ok (.putfield 516, 3) := by decide +kernel
theorem eb_1149 : opK [0xa7, 0xfe, 0x4c] = true ∧ decode ⟨⟨[0xa7, 0xfe, 0x4c]⟩⟩ 0 = .ok (.goto (-436), 3) := by decide +kernel
theorem eb_1150 : opK [0xb8, 0x02, 0x46] = true ∧ decode ⟨⟨[0xb8, 0x02, 0x46]⟩⟩ 0 = .ok (.invokestatic 582, 3) := by decide +kernel
theorem eb_1151 : opK [0xb6, 0x02, 0x49] = true ∧ decode ⟨⟨[0xb6, 0x02, 0x49]⟩⟩ 0 = .ok (.invokevirtual 585, 3) := by decide +kernel
theorem eb_1152 : opK [0xa2, 0x00, 0x25] = true ∧ decode ⟨⟨[0xa2, 0x00, 0x25]⟩⟩ 0 = .ok (.if_icmp .ge 37, 3) := by decide +kernel
theorem eb_1153 : opK [0xb4, 0x00, 0xc7] = true ∧ decode ⟨⟨[0xb4, 0x00, 0xc7]⟩⟩ 0 = .ok (.getfield 199, 3) := by decide +kernel
theorem eb_1154 : opK [0xb4, 0x00, 0xca] = true ∧ decode ⟨⟨[0xb4, 0x00, 0xca]⟩⟩ 0 = .ok (.getfield 202, 3) := by decide +kernel
theorem eb_1155 : opK [0xb5, 0x02, 0x40] = true ∧ decode ⟨⟨[0xb5, 0x02, 0x40]⟩⟩ 0 = .ok (.putfield 576, 3) := by decide +kernel
theorem eb_1156 : opK [0xa2, 0x00, 0x0b] = true ∧ decode ⟨⟨[0xa2, 0x00, 0x0b]⟩⟩ 0 = .ok (.if_icmp .ge 11, 3) := by decide +kernel
theorem eb_1157 : opK [0xb4, 0x00, 0xcd] = true ∧ decode ⟨⟨[0xb4, 0x00, 0xcd]⟩⟩ 0 = .ok (.getfield 205, 3) := by decide +kernel
theorem eb_1158 : opK [0xb6, 0x02, 0x4c] = true ∧ decode ⟨⟨[0xb6, 0x02, 0x4c]⟩⟩ 0 = .ok (.invokevirtual 588, 3) := by decide +kernel
theorem eb_1159 : opK [0xb4, 0x00, 0xe5] = true ∧ decode ⟨⟨[0xb4, 0x00, 0xe5]⟩⟩ 0 = .ok (.getfield 229, 3) := by decide +kernel
theorem eb_1160 : opK [0xb4, 0x02, 0x4f] = true ∧ decode ⟨⟨[0xb4, 0x02, 0x4f]⟩⟩ 0 = .ok (.getfield 591, 3) := by decide +kernel
theorem eb_1161 : opK [0xb4, 0x00, 0xd3] = true ∧ decode ⟨⟨[0xb4, 0x00, 0xd3]⟩⟩ 0 = .ok (.getfield 211, 3) := by decide +kernel
theorem eb_1162 : opK [0xb4, 0x00, 0xd6] = true ∧ decode ⟨⟨[0xb4, 0x00, 0xd6]⟩⟩ 0 = .ok (.getfield 214, 3) := by decide +kernel
theorem eb_1163 : opK [0xb4, 0x00, 0xd9] = true ∧ decode ⟨⟨[0xb4, 0x00, 0xd9]⟩⟩ 0 = .ok (.getfield 217, 3) := by decide +kernel
theorem eb_1164 : opK [0xb4, 0x00, 0xdf] = true ∧ decode ⟨⟨[0xb4, 0x00, 0xdf]⟩⟩ 0 = .ok (.getfield 223, 3) := by decide +kernel
theorem eb_1165 : opK [0xb4, 0x00, 0xdc] = true ∧ decode ⟨⟨[0xb4, 0x00, 0xdc]⟩⟩ 0 = .ok (.getfield 220, 3) := by decide +kernel
theorem eb_1166 : opK [0xb5, 0x02, 0x4f] = true ∧ decode ⟨⟨[0xb5, 0x02, 0x4f]⟩⟩ 0 = .ok (.putfield 591, 3) := by decide +kernel
theorem eb_1167 : opK [0xa2, 0x00, 0x95] = true ∧ decode ⟨⟨[0xa2, 0x00, 0x95]⟩⟩ 0 = .ok (.if_icmp .ge 149, 3) := by decide +kernel
theorem eb_1168 : opK [0xa0, 0x00, 0x28] = true ∧ decode ⟨⟨[0xa0, 0x00, 0x28]⟩⟩ 0 = .ok (.if_icmp .ne 40, 3) := by decide +kernel
theorem eb_1169 : opK [0x9f, 0x00, 0x43] = true ∧ decode ⟨⟨[0x9f, 0x00, 0x43]⟩⟩ 0 = .ok (.if_icmp .eq 67, 3) := by decide +kernel
theorem eb_1170 : opK [0xb4, 0x00, 0xe2] = true ∧ decode ⟨⟨[0xb4, 0x00, 0xe2]⟩⟩ 0 = .ok (.getfield 226, 3) := by decide +kernel
theorem eb_1171 : opK [0xa7, 0x00, 0x2b] = true ∧ decode ⟨⟨[0xa7, 0x00, 0x2b]⟩⟩ 0 = .ok (.goto 43, 3) := by decide +kernel
theorem eb_1172 : opK [0xa7, 0xff, 0x6a] = true ∧ decode ⟨⟨[0xa7, 0xff, 0x6a]⟩⟩ 0 = .ok (.goto (-150), 3) := by decide +kernel
theorem eb_1173 : opK [0x9e, 0x00, 0x0a] = true ∧ decode ⟨⟨[0x9e, 0x00, 0x0a]⟩⟩ 0 = .ok (.ifCond .le 10, 3) := by decide +kernel
theorem eb_1174 : opK [0xb6, 0x02, 0x52] = true ∧ decode ⟨⟨[0xb6, 0x02, 0x52]⟩⟩ 0 = .ok (.invokevirtual 594, 3) := by decide +kernel
theorem eb_1175 : opK [0xb6, 0x02, 0x55] = true ∧ decode ⟨⟨[0xb6, 0x02, 0x55]⟩⟩ 0 = .ok (.invokevirtual 597, 3) := by decide +kernel
theorem eb_1176 : opK [0xb6, 0x02, 0x58] = true ∧ decode ⟨⟨[0xb6, 0x02, 0x58]⟩⟩ 0 = .ok (.invokevirtual 600, 3) := by decide +kernel
theorem eb_1177 : opK [0xb6, 0x02, 0x5b] = true ∧ decode ⟨⟨[0xb6, 0x02, 0x5b]⟩⟩ 0 = .ok (.invokevirtual 603, 3) := by decide +kernel
theorem eb_1178 : opK [0xb4, 0x00, 0xf1] = true ∧ decode ⟨⟨[0xb4, 0x00, 0xf1]⟩⟩ 0 = .ok (.getfield 241, 3) := by decide +kernel
theorem eb_1179 : opK [0xb4, 0x00, 0xee] = true ∧ decode ⟨⟨[0xb4, 0x00, 0xee]⟩⟩ 0 = .ok (.getfield 238, 3) := by decide +kernel
theorem eb_1180 : opK [0xa3, 0x00, 0x20] = true ∧ decode ⟨⟨[0xa3, 0x00, 0x20]⟩⟩ 0 = .ok (.if_icmp .gt 32, 3) := by decide +kernel
theorem eb_1181 : opK [0xb4, 0x00, 0xeb] = true ∧ decode ⟨⟨[0xb4, 0x00, 0xeb]⟩⟩ 0 = .ok (.getfield 235, 3) := by decide +kernel
theorem eb_1182 : opK [0xa7, 0xff, 0xac] = true ∧ decode ⟨⟨[0xa7, 0xff, 0xac]⟩⟩ 0 = .ok (.goto (-84), 3) := by decide +kernel
theorem eb_1183 : opK [0xb6, 0x02, 0x5e] = true ∧ decode ⟨⟨[0xb6, 0x02, 0x5e]⟩⟩ 0 = .ok (.invokevirtual 606, 3) := by decide +kernel
theorem eb_1184 : opK [0xb6, 0x02, 0x61] = true ∧ decode ⟨⟨[0xb6, 0x02, 0x61]⟩⟩ 0 = .ok (.invokevirtual 609, 3) := by decide +kernel
theorem eb_1185 : opK [0xb8, 0x02, 0x64] = true ∧ decode ⟨⟨[0xb8, 0x02, 0x64]⟩⟩ 0 = .ok (.invokestatic 612, 3) := by decide +kernel
theorem eb_1186 : opK [0xb4, 0x00, 0xf4] = true ∧ decode ⟨⟨[0xb4, 0x00, 0xf4]⟩⟩ 0 = .ok (.getfield 244, 3) := by decide +kernel
theorem eb_1187 : opK [0xa2, 0x00, 0x2f] = true ∧ decode ⟨⟨[0xa2, 0x00, 0x2f]⟩⟩ 0 = .ok (.if_icmp .ge 47, 3) := by decide +kernel
theorem eb_1188 : opK [0xa2, 0x00, 0x9a] = true ∧ decode ⟨⟨[0xa2, 0x00, 0x9a]⟩⟩ 0 = .ok (.if_icmp .ge 154, 3) := by decide +kernel
theorem eb_1189 : opK [0xa0, 0x00, 0x2f] = true ∧ decode ⟨⟨[0xa0, 0x00, 0x2f]⟩⟩ 0 = .ok (.if_icmp .ne 47, 3) := by decide +kernel
theorem eb_1190 : opK [0x84, 0x0a, 0x01] = true ∧ decode ⟨⟨[0x84, 0x0a, 0x01]⟩⟩ 0 = .ok (.iinc 10 1, 3) := by decide +kernel
theorem eb_1191 : opK [0xb8, 0x02, 0x69] = true ∧ decode ⟨⟨[0xb8, 0x02, 0x69]⟩⟩ 0 = .ok (.invokestatic 617, 3) := by decide +kernel
theorem eb_1192 : opK [0xa7, 0x00, 0x2a] = true ∧ decode ⟨⟨[0xa7, 0x00, 0x2a]⟩⟩ 0 = .ok (.goto 42, 3) := by decide +kernel
theorem eb_1193 : opK [0xa4, 0x00, 0x12] = true ∧ decode ⟨⟨[0xa4, 0x00, 0x12]⟩⟩ 0 = .ok (.if_icmp .le 18, 3) := by decide +kernel
theorem eb_1194 : opK [0x13, 0x02, 0x6b] = true ∧ decode ⟨⟨[0x13, 0x02, 0x6b]⟩⟩ 0 = .ok (.ldc_w 619, 3) := by decide +kernel
theorem eb_1195 : opK [0xb4, 0x02, 0x6c] = true ∧ decode ⟨⟨[0xb4, 0x02, 0x6c]⟩⟩ 0 = .ok (.getfield 620, 3) := by decide +kernel
theorem eb_1196 : opK [0xb4, 0x02, 0x6f] = true ∧ decode ⟨⟨[0xb4, 0x02, 0x6f]⟩⟩ 0 = .ok (.getfield 623, 3) := by decide +kernel
theorem eb_1197 : opK [0xb4, 0x00, 0xf7] = true ∧ decode ⟨⟨[0xb4, 0x00, 0xf7]⟩⟩ 0 = .ok (.getfield 247, 3) := by decide +kernel
theorem eb_1198 : opK [0xb5, 0x02, 0x6c] = true ∧ decode ⟨⟨[0xb5, 0x02, 0x6c]⟩⟩ 0 = .ok (.putfield 620, 3) := by decide +kernel
theorem eb_1199 : opK [0xb4, 0x00, 0xfa] = true ∧ decode ⟨⟨[0xb4, 0x00, 0xfa]⟩⟩ 0 = .ok (.getfield 250, 3) := by decide +kernel
theorem eb_1200 : opK [0xb5, 0x02, 0x6f] = true ∧ decode ⟨⟨[0xb5, 0x02, 0x6f]⟩⟩ 0 = .ok (.putfield 623, 3) := by decide +kernel
theorem eb_1201 : opK [0xb4, 0x01, 0x01] = true ∧ decode ⟨⟨[0xb4, 0x01, 0x01]⟩⟩ 0 = .ok (.getfield 257, 3) := by decide +kernel
theorem eb_1202 : opK [0x9b, 0x00, 0xa2] = true ∧ decode ⟨⟨[0x9b, 0x00, 0xa2]⟩⟩ 0 = .ok (.ifCond .lt 162, 3) := by decide +kernel
theorem eb_1203 : opK [0xa2, 0x00, 0x91] = true ∧ decode ⟨⟨[0xa2, 0x00, 0x91]⟩⟩ 0 = .ok (.if_icmp .ge 145, 3) := by decide +kernel
theorem eb_1204 : opK [0x11, 0xfc, 0x18] = true ∧ decode ⟨⟨[0x11, 0xfc, 0x18]⟩⟩ 0 = .ok (.sipush (-1000), 3) := by decide +kernel
theorem eb_1205 : opK [0x9a, 0x00, 0x3f] = true ∧ decode ⟨⟨[0x9a, 0x00, 0x3f]⟩⟩ 0 = .ok (.ifCond .ne 63, 3) := by decide +kernel
theorem eb_1206 : opK [0xb6, 0x02, 0x72] = true ∧ decode ⟨⟨[0xb6, 0x02, 0x72]⟩⟩ 0 = .ok (.invokevirtual 626, 3) := by decide +kernel
theorem eb_1207 : opK [0xb4, 0x00, 0xfd] = true ∧ decode ⟨⟨[0xb4, 0x00, 0xfd]⟩⟩ 0 = .ok (.getfield 253, 3) := by decide +kernel
theorem eb_1208 : opK [0xa1, 0x00, 0x31] = true ∧ decode ⟨⟨[0xa1, 0x00, 0x31]⟩⟩ 0 = .ok (.if_icmp .lt 49, 3) := by decide +kernel
theorem eb_1209 : opK [0xa7, 0xff, 0x6d] = true ∧ decode ⟨⟨[0xa7, 0xff, 0x6d]⟩⟩ 0 = .ok (.goto (-147), 3) := by decide +kernel
theorem eb_1210 : opK [0x84, 0x03, 0xff] = true ∧ decode ⟨⟨[0x84, 0x03, 0xff]⟩⟩ 0 = .ok (.iinc 3 (-1), 3) := by decide +kernel
theorem eb_1211 : opK [0xa7, 0xff, 0x60] = true ∧ decode ⟨⟨[0xa7, 0xff, 0x60]⟩⟩ 0 = .ok (.goto (-160), 3) := by decide +kernel
theorem eb_1212 : opK [0xb6, 0x02, 0x75] = true ∧ decode ⟨⟨[0xb6, 0x02, 0x75]⟩⟩ 0 = .ok (.invokevirtual 629, 3) := by decide +kernel
theorem eb_1213 : opK [0xb6, 0x02, 0x78] = true ∧ decode ⟨⟨[0xb6, 0x02, 0x78]⟩⟩ 0 = .ok (.invokevirtual 632, 3) := by decide +kernel
theorem eb_1214 : opK [0xa3, 0x00, 0x81] = true ∧ decode ⟨⟨[0xa3, 0x00, 0x81]⟩⟩ 0 = .ok (.if_icmp .gt 129, 3) := by decide +kernel
theorem eb_1215 : opK [0x9b, 0x00, 0x5d] = true ∧ decode ⟨⟨[0x9b, 0x00, 0x5d]⟩⟩ 0 = .ok (.ifCond .lt 93, 3) := by decide +kernel
theorem eb_1216 : opK [0x9a, 0x00, 0x16] = true ∧ decode ⟨⟨[0x9a, 0x00, 0x16]⟩⟩ 0 = .ok (.ifCond .ne 22, 3) := by decide +kernel
theorem eb_1217 : opK [0x99, 0x00, 0x33] = true ∧ decode ⟨⟨[0x99, 0x00, 0x33]⟩⟩ 0 = .ok (.ifCond .eq 51, 3) := by decide +kernel
theorem eb_1218 : opK [0xa7, 0xff, 0xa4] = true ∧ decode ⟨⟨[0xa7, 0xff, 0xa4]⟩⟩ 0 = .ok (.goto (-92), 3) := by decide +kernel
theorem eb_1219 : opK [0xa7, 0xff, 0x7f] = true ∧ decode ⟨⟨[0xa7, 0xff, 0x7f]⟩⟩ 0 = .ok (.goto (-129), 3) := by decide +kernel
theorem eb_1220 : opK [0xb6, 0x02, 0x7b] = true ∧ decode ⟨⟨[0xb6, 0x02, 0x7b]⟩⟩ 0 = .ok (.invokevirtual 635, 3) := by decide +kernel
theorem eb_1221 : opK [0xa2, 0x00, 0x2d] = true ∧ decode ⟨⟨[0xa2, 0x00, 0x2d]⟩⟩ 0 = .ok (.if_icmp .ge 45, 3) := by decide +kernel
theorem eb_1222 : opK [0xb6, 0x02, 0x7e] = true ∧ decode ⟨⟨[0xb6, 0x02, 0x7e]⟩⟩ 0 = .ok (.invokevirtual 638, 3) := by decide +kernel
theorem eb_1223 : opK [0xb4, 0x02, 0x81] = true ∧ decode ⟨⟨[0xb4, 0x02, 0x81]⟩⟩ 0 = .ok (.getfield 641, 3) := by decide +kernel
theorem eb_1224 : opK [0xb4, 0x01, 0x04] = true ∧ decode ⟨⟨[0xb4, 0x01, 0x04]⟩⟩ 0 = .ok (.getfield 260, 3) := by decide +kernel
theorem eb_1225 : opK [0xb4, 0x01, 0x07] = true ∧ decode ⟨⟨[0xb4, 0x01, 0x07]⟩⟩ 0 = .ok (.getfield 263, 3) := by decide +kernel
theorem eb_1226 : opK [0xb4, 0x01, 0x0a] = true ∧ decode ⟨⟨[0xb4, 0x01, 0x0a]⟩⟩ 0 = .ok (.getfield 266, 3) := by decide +kernel
theorem eb_1227 : opK [0xb5, 0x02, 0x81] = true ∧ decode ⟨⟨[0xb5, 0x02, 0x81]⟩⟩ 0 = .ok (.putfield 641, 3) := by decide +kernel
theorem eb_1228 : opK [0xa2, 0x00, 0x8d] = true ∧ decode ⟨⟨[0xa2, 0x00, 0x8d]⟩⟩ 0 = .ok (.if_icmp .ge 141, 3) := by decide +kernel
theorem eb_1229 : opK [0xa3, 0x00, 0x86] = true ∧ decode ⟨⟨[0xa3, 0x00, 0x86]⟩⟩ 0 = .ok (.if_icmp .gt 134, 3) := by decide +kernel
theorem eb_1230 : opK [0xa7, 0x00, 0x64] = true ∧ decode ⟨⟨[0xa7, 0x00, 0x64]⟩⟩ 0 = .ok (.goto 100, 3) := by decide +kernel
theorem eb_1231 : opK [0xa0, 0x00, 0x50] = true ∧ decode ⟨⟨[0xa0, 0x00, 0x50]⟩⟩ 0 = .ok (.if_icmp .ne 80, 3) := by decide +kernel
theorem eb_1232 : opK [0xa7, 0x00, 0x23] = true ∧ decode ⟨⟨[0xa7, 0x00, 0x23]⟩⟩ 0 = .ok (.goto 35, 3) := by decide +kernel
theorem eb_1233 : opK [0xa7, 0xff, 0x68] = true ∧ decode ⟨⟨[0xa7, 0xff, 0x68]⟩⟩ 0 = .ok (.goto (-152), 3) := by decide +kernel
theorem eb_1234 : opK [0xb6, 0x02, 0x84] = true ∧ decode ⟨⟨[0xb6, 0x02, 0x84]⟩⟩ 0 = .ok (.invokevirtual 644, 3) := by decide +kernel
theorem eb_1235 : opK [0xa2, 0x00, 0x49] = true ∧ decode ⟨⟨[0xa2, 0x00, 0x49]⟩⟩ 0 = .ok (.if_icmp .ge 73, 3) := by decide +kernel
theorem eb_1236 : opK [0xb4, 0x02, 0x87] = true ∧ decode ⟨⟨[0xb4, 0x02, 0x87]⟩⟩ 0 = .ok (.getfield 647, 3) := by decide +kernel
theorem eb_1237 : opK [0xb4, 0x01, 0x16] = true ∧ decode ⟨⟨[0xb4, 0x01, 0x16]⟩⟩ 0 = .ok (.getfield 278, 3) := by decide +kernel
theorem eb_1238 : opK [0xb4, 0x01, 0x10] = true ∧ decode ⟨⟨[0xb4, 0x01, 0x10]⟩⟩ 0 = .ok (.getfield 272, 3) := by decide +kernel
theorem eb_1239 : opK [0xb4, 0x02, 0x8a] = true ∧ decode ⟨⟨[0xb4, 0x02, 0x8a]⟩⟩ 0 = .ok (.getfield 650, 3) := by decide +kernel
theorem eb_1240 : opK [0xb4, 0x02, 0x8d] = true ∧ decode ⟨⟨[0xb4, 0x02, 0x8d]⟩⟩ 0 = .ok (.getfield 653, 3) := by decide +kernel
theorem eb_1241 : opK [0xa4, 0x00, 0x29] = true ∧ decode ⟨⟨[0xa4, 0x00, 0x29]⟩⟩ 0 = .ok (.if_icmp .le 41, 3) := by decide +kernel
theorem eb_1242 : opK [0xb5, 0x02, 0x8a] = true ∧ decode ⟨⟨[0xb5, 0x02, 0x8a]⟩⟩ 0 = .ok (.putfield 650, 3) := by decide +kernel
theorem eb_1243 : opK [0xb5, 0x02, 0x8d] = true ∧ decode ⟨⟨[0xb5, 0x02, 0x8d]⟩⟩ 0 = .ok (.putfield 653, 3) := by decide +kernel
theorem eb_1244 : opK [0xb4, 0x01, 0x13] = true ∧ decode ⟨⟨[0xb4, 0x01, 0x13]⟩⟩ 0 = .ok (.getfield 275, 3) := by decide +kernel
theorem eb_1245 : opK [0xb6, 0x02, 0x90] = true ∧ decode ⟨⟨[0xb6, 0x02, 0x90]⟩⟩ 0 = .ok (.invokevirtual 656, 3) := by decide +kernel
theorem eb_1246 : opK [0x9b, 0x00, 0x1a] = true ∧ decode ⟨⟨[0x9b, 0x00, 0x1a]⟩⟩ 0 = .ok (.ifCond .lt 26, 3) := by decide +kernel
theorem eb_1247 : opK [0xb6, 0x02, 0x93] = true ∧ decode ⟨⟨[0xb6, 0x02, 0x93]⟩⟩ 0 = .ok (.invokevirtual 659, 3) := by decide +kernel
theorem eb_1248 : opK [0xb5, 0x02, 0x87] = true ∧ decode ⟨⟨[0xb5, 0x02, 0x87]⟩⟩ 0 = .ok (.putfield 647, 3) := by decide +kernel
theorem eb_1249 : opK [0xa2, 0x00, 0x60] = true ∧ decode ⟨⟨[0xa2, 0x00, 0x60]⟩⟩ 0 = .ok (.if_icmp .ge 96, 3) := by decide +kernel
theorem eb_1250 : opK [0xa0, 0x00, 0x51] = true ∧ decode ⟨⟨[0xa0, 0x00, 0x51]⟩⟩ 0 = .ok (.if_icmp .ne 81, 3) := by decide +kernel
theorem eb_1251 : opK [0xb4, 0x01, 0x0d] = true ∧ decode ⟨⟨[0xb4, 0x01, 0x0d]⟩⟩ 0 = .ok (.getfield 269, 3) := by decide +kernel
theorem eb_1252 : opK [0xa7, 0xff, 0x9e] = true ∧ decode ⟨⟨[0xa7, 0xff, 0x9e]⟩⟩ 0 = .ok (.goto (-98), 3) := by decide +kernel
theorem eb_1253 : opK [0xb6, 0x02, 0x96] = true ∧ decode ⟨⟨[0xb6, 0x02, 0x96]⟩⟩ 0 = .ok (.invokevirtual 662, 3) := by decide +kernel
theorem eb_1254 : opK [0xa7, 0xff, 0xe4] = true ∧ decode ⟨⟨[0xa7, 0xff, 0xe4]⟩⟩ 0 = .ok (.goto (-28), 3) := by decide +kernel
theorem eb_1255 : opK [0xb4, 0x02, 0x99] = true ∧ decode ⟨⟨[0xb4, 0x02, 0x99]⟩⟩ 0 = .ok (.getfield 665, 3) := by decide +kernel
theorem eb_1256 : opK [0xb4, 0x01, 0x19] = true ∧ decode ⟨⟨[0xb4, 0x01, 0x19]⟩⟩ 0 = .ok (.getfield 281, 3) := by decide +kernel
theorem eb_1257 : opK [0xb4, 0x01, 0x1c] = true ∧ decode ⟨⟨[0xb4, 0x01, 0x1c]⟩⟩ 0 = .ok (.getfield 284, 3) := by decide +kernel
theorem eb_1258 : opK [0xb5, 0x02, 0x99] = true ∧ decode ⟨⟨[0xb5, 0x02, 0x99]⟩⟩ 0 = .ok (.putfield 665, 3) := by decide +kernel
theorem eb_1259 : opK [0x13, 0x02, 0x9c] = true ∧ decode ⟨⟨[0x13, 0x02, 0x9c]⟩⟩ 0 = .ok (.ldc_w 668, 3) := by decide +kernel
theorem eb_1260 : opK [0xa2, 0x00, 0x33] = true ∧ decode ⟨⟨[0xa2, 0x00, 0x33]⟩⟩ 0 = .ok (.if_icmp .ge 51, 3) := by decide +kernel
theorem eb_1261 : opK [0xa0, 0x00, 0x29] = true ∧ decode ⟨⟨[0xa0, 0x00, 0x29]⟩⟩ 0 = .ok (.if_icmp .ne 41, 3) := by decide +kernel
theorem eb_1262 : opK [0x13, 0x02, 0x9d] = true ∧ decode ⟨⟨[0x13, 0x02, 0x9d]⟩⟩ 0 = .ok (.ldc_w 669, 3) := by decide +kernel
theorem eb_1263 : opK [0xa2, 0x00, 0x29] = true ∧ decode ⟨⟨[0xa2, 0x00, 0x29]⟩⟩ 0 = .ok (.if_icmp .ge 41, 3) := by decide +kernel
theorem eb_1264 : opK [0xb4, 0x01, 0x25] = true ∧ decode ⟨⟨[0xb4, 0x01, 0x25]⟩⟩ 0 = .ok (.getfield 293, 3) := by decide +kernel
theorem eb_1265 : opK [0xb6, 0x02, 0x9e] = true ∧ decode ⟨⟨[0xb6, 0x02, 0x9e]⟩⟩ 0 = .ok (.invokevirtual 670, 3) := by decide +kernel
theorem eb_1266 : opK [0x9b, 0x00, 0x98] = true ∧ decode ⟨⟨[0x9b, 0x00, 0x98]⟩⟩ 0 = .ok (.ifCond .lt 152, 3) := by decide +kernel
theorem eb_1267 : opK [0xa2, 0x00, 0x89] = true ∧ decode ⟨⟨[0xa2, 0x00, 0x89]⟩⟩ 0 = .ok (.if_icmp .ge 137, 3) := by decide +kernel
theorem eb_1268 : opK [0xa2, 0x00, 0x5b] = true ∧ decode ⟨⟨[0xa2, 0x00, 0x5b]⟩⟩ 0 = .ok (.if_icmp .ge 91, 3) := by decide +kernel
theorem eb_1269 : opK [0xb8, 0x02, 0xa1] = true ∧ decode ⟨⟨[0xb8, 0x02, 0xa1]⟩⟩ 0 = .ok (.invokestatic 673, 3) := by decide +kernel
theorem eb_1270 : opK [0x9e, 0x00, 0x4c] = true ∧ decode ⟨⟨[0x9e, 0x00, 0x4c]⟩⟩ 0 = .ok (.ifCond .le 76, 3) := by decide +kernel
theorem eb_1271 : opK [0xa2, 0x00, 0x3b] = true ∧ decode ⟨⟨[0xa2, 0x00, 0x3b]⟩⟩ 0 = .ok (.if_icmp .ge 59, 3) := by decide +kernel
theorem eb_1272 : opK [0xa7, 0xff, 0x76] = true ∧ decode ⟨⟨[0xa7, 0xff, 0x76]⟩⟩ 0 = .ok (.goto (-138), 3) := by decide +kernel
theorem eb_1273 : opK [0xb6, 0x02, 0xa4] = true ∧ decode ⟨⟨[0xb6, 0x02, 0xa4]⟩⟩ 0 = .ok (.invokevirtual 676, 3) := by decide +kernel
theorem eb_1274 : opK [0xb6, 0x02, 0xa7] = true ∧ decode ⟨⟨[0xb6, 0x02, 0xa7]⟩⟩ 0 = .ok (.invokevirtual 679, 3) := by decide +kernel
theorem eb_1275 : opK [0xa3, 0x00, 0x89] = true ∧ decode ⟨⟨[0xa3, 0x00, 0x89]⟩⟩ 0 = .ok (.if_icmp .gt 137, 3) := by decide +kernel
theorem eb_1276 : opK [0x9b, 0x00, 0x63] = true ∧ decode ⟨⟨[0x9b, 0x00, 0x63]⟩⟩ 0 = .ok (.ifCond .lt 99, 3) := by decide +kernel
theorem eb_1277 : opK [0x99, 0x00, 0x46] = true ∧ decode ⟨⟨[0x99, 0x00, 0x46]⟩⟩ 0 = .ok (.ifCond .eq 70, 3) := by decide +kernel
theorem eb_1278 : opK [0xa7, 0x00, 0x3b] = true ∧ decode ⟨⟨[0xa7, 0x00, 0x3b]⟩⟩ 0 = .ok (.goto 59, 3) := by decide +kernel
theorem eb_1279 : opK [0xa7, 0xff, 0x77] = true ∧ decode ⟨⟨[0xa7, 0xff, 0x77]⟩⟩ 0 = .ok (.goto (-137), 3) := by decide +kernel
theorem eb_1280 : opK [0xa2, 0x00, 0x68] = true ∧ decode ⟨⟨[0xa2, 0x00, 0x68]⟩⟩ 0 = .ok (.if_icmp .ge 104, 3) := by decide +kernel
theorem eb_1281 : opK [0xa0, 0x00, 0x57] = true ∧ decode ⟨⟨[0xa0, 0x00, 0x57]⟩⟩ 0 = .ok (.if_icmp .ne 87, 3) := by decide +kernel
theorem eb_1282 : opK [0xa7, 0x00, 0x45] = true ∧ decode ⟨⟨[0xa7, 0x00, 0x45]⟩⟩ 0 = .ok (.goto 69, 3) := by decide +kernel
theorem eb_1283 : opK [0xa2, 0x00, 0x5e] = true ∧ decode ⟨⟨[0xa2, 0x00, 0x5e]⟩⟩ 0 = .ok (.if_icmp .ge 94, 3) := by decide +kernel
theorem eb_1284 : opK [0xa0, 0x00, 0x4d] = true ∧ decode ⟨⟨[0xa0, 0x00, 0x4d]⟩⟩ 0 = .ok (.if_icmp .ne 77, 3) := by decide +kernel
theorem eb_1285 : opK [0xa0, 0x00, 0x33] = true ∧ decode ⟨⟨[0xa0, 0x00, 0x33]⟩⟩ 0 = .ok (.if_icmp .ne 51, 3) := by decide +kernel
theorem eb_1286 : opK [0xa7, 0xff, 0x9f] = true ∧ decode ⟨⟨[0xa7, 0xff, 0x9f]⟩⟩ 0 = .ok (.goto (-97), 3) := by decide +kernel
theorem eb_1287 : opK [0x10, 0x63] = true ∧ decode ⟨⟨[0x10, 0x63]⟩⟩ 0 = .ok (.bipush 99, 2) := by decide +kernel
theorem eb_1288 : opK [0x10, 0x79] = true ∧ decode ⟨⟨[0x10, 0x79]⟩⟩ 0 = .ok (.bipush 121, 2) := by decide +kernel
theorem eb_1289 : opK [0x10, 0x6d] = true ∧ decode ⟨⟨[0x10, 0x6d]⟩⟩ 0 = .ok (.bipush 109, 2) := by decide +kernel
theorem eb_1290 : opK [0x10, 0x61] = true ∧ decode ⟨⟨[0x10, 0x61]⟩⟩ 0 = .ok (.bipush 97, 2) := by decide +kernel
theorem eb_1291 : opK [0xb6, 0x02, 0xaa] = true ∧ decode ⟨⟨[0xb6, 0x02, 0xaa]⟩⟩ 0 = .ok (.invokevirtual 682, 3) := by decide +kernel
theorem eb_1292 : opK [0xb4, 0x01, 0x28] = true ∧ decode ⟨⟨[0xb4, 0x01, 0x28]⟩⟩ 0 = .ok (.getfield 296, 3) := by decide +kernel
theorem eb_1293 : opK [0xb4, 0x02, 0xad] = true ∧ decode ⟨⟨[0xb4, 0x02, 0xad]⟩⟩ 0 = .ok (.getfield 685, 3) := by decide +kernel
theorem eb_1294 : opK [0xa2, 0x00, 0x84] = true ∧ decode ⟨⟨[0xa2, 0x00, 0x84]⟩⟩ 0 = .ok (.if_icmp .ge 132, 3) := by decide +kernel
theorem eb_1295 : opK [0x9f, 0x00, 0x52] = true ∧ decode ⟨⟨[0x9f, 0x00, 0x52]⟩⟩ 0 = .ok (.if_icmp .eq 82, 3) := by decide +kernel
theorem eb_1296 : opK [0xb4, 0x01, 0x2b] = true ∧ decode ⟨⟨[0xb4, 0x01, 0x2b]⟩⟩ 0 = .ok (.getfield 299, 3) := by decide +kernel
theorem eb_1297 : opK [0xb4, 0x01, 0x2e] = true ∧ decode ⟨⟨[0xb4, 0x01, 0x2e]⟩⟩ 0 = .ok (.getfield 302, 3) := by decide +kernel
theorem eb_1298 : opK [0xb4, 0x01, 0x31] = true ∧ decode ⟨⟨[0xb4, 0x01, 0x31]⟩⟩ 0 = .ok (.getfield 305, 3) := by decide +kernel
theorem eb_1299 : opK [0xb4, 0x01, 0x34] = true ∧ decode ⟨⟨[0xb4, 0x01, 0x34]⟩⟩ 0 = .ok (.getfield 308, 3) := by decide +kernel
theorem eb_1300 : opK [0xb5, 0x02, 0xad] = true ∧ decode ⟨⟨[0xb5, 0x02, 0xad]⟩⟩ 0 = .ok (.putfield 685, 3) := by decide +kernel
theorem eb_1301 : opK [0x13, 0x02, 0xb0] = true ∧ decode ⟨⟨[0x13, 0x02, 0xb0]⟩⟩ 0 = .ok (.ldc_w 688, 3) := by decide +kernel
theorem eb_1302 : opK [0xb4, 0x01, 0x37] = true ∧ decode ⟨⟨[0xb4, 0x01, 0x37]⟩⟩ 0 = .ok (.getfield 311, 3) := by decide +kernel
theorem eb_1303 : opK [0xb4, 0x01, 0x3a] = true ∧ decode ⟨⟨[0xb4, 0x01, 0x3a]⟩⟩ 0 = .ok (.getfield 314, 3) := by decide +kernel
theorem eb_1304 : opK [0xb4, 0x01, 0x3d] = true ∧ decode ⟨⟨[0xb4, 0x01, 0x3d]⟩⟩ 0 = .ok (.getfield 317, 3) := by decide +kernel
theorem eb_1305 : opK [0xa2, 0x00, 0x09] = true ∧ decode ⟨⟨[0xa2, 0x00, 0x09]⟩⟩ 0 = .ok (.if_icmp .ge 9, 3) := by decide +kernel
theorem eb_1306 : opK [0xa7, 0xff, 0xe2] = true ∧ decode ⟨⟨[0xa7, 0xff, 0xe2]⟩⟩ 0 = .ok (.goto (-30), 3) := by decide +kernel
theorem eb_1307 : opK [0xa2, 0x00, 0x13] = true ∧ decode ⟨⟨[0xa2, 0x00, 0x13]⟩⟩ 0 = .ok (.if_icmp .ge 19, 3) := by decide +kernel
theorem eb_1310 : opK [0x13, 0x01, 0x09] = true ∧ decode ⟨⟨[0x13, 0x01, 0x09]⟩⟩ 0 = .ok (.ldc_w 265, 3) := by decide +kernel
theorem eb_1311 : opK [0x3b] = true ∧ decode ⟨⟨[0x3b]⟩⟩ 0 = .ok (.istore_n 0, 1) := by decide +kernel
theorem eb_1312 : opK [0x13, 0x01, 0x0a] = true ∧ decode ⟨⟨[0x13, 0x01, 0x0a]⟩⟩ 0 = .ok (.ldc_w 266, 3) := by decide +kernel
theorem eb_1313 : opK [0x13, 0x01, 0x0b] = true ∧ decode ⟨⟨[0x13, 0x01, 0x0b]⟩⟩ 0 = .ok (.ldc_w 267, 3) := by decide +kernel
theorem eb_1317 : opK [0xb6, 0x01, 0xec] = true ∧ decode ⟨⟨[0xb6, 0x01, 0xec]⟩⟩ 0 = .ok (.invokevirtual 492, 3) := by decide +kernel
theorem eb_1318 : opK [0xb8, 0x01, 0xef] = true ∧ decode ⟨⟨[0xb8, 0x01, 0xef]⟩⟩ 0 = .ok (.invokestatic 495, 3) := by decide +kernel
theorem eb_1320 : opK [0xb6, 0x02, 0x79] = true ∧ decode ⟨⟨[0xb6, 0x02, 0x79]⟩⟩ 0 = .ok (.invokevirtual 633, 3) := by decide +kernel
theorem eb_1321 : opK [0xb6, 0x01, 0xf9] = true ∧ decode ⟨⟨[0xb6, 0x01, 0xf9]⟩⟩ 0 = .ok (.invokevirtual 505, 3) := by decide +kernel
theorem eb_1322 : opK [0xb8, 0x02, 0x7d] = true ∧ decode ⟨⟨[0xb8, 0x02, 0x7d]⟩⟩ 0 = .ok (.invokestatic 637, 3) := by decide +kernel
theorem eb_1324 : opK [0xb8, 0x04, 0x23] = true ∧ decode ⟨⟨[0xb8, 0x04, 0x23]⟩⟩ 0 = .ok (.invokestatic 1059, 3) := by decide +kernel
theorem eb_1326 : opK [0xb8, 0x00, 0x09] = true ∧ decode ⟨⟨[0xb8, 0x00, 0x09]⟩⟩ 0 = .ok (.invokestatic 9, 3) := by decide +kernel
theorem eb_1327 : opK [0x9b, 0x00, 0x0e] = true ∧ decode ⟨⟨[0x9b, 0x00, 0x0e]⟩⟩ 0 = .ok (.ifCond .lt 14, 3) := by decide +kernel
theorem eb_1328 : opK [0xb8, 0x00, 0x58] = true ∧ decode ⟨⟨[0xb8, 0x00, 0x58]⟩⟩ 0 = .ok (.invokestatic 88, 3) := by decide +kernel
theorem eb_1329 : opK [0xb8, 0x00, 0x5c] = true ∧ decode ⟨⟨[0xb8, 0x00, 0x5c]⟩⟩ 0 = .ok (.invokestatic 92, 3) := by decide +kernel
theorem eb_1330 : opK [0xb8, 0x00, 0x26] = true ∧ decode ⟨⟨[0xb8, 0x00, 0x26]⟩⟩ 0 = .ok (.invokestatic 38, 3) := by decide +kernel
theorem eb_1331 : opK [0xb8, 0x00, 0x5f] = true ∧ decode ⟨⟨[0xb8, 0x00, 0x5f]⟩⟩ 0 = .ok (.invokestatic 95, 3) := by decide +kernel
theorem eb_1349 : opK [0xa2, 0x00, 0x0d] = true ∧ decode ⟨⟨[0xa2, 0x00, 0x0d]⟩⟩ 0 = .ok (.if_icmp .ge 13, 3) := by decide +kernel
theorem eb_1350 : opK [0xa7, 0xff, 0xf4] = true ∧ decode ⟨⟨[0xa7, 0xff, 0xf4]⟩⟩ 0 = .ok (.goto (-12), 3) := by decide +kernel
theorem eb_1352 : opK [0xb8, 0x01, 0x30] = true ∧ decode ⟨⟨[0xb8, 0x01, 0x30]⟩⟩ 0 = .ok (.invokestatic 304, 3) := by decide +kernel
theorem eb_1353 : opK [0xb8, 0x00, 0x96] = true ∧ decode ⟨⟨[0xb8, 0x00, 0x96]⟩⟩ 0 = .ok (.invokestatic 150, 3) := by decide +kernel
theorem eb_1354 : opK [0x9b, 0x00, 0x08] = true ∧ decode ⟨⟨[0x9b, 0x00, 0x08]⟩⟩ 0 = .ok (.ifCond .lt 8, 3) := by decide +kernel
theorem eb_1355 : opK [0xa1, 0x00, 0x0a] = true ∧ decode ⟨⟨[0xa1, 0x00, 0x0a]⟩⟩ 0 = .ok (.if_icmp .lt 10, 3) := by decide +kernel
theorem eb_1359 : opK [0xbb, 0x00, 0x08] = true ∧ decode ⟨⟨[0xbb, 0x00, 0x08]⟩⟩ 0 = .ok (.new 8, 3) := by decide +kernel
theorem eb_1360 : opK [0xb7, 0x00, 0x0f] = true ∧ decode ⟨⟨[0xb7, 0x00, 0x0f]⟩⟩ 0 = .ok (.invokespecial 15, 3) := by decide +kernel
theorem eb_1361 : opK [0xa3, 0x09, 0x4e] = true ∧ decode ⟨⟨[0xa3, 0x09, 0x4e]⟩⟩ 0 = .ok (.if_icmp .gt 2382, 3) := by decide +kernel
theorem eb_1362 : opK [0xb6, 0x00, 0x13] = true ∧ decode ⟨⟨[0xb6, 0x00, 0x13]⟩⟩ 0 = .ok (.invokevirtual 19, 3) := by decide +kernel
theorem eb_1363 : opK [0xb6, 0x00, 0x17] = true ∧ decode ⟨⟨[0xb6, 0x00, 0x17]⟩⟩ 0 = .ok (.invokevirtual 23, 3) := by decide +kernel
theorem eb_1364 : opK [0xa7, 0x08, 0x1c] = true ∧ decode ⟨⟨[0xa7, 0x08, 0x1c]⟩⟩ 0 = .ok (.goto 2076, 3) := by decide +kernel
theorem eb_1365 : opK [0xb6, 0x00, 0x18] = true ∧ decode ⟨⟨[0xb6, 0x00, 0x18]⟩⟩ 0 = .ok (.invokevirtual 24, 3) := by decide +kernel
theorem eb_1366 : opK [0xb6, 0x00, 0x1b] = true ∧ decode ⟨⟨[0xb6, 0x00, 0x1b]⟩⟩ 0 = .ok (.invokevirtual 27, 3) := by decide +kernel
theorem eb_1367 : opK [0xa7, 0x07, 0xf7] = true ∧ decode ⟨⟨[0xa7, 0x07, 0xf7]⟩⟩ 0 = .ok (.goto 2039, 3) := by decide +kernel
theorem eb_1368 : opK [0xb6, 0x00, 0x1c] = true ∧ decode ⟨⟨[0xb6, 0x00, 0x1c]⟩⟩ 0 = .ok (.invokevirtual 28, 3) := by decide +kernel
theorem eb_1369 : opK [0xb6, 0x00, 0x1f] = true ∧ decode ⟨⟨[0xb6, 0x00, 0x1f]⟩⟩ 0 = .ok (.invokevirtual 31, 3) := by decide +kernel
theorem eb_1370 : opK [0xa7, 0x07, 0xc6] = true ∧ decode ⟨⟨[0xa7, 0x07, 0xc6]⟩⟩ 0 = .ok (.goto 1990, 3) := by decide +kernel
theorem eb_1371 : opK [0xb6, 0x00, 0x20] = true ∧ decode ⟨⟨[0xb6, 0x00, 0x20]⟩⟩ 0 = .ok (.invokevirtual 32, 3) := by decide +kernel
theorem eb_1372 : opK [0xb6, 0x00, 0x24] = true ∧ decode ⟨⟨[0xb6, 0x00, 0x24]⟩⟩ 0 = .ok (.invokevirtual 36, 3) := by decide +kernel
theorem eb_1373 : opK [0xa7, 0x07, 0x7d] = true ∧ decode ⟨⟨[0xa7, 0x07, 0x7d]⟩⟩ 0 = .ok (.goto 1917, 3) := by decide +kernel
theorem eb_1374 : opK [0xb6, 0x00, 0x25] = true ∧ decode ⟨⟨[0xb6, 0x00, 0x25]⟩⟩ 0 = .ok (.invokevirtual 37, 3) := by decide +kernel
theorem eb_1375 : opK [0xb6, 0x00, 0x29] = true ∧ decode ⟨⟨[0xb6, 0x00, 0x29]⟩⟩ 0 = .ok (.invokevirtual 41, 3) := by decide +kernel
theorem eb_1376 : opK [0xa7, 0x07, 0x64] = true ∧ decode ⟨⟨[0xa7, 0x07, 0x64]⟩⟩ 0 = .ok (.goto 1892, 3) := by decide +kernel
theorem eb_1377 : opK [0xb6, 0x00, 0x2a] = true ∧ decode ⟨⟨[0xb6, 0x00, 0x2a]⟩⟩ 0 = .ok (.invokevirtual 42, 3) := by decide +kernel
theorem eb_1378 : opK [0xa7, 0x07, 0x4b] = true ∧ decode ⟨⟨[0xa7, 0x07, 0x4b]⟩⟩ 0 = .ok (.goto 1867, 3) := by decide +kernel
theorem eb_1379 : opK [0xb6, 0x00, 0x2f] = true ∧ decode ⟨⟨[0xb6, 0x00, 0x2f]⟩⟩ 0 = .ok (.invokevirtual 47, 3) := by decide +kernel
theorem eb_1380 : opK [0xa7, 0x07, 0x3e] = true ∧ decode ⟨⟨[0xa7, 0x07, 0x3e]⟩⟩ 0 = .ok (.goto 1854, 3) := by decide +kernel
theorem eb_1381 : opK [0xb6, 0x00, 0x34] = true ∧ decode ⟨⟨[0xb6, 0x00, 0x34]⟩⟩ 0 = .ok (.invokevirtual 52, 3) := by decide +kernel
theorem eb_1382 : opK [0xb6, 0x00, 0x37] = true ∧ decode ⟨⟨[0xb6, 0x00, 0x37]⟩⟩ 0 = .ok (.invokevirtual 55, 3) := by decide +kernel
theorem eb_1383 : opK [0xa7, 0x07, 0x19] = true ∧ decode ⟨⟨[0xa7, 0x07, 0x19]⟩⟩ 0 = .ok (.goto 1817, 3) := by decide +kernel
theorem eb_1384 : opK [0xb6, 0x00, 0x38] = true ∧ decode ⟨⟨[0xb6, 0x00, 0x38]⟩⟩ 0 = .ok (.invokevirtual 56, 3) := by decide +kernel
theorem eb_1385 : opK [0xa7, 0x06, 0xf4] = true ∧ decode ⟨⟨[0xa7, 0x06, 0xf4]⟩⟩ 0 = .ok (.goto 1780, 3) := by decide +kernel
theorem eb_1386 : opK [0xb6, 0x00, 0x41] = true ∧ decode ⟨⟨[0xb6, 0x00, 0x41]⟩⟩ 0 = .ok (.invokevirtual 65, 3) := by decide +kernel
theorem eb_1387 : opK [0xa7, 0x06, 0xc3] = true ∧ decode ⟨⟨[0xa7, 0x06, 0xc3]⟩⟩ 0 = .ok (.goto 1731, 3) := by decide +kernel
theorem eb_1388 : opK [0xa7, 0x06, 0x8e] = true ∧ decode ⟨⟨[0xa7, 0x06, 0x8e]⟩⟩ 0 = .ok (.goto 1678, 3) := by decide +kernel
theorem eb_1389 : opK [0xb6, 0x00, 0x47] = true ∧ decode ⟨⟨[0xb6, 0x00, 0x47]⟩⟩ 0 = .ok (.invokevirtual 71, 3) := by decide +kernel
theorem eb_1390 : opK [0xb6, 0x00, 0x4a] = true ∧ decode ⟨⟨[0xb6, 0x00, 0x4a]⟩⟩ 0 = .ok (.invokevirtual 74, 3) := by decide +kernel
theorem eb_1391 : opK [0xa7, 0x06, 0x75] = true ∧ decode ⟨⟨[0xa7, 0x06, 0x75]⟩⟩ 0 = .ok (.goto 1653, 3) := by decide +kernel
theorem eb_1392 : opK [0xb8, 0x00, 0x4b] = true ∧ decode ⟨⟨[0xb8, 0x00, 0x4b]⟩⟩ 0 = .ok (.invokestatic 75, 3) := by decide +kernel
theorem eb_1393 : opK [0xb6, 0x00, 0x50] = true ∧ decode ⟨⟨[0xb6, 0x00, 0x50]⟩⟩ 0 = .ok (.invokevirtual 80, 3) := by decide +kernel
theorem eb_1394 : opK [0xa7, 0x06, 0x4d] = true ∧ decode ⟨⟨[0xa7, 0x06, 0x4d]⟩⟩ 0 = .ok (.goto 1613, 3) := by decide +kernel
theorem eb_1395 : opK [0xb6, 0x00, 0x51] = true ∧ decode ⟨⟨[0xb6, 0x00, 0x51]⟩⟩ 0 = .ok (.invokevirtual 81, 3) := by decide +kernel
theorem eb_1396 : opK [0xa7, 0x06, 0x28] = true ∧ decode ⟨⟨[0xa7, 0x06, 0x28]⟩⟩ 0 = .ok (.goto 1576, 3) := by decide +kernel
theorem eb_1397 : opK [0xb6, 0x00, 0x58] = true ∧ decode ⟨⟨[0xb6, 0x00, 0x58]⟩⟩ 0 = .ok (.invokevirtual 88, 3) := by decide +kernel
theorem eb_1398 : opK [0xa7, 0x05, 0xf7] = true ∧ decode ⟨⟨[0xa7, 0x05, 0xf7]⟩⟩ 0 = .ok (.goto 1527, 3) := by decide +kernel
theorem eb_1399 : opK [0xa7, 0x05, 0xd2] = true ∧ decode ⟨⟨[0xa7, 0x05, 0xd2]⟩⟩ 0 = .ok (.goto 1490, 3) := by decide +kernel
theorem eb_1400 : opK [0xa7, 0x05, 0xad] = true ∧ decode ⟨⟨[0xa7, 0x05, 0xad]⟩⟩ 0 = .ok (.goto 1453, 3) := by decide +kernel
theorem eb_1401 : opK [0xb6, 0x00, 0x61] = true ∧ decode ⟨⟨[0xb6, 0x00, 0x61]⟩⟩ 0 = .ok (.invokevirtual 97, 3) := by decide +kernel
theorem eb_1402 : opK [0xa7, 0x05, 0x64] = true ∧ decode ⟨⟨[0xa7, 0x05, 0x64]⟩⟩ 0 = .ok (.goto 1380, 3) := by decide +kernel
theorem eb_1403 : opK [0xb6, 0x00, 0x68] = true ∧ decode ⟨⟨[0xb6, 0x00, 0x68]⟩⟩ 0 = .ok (.invokevirtual 104, 3) := by decide +kernel
theorem eb_1404 : opK [0xa7, 0x05, 0x4b] = true ∧ decode ⟨⟨[0xa7, 0x05, 0x4b]⟩⟩ 0 = .ok (.goto 1355, 3) := by decide +kernel
theorem eb_1405 : opK [0xb6, 0x00, 0x69] = true ∧ decode ⟨⟨[0xb6, 0x00, 0x69]⟩⟩ 0 = .ok (.invokevirtual 105, 3) := by decide +kernel
theorem eb_1406 : opK [0xb6, 0x00, 0x6c] = true ∧ decode ⟨⟨[0xb6, 0x00, 0x6c]⟩⟩ 0 = .ok (.invokevirtual 108, 3) := by decide +kernel
theorem eb_1407 : opK [0xa7, 0x05, 0x26] = true ∧ decode ⟨⟨[0xa7, 0x05, 0x26]⟩⟩ 0 = .ok (.goto 1318, 3) := by decide +kernel
theorem eb_1408 : opK [0xb6, 0x00, 0x6d] = true ∧ decode ⟨⟨[0xb6, 0x00, 0x6d]⟩⟩ 0 = .ok (.invokevirtual 109, 3) := by decide +kernel
theorem eb_1409 : opK [0xa7, 0x05, 0x01] = true ∧ decode ⟨⟨[0xa7, 0x05, 0x01]⟩⟩ 0 = .ok (.goto 1281, 3) := by decide +kernel
theorem eb_1410 : opK [0xb6, 0x00, 0x71] = true ∧ decode ⟨⟨[0xb6, 0x00, 0x71]⟩⟩ 0 = .ok (.invokevirtual 113, 3) := by decide +kernel
theorem eb_1411 : opK [0xb6, 0x00, 0x74] = true ∧ decode ⟨⟨[0xb6, 0x00, 0x74]⟩⟩ 0 = .ok (.invokevirtual 116, 3) := by decide +kernel
theorem eb_1412 : opK [0xa7, 0x04, 0xdc] = true ∧ decode ⟨⟨[0xa7, 0x04, 0xdc]⟩⟩ 0 = .ok (.goto 1244, 3) := by decide +kernel
theorem eb_1413 : opK [0xb6, 0x00, 0x75] = true ∧ decode ⟨⟨[0xb6, 0x00, 0x75]⟩⟩ 0 = .ok (.invokevirtual 117, 3) := by decide +kernel
theorem eb_1414 : opK [0xb6, 0x00, 0x78] = true ∧ decode ⟨⟨[0xb6, 0x00, 0x78]⟩⟩ 0 = .ok (.invokevirtual 120, 3) := by decide +kernel
theorem eb_1415 : opK [0xa7, 0x04, 0xc3] = true ∧ decode ⟨⟨[0xa7, 0x04, 0xc3]⟩⟩ 0 = .ok (.goto 1219, 3) := by decide +kernel
theorem eb_1416 : opK [0xb6, 0x00, 0x7c] = true ∧ decode ⟨⟨[0xb6, 0x00, 0x7c]⟩⟩ 0 = .ok (.invokevirtual 124, 3) := by decide +kernel
theorem eb_1417 : opK [0xa7, 0x04, 0xaa] = true ∧ decode ⟨⟨[0xa7, 0x04, 0xaa]⟩⟩ 0 = .ok (.goto 1194, 3) := by decide +kernel
theorem eb_1418 : opK [0xb6, 0x00, 0x7d] = true ∧ decode ⟨⟨[0xb6, 0x00, 0x7d]⟩⟩ 0 = .ok (.invokevirtual 125, 3) := by decide +kernel
theorem eb_1419 : opK [0xb6, 0x00, 0x80] = true ∧ decode ⟨⟨[0xb6, 0x00, 0x80]⟩⟩ 0 = .ok (.invokevirtual 128, 3) := by decide +kernel
theorem eb_1420 : opK [0xa7, 0x04, 0x85] = true ∧ decode ⟨⟨[0xa7, 0x04, 0x85]⟩⟩ 0 = .ok (.goto 1157, 3) := by decide +kernel
theorem eb_1421 : opK [0xb6, 0x00, 0x84] = true ∧ decode ⟨⟨[0xb6, 0x00, 0x84]⟩⟩ 0 = .ok (.invokevirtual 132, 3) := by decide +kernel
theorem eb_1422 : opK [0xa7, 0x04, 0x60] = true ∧ decode ⟨⟨[0xa7, 0x04, 0x60]⟩⟩ 0 = .ok (.goto 1120, 3) := by decide +kernel
theorem eb_1423 : opK [0xa7, 0x04, 0x13] = true ∧ decode ⟨⟨[0xa7, 0x04, 0x13]⟩⟩ 0 = .ok (.goto 1043, 3) := by decide +kernel
theorem eb_1424 : opK [0xb6, 0x00, 0x8a] = true ∧ decode ⟨⟨[0xb6, 0x00, 0x8a]⟩⟩ 0 = .ok (.invokevirtual 138, 3) := by decide +kernel
theorem eb_1425 : opK [0xb6, 0x00, 0x8d] = true ∧ decode ⟨⟨[0xb6, 0x00, 0x8d]⟩⟩ 0 = .ok (.invokevirtual 141, 3) := by decide +kernel
theorem eb_1426 : opK [0xa7, 0x03, 0xfa] = true ∧ decode ⟨⟨[0xa7, 0x03, 0xfa]⟩⟩ 0 = .ok (.goto 1018, 3) := by decide +kernel
theorem eb_1427 : opK [0xb6, 0x00, 0x8e] = true ∧ decode ⟨⟨[0xb6, 0x00, 0x8e]⟩⟩ 0 = .ok (.invokevirtual 142, 3) := by decide +kernel
theorem eb_1428 : opK [0xb6, 0x00, 0x91] = true ∧ decode ⟨⟨[0xb6, 0x00, 0x91]⟩⟩ 0 = .ok (.invokevirtual 145, 3) := by decide +kernel
theorem eb_1429 : opK [0xa7, 0x03, 0xc9] = true ∧ decode ⟨⟨[0xa7, 0x03, 0xc9]⟩⟩ 0 = .ok (.goto 969, 3) := by decide +kernel
theorem eb_1430 : opK [0xb6, 0x00, 0x95] = true ∧ decode ⟨⟨[0xb6, 0x00, 0x95]⟩⟩ 0 = .ok (.invokevirtual 149, 3) := by decide +kernel
theorem eb_1431 : opK [0xa7, 0x03, 0x98] = true ∧ decode ⟨⟨[0xa7, 0x03, 0x98]⟩⟩ 0 = .ok (.goto 920, 3) := by decide +kernel
theorem eb_1432 : opK [0xb6, 0x00, 0x96] = true ∧ decode ⟨⟨[0xb6, 0x00, 0x96]⟩⟩ 0 = .ok (.invokevirtual 150, 3) := by decide +kernel
theorem eb_1433 : opK [0xb6, 0x00, 0x99] = true ∧ decode ⟨⟨[0xb6, 0x00, 0x99]⟩⟩ 0 = .ok (.invokevirtual 153, 3) := by decide +kernel
theorem eb_1434 : opK [0xa7, 0x03, 0x67] = true ∧ decode ⟨⟨[0xa7, 0x03, 0x67]⟩⟩ 0 = .ok (.goto 871, 3) := by decide +kernel
theorem eb_1435 : opK [0xa7, 0x03, 0x4e] = true ∧ decode ⟨⟨[0xa7, 0x03, 0x4e]⟩⟩ 0 = .ok (.goto 846, 3) := by decide +kernel
theorem eb_1436 : opK [0xb6, 0x00, 0x9e] = true ∧ decode ⟨⟨[0xb6, 0x00, 0x9e]⟩⟩ 0 = .ok (.invokevirtual 158, 3) := by decide +kernel
theorem eb_1437 : opK [0xb6, 0x00, 0xa2] = true ∧ decode ⟨⟨[0xb6, 0x00, 0xa2]⟩⟩ 0 = .ok (.invokevirtual 162, 3) := by decide +kernel
theorem eb_1438 : opK [0xa7, 0x03, 0x19] = true ∧ decode ⟨⟨[0xa7, 0x03, 0x19]⟩⟩ 0 = .ok (.goto 793, 3) := by decide +kernel
theorem eb_1439 : opK [0xb6, 0x00, 0xa3] = true ∧ decode ⟨⟨[0xb6, 0x00, 0xa3]⟩⟩ 0 = .ok (.invokevirtual 163, 3) := by decide +kernel
theorem eb_1440 : opK [0xb6, 0x00, 0xa6] = true ∧ decode ⟨⟨[0xb6, 0x00, 0xa6]⟩⟩ 0 = .ok (.invokevirtual 166, 3) := by decide +kernel
theorem eb_1441 : opK [0xa7, 0x03, 0x00] = true ∧ decode ⟨⟨[0xa7, 0x03, 0x00]⟩⟩ 0 = .ok (.goto 768, 3) := by decide +kernel
theorem eb_1442 : opK [0xb6, 0x00, 0xa7] = true ∧ decode ⟨⟨[0xb6, 0x00, 0xa7]⟩⟩ 0 = .ok (.invokevirtual 167, 3) := by decide +kernel
theorem eb_1443 : opK [0xb6, 0x00, 0xaa] = true ∧ decode ⟨⟨[0xb6, 0x00, 0xaa]⟩⟩ 0 = .ok (.invokevirtual 170, 3) := by decide +kernel
theorem eb_1444 : opK [0xa7, 0x02, 0xf3] = true ∧ decode ⟨⟨[0xa7, 0x02, 0xf3]⟩⟩ 0 = .ok (.goto 755, 3) := by decide +kernel
theorem eb_1445 : opK [0xb6, 0x00, 0xab] = true ∧ decode ⟨⟨[0xb6, 0x00, 0xab]⟩⟩ 0 = .ok (.invokevirtual 171, 3) := by decide +kernel
theorem eb_1446 : opK [0xb6, 0x00, 0xae] = true ∧ decode ⟨⟨[0xb6, 0x00, 0xae]⟩⟩ 0 = .ok (.invokevirtual 174, 3) := by decide +kernel
theorem eb_1447 : opK [0xa7, 0x02, 0xda] = true ∧ decode ⟨⟨[0xa7, 0x02, 0xda]⟩⟩ 0 = .ok (.goto 730, 3) := by decide +kernel
theorem eb_1448 : opK [0xb6, 0x00, 0xaf] = true ∧ decode ⟨⟨[0xb6, 0x00, 0xaf]⟩⟩ 0 = .ok (.invokevirtual 175, 3) := by decide +kernel
theorem eb_1449 : opK [0xb6, 0x00, 0xb2] = true ∧ decode ⟨⟨[0xb6, 0x00, 0xb2]⟩⟩ 0 = .ok (.invokevirtual 178, 3) := by decide +kernel
theorem eb_1450 : opK [0xa7, 0x02, 0xc1] = true ∧ decode ⟨⟨[0xa7, 0x02, 0xc1]⟩⟩ 0 = .ok (.goto 705, 3) := by decide +kernel
theorem eb_1451 : opK [0xb6, 0x00, 0xb6] = true ∧ decode ⟨⟨[0xb6, 0x00, 0xb6]⟩⟩ 0 = .ok (.invokevirtual 182, 3) := by decide +kernel
theorem eb_1452 : opK [0xa7, 0x02, 0xa8] = true ∧ decode ⟨⟨[0xa7, 0x02, 0xa8]⟩⟩ 0 = .ok (.goto 680, 3) := by decide +kernel
theorem eb_1453 : opK [0xb6, 0x00, 0xb7] = true ∧ decode ⟨⟨[0xb6, 0x00, 0xb7]⟩⟩ 0 = .ok (.invokevirtual 183, 3) := by decide +kernel
theorem eb_1454 : opK [0xa7, 0x02, 0x77] = true ∧ decode ⟨⟨[0xa7, 0x02, 0x77]⟩⟩ 0 = .ok (.goto 631, 3) := by decide +kernel
theorem eb_1455 : opK [0xb6, 0x00, 0xbb] = true ∧ decode ⟨⟨[0xb6, 0x00, 0xbb]⟩⟩ 0 = .ok (.invokevirtual 187, 3) := by decide +kernel
theorem eb_1456 : opK [0xb6, 0x00, 0xbe] = true ∧ decode ⟨⟨[0xb6, 0x00, 0xbe]⟩⟩ 0 = .ok (.invokevirtual 190, 3) := by decide +kernel
theorem eb_1457 : opK [0xa7, 0x02, 0x52] = true ∧ decode ⟨⟨[0xa7, 0x02, 0x52]⟩⟩ 0 = .ok (.goto 594, 3) := by decide +kernel
theorem eb_1458 : opK [0xb6, 0x00, 0xbf] = true ∧ decode ⟨⟨[0xb6, 0x00, 0xbf]⟩⟩ 0 = .ok (.invokevirtual 191, 3) := by decide +kernel
theorem eb_1459 : opK [0xb6, 0x00, 0xc2] = true ∧ decode ⟨⟨[0xb6, 0x00, 0xc2]⟩⟩ 0 = .ok (.invokevirtual 194, 3) := by decide +kernel
theorem eb_1460 : opK [0xa7, 0x02, 0x39] = true ∧ decode ⟨⟨[0xa7, 0x02, 0x39]⟩⟩ 0 = .ok (.goto 569, 3) := by decide +kernel
theorem eb_1461 : opK [0xb6, 0x00, 0xc3] = true ∧ decode ⟨⟨[0xb6, 0x00, 0xc3]⟩⟩ 0 = .ok (.invokevirtual 195, 3) := by decide +kernel
theorem eb_1462 : opK [0xb6, 0x00, 0xc6] = true ∧ decode ⟨⟨[0xb6, 0x00, 0xc6]⟩⟩ 0 = .ok (.invokevirtual 198, 3) := by decide +kernel
theorem eb_1463 : opK [0xa7, 0x02, 0x14] = true ∧ decode ⟨⟨[0xa7, 0x02, 0x14]⟩⟩ 0 = .ok (.goto 532, 3) := by decide +kernel
theorem eb_1464 : opK [0xb6, 0x00, 0xc7] = true ∧ decode ⟨⟨[0xb6, 0x00, 0xc7]⟩⟩ 0 = .ok (.invokevirtual 199, 3) := by decide +kernel
theorem eb_1465 : opK [0xb6, 0x00, 0xca] = true ∧ decode ⟨⟨[0xb6, 0x00, 0xca]⟩⟩ 0 = .ok (.invokevirtual 202, 3) := by decide +kernel
theorem eb_1466 : opK [0xa7, 0x01, 0xe3] = true ∧ decode ⟨⟨[0xa7, 0x01, 0xe3]⟩⟩ 0 = .ok (.goto 483, 3) := by decide +kernel
theorem eb_1467 : opK [0xb6, 0x00, 0xcb] = true ∧ decode ⟨⟨[0xb6, 0x00, 0xcb]⟩⟩ 0 = .ok (.invokevirtual 203, 3) := by decide +kernel
theorem eb_1468 : opK [0xb6, 0x00, 0xce] = true ∧ decode ⟨⟨[0xb6, 0x00, 0xce]⟩⟩ 0 = .ok (.invokevirtual 206, 3) := by decide +kernel
theorem eb_1469 : opK [0xa7, 0x01, 0xca] = true ∧ decode ⟨⟨[0xa7, 0x01, 0xca]⟩⟩ 0 = .ok (.goto 458, 3) := by decide +kernel
theorem eb_1470 : opK [0xb6, 0x00, 0xd2] = true ∧ decode ⟨⟨[0xb6, 0x00, 0xd2]⟩⟩ 0 = .ok (.invokevirtual 210, 3) := by decide +kernel
theorem eb_1471 : opK [0x9f, 0x01, 0xb3] = true ∧ decode ⟨⟨[0x9f, 0x01, 0xb3]⟩⟩ 0 = .ok (.if_icmp .eq 435, 3) := by decide +kernel
theorem eb_1472 : opK [0xb6, 0x00, 0xd3] = true ∧ decode ⟨⟨[0xb6, 0x00, 0xd3]⟩⟩ 0 = .ok (.invokevirtual 211, 3) := by decide +kernel
theorem eb_1473 : opK [0xb6, 0x00, 0xd6] = true ∧ decode ⟨⟨[0xb6, 0x00, 0xd6]⟩⟩ 0 = .ok (.invokevirtual 214, 3) := by decide +kernel
theorem eb_1474 : opK [0xa7, 0x01, 0xa6] = true ∧ decode ⟨⟨[0xa7, 0x01, 0xa6]⟩⟩ 0 = .ok (.goto 422, 3) := by decide +kernel
theorem eb_1475 : opK [0xb6, 0x00, 0xd7] = true ∧ decode ⟨⟨[0xb6, 0x00, 0xd7]⟩⟩ 0 = .ok (.invokevirtual 215, 3) := by decide +kernel
theorem eb_1476 : opK [0xb6, 0x00, 0xda] = true ∧ decode ⟨⟨[0xb6, 0x00, 0xda]⟩⟩ 0 = .ok (.invokevirtual 218, 3) := by decide +kernel
theorem eb_1477 : opK [0xa7, 0x01, 0x8d] = true ∧ decode ⟨⟨[0xa7, 0x01, 0x8d]⟩⟩ 0 = .ok (.goto 397, 3) := by decide +kernel
theorem eb_1478 : opK [0xb6, 0x00, 0xdb] = true ∧ decode ⟨⟨[0xb6, 0x00, 0xdb]⟩⟩ 0 = .ok (.invokevirtual 219, 3) := by decide +kernel
theorem eb_1479 : opK [0xa7, 0x01, 0x5c] = true ∧ decode ⟨⟨[0xa7, 0x01, 0x5c]⟩⟩ 0 = .ok (.goto 348, 3) := by decide +kernel
theorem eb_1480 : opK [0xb6, 0x00, 0xdf] = true ∧ decode ⟨⟨[0xb6, 0x00, 0xdf]⟩⟩ 0 = .ok (.invokevirtual 223, 3) := by decide +kernel
theorem eb_1481 : opK [0xb6, 0x00, 0xe2] = true ∧ decode ⟨⟨[0xb6, 0x00, 0xe2]⟩⟩ 0 = .ok (.invokevirtual 226, 3) := by decide +kernel
theorem eb_1482 : opK [0xa7, 0x01, 0x2b] = true ∧ decode ⟨⟨[0xa7, 0x01, 0x2b]⟩⟩ 0 = .ok (.goto 299, 3) := by decide +kernel
theorem eb_1483 : opK [0xb6, 0x00, 0xe3] = true ∧ decode ⟨⟨[0xb6, 0x00, 0xe3]⟩⟩ 0 = .ok (.invokevirtual 227, 3) := by decide +kernel
theorem eb_1484 : opK [0xb6, 0x00, 0xe6] = true ∧ decode ⟨⟨[0xb6, 0x00, 0xe6]⟩⟩ 0 = .ok (.invokevirtual 230, 3) := by decide +kernel
theorem eb_1485 : opK [0xa7, 0x00, 0xfa] = true ∧ decode ⟨⟨[0xa7, 0x00, 0xfa]⟩⟩ 0 = .ok (.goto 250, 3) := by decide +kernel
theorem eb_1486 : opK [0xb6, 0x00, 0xe7] = true ∧ decode ⟨⟨[0xb6, 0x00, 0xe7]⟩⟩ 0 = .ok (.invokevirtual 231, 3) := by decide +kernel
theorem eb_1487 : opK [0xb6, 0x00, 0xea] = true ∧ decode ⟨⟨[0xb6, 0x00, 0xea]⟩⟩ 0 = .ok (.invokevirtual 234, 3) := by decide +kernel
theorem eb_1488 : opK [0xa7, 0x00, 0xed] = true ∧ decode ⟨⟨[0xa7, 0x00, 0xed]⟩⟩ 0 = .ok (.goto 237, 3) := by decide +kernel
theorem eb_1489 : opK [0xb6, 0x00, 0xeb] = true ∧ decode ⟨⟨[0xb6, 0x00, 0xeb]⟩⟩ 0 = .ok (.invokevirtual 235, 3) := by decide +kernel
theorem eb_1490 : opK [0xb6, 0x00, 0xee] = true ∧ decode ⟨⟨[0xb6, 0x00, 0xee]⟩⟩ 0 = .ok (.invokevirtual 238, 3) := by decide +kernel
theorem eb_1491 : opK [0xa7, 0x00, 0xc8] = true ∧ decode ⟨⟨[0xa7, 0x00, 0xc8]⟩⟩ 0 = .ok (.goto 200, 3) := by decide +kernel
theorem eb_1492 : opK [0xb6, 0x00, 0xef] = true ∧ decode ⟨⟨[0xb6, 0x00, 0xef]⟩⟩ 0 = .ok (.invokevirtual 239, 3) := by decide +kernel
theorem eb_1493 : opK [0xb6, 0x00, 0xf2] = true ∧ decode ⟨⟨[0xb6, 0x00, 0xf2]⟩⟩ 0 = .ok (.invokevirtual 242, 3) := by decide +kernel
theorem eb_1494 : opK [0xa7, 0x00, 0x97] = true ∧ decode ⟨⟨[0xa7, 0x00, 0x97]⟩⟩ 0 = .ok (.goto 151, 3) := by decide +kernel
theorem eb_1495 : opK [0xb6, 0x00, 0xf3] = true ∧ decode ⟨⟨[0xb6, 0x00, 0xf3]⟩⟩ 0 = .ok (.invokevirtual 243, 3) := by decide +kernel
theorem eb_1496 : opK [0xb6, 0x00, 0xf6] = true ∧ decode ⟨⟨[0xb6, 0x00, 0xf6]⟩⟩ 0 = .ok (.invokevirtual 246, 3) := by decide +kernel
theorem eb_1497 : opK [0xa7, 0x00, 0x7e] = true ∧ decode ⟨⟨[0xa7, 0x00, 0x7e]⟩⟩ 0 = .ok (.goto 126, 3) := by decide +kernel
theorem eb_1498 : opK [0xb6, 0x00, 0xf7] = true ∧ decode ⟨⟨[0xb6, 0x00, 0xf7]⟩⟩ 0 = .ok (.invokevirtual 247, 3) := by decide +kernel
theorem eb_1499 : opK [0xb6, 0x00, 0xfa] = true ∧ decode ⟨⟨[0xb6, 0x00, 0xfa]⟩⟩ 0 = .ok (.invokevirtual 250, 3) := by decide +kernel
theorem eb_1500 : opK [0xa7, 0x00, 0x59] = true ∧ decode ⟨⟨[0xa7, 0x00, 0x59]⟩⟩ 0 = .ok (.goto 89, 3) := by decide +kernel
theorem eb_1501 : opK [0xb6, 0x00, 0xfb] = true ∧ decode ⟨⟨[0xb6, 0x00, 0xfb]⟩⟩ 0 = .ok (.invokevirtual 251, 3) := by decide +kernel
theorem eb_1502 : opK [0xb6, 0x00, 0xff] = true ∧ decode ⟨⟨[0xb6, 0x00, 0xff]⟩⟩ 0 = .ok (.invokevirtual 255, 3) := by decide +kernel
theorem eb_1503 : opK [0xa7, 0x00, 0x1c] = true ∧ decode ⟨⟨[0xa7, 0x00, 0x1c]⟩⟩ 0 = .ok (.goto 28, 3) := by decide +kernel
theorem eb_1504 : opK [0xb6, 0x01, 0x00] = true ∧ decode ⟨⟨[0xb6, 0x01, 0x00]⟩⟩ 0 = .ok (.invokevirtual 256, 3) := by decide +kernel
theorem eb_1505 : opK [0xb6, 0x01, 0x03] = true ∧ decode ⟨⟨[0xb6, 0x01, 0x03]⟩⟩ 0 = .ok (.invokevirtual 259, 3) := by decide +kernel
theorem eb_1506 : opK [0xa7, 0x00, 0x03] = true ∧ decode ⟨⟨[0xa7, 0x00, 0x03]⟩⟩ 0 = .ok (.goto 3, 3) := by decide +kernel
theorem eb_1507 : opK [0x84, 0x04, 0x06] = true ∧ decode ⟨⟨[0x84, 0x04, 0x06]⟩⟩ 0 = .ok (.iinc 4 6, 3) := by decide +kernel
theorem eb_1508 : opK [0xa7, 0xf6, 0xae] = true ∧ decode ⟨⟨[0xa7, 0xf6, 0xae]⟩⟩ 0 = .ok (.goto (-2386), 3) := by decide +kernel
