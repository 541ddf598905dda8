section
/-- from cell k on the bytes of c are those of w -/
noncomputable def Wd_ (c w : ByteArray) (k : Nat) : Prop := ∀ i (h : i < w.size), ∃ h2 : k + i < c.size, c[k + i] = w[i]
noncomputable def Sh_ {α : Type} (r r' : Jvm.ClassFile.Decoder α) : Prop := ∀ (c w : ByteArray) (k : Nat), Wd_ c w k → ∀ p a q, r w p = .ok (a, q) → r' c (k + p) = .ok (a, k + q)
theorem sh_p {α : Type} (x : α) : Sh_ (pure x) (pure x) := fun c w k _ p a q e => by
  have e' : (Except.ok (x, p) : Except Jvm.ClassFile.DecodeError (α × Nat)) = .ok (a, q) := e
  injection e' with e'
  injection e' with e1 e2
  subst e1 e2
  rfl
theorem sh_b {α β : Type} {r r' : Jvm.ClassFile.Decoder α} {f f' : α → Jvm.ClassFile.Decoder β} (h : Sh_ r r') (g : ∀ x, Sh_ (f x) (f' x)) : Sh_ (r >>= f) (r' >>= f') := fun c w k hw p a q e => by
  have e' : Except.bind (r w p) (fun y => f y.1 w y.2) = .ok (a, q) := e
  cases hr : r w p with
  | error z =>
    rw [hr] at e'
    have e2 : (Except.error z : Except Jvm.ClassFile.DecodeError (β × Nat)) = .ok (a, q) := e'
    cases e2
  | ok y =>
    obtain ⟨x, s⟩ := y
    rw [hr] at e'
    have e2 : f x w s = .ok (a, q) := e'
    have t := h c w k hw p x s hr
    show Except.bind (r' c (k + p)) (fun y => f' y.1 c y.2) = _
    rw [t]
    exact g x c w k hw s a q e2
theorem sh_m {α β : Type} {r r' : Jvm.ClassFile.Decoder α} (f : α → β) (h : Sh_ r r') : Sh_ (f <$> r) (f <$> r') := fun c w k hw p a q e => by
  have e' : Except.bind (r w p) (fun y => (.ok (f y.1, y.2) : Except Jvm.ClassFile.DecodeError (β × Nat))) = .ok (a, q) := e
  cases hr : r w p with
  | error z =>
    rw [hr] at e'
    have e2 : (Except.error z : Except Jvm.ClassFile.DecodeError (β × Nat)) = .ok (a, q) := e'
    cases e2
  | ok y =>
    obtain ⟨x, s⟩ := y
    rw [hr] at e'
    have e2 : (Except.ok (f x, s) : Except Jvm.ClassFile.DecodeError (β × Nat)) = .ok (a, q) := e'
    injection e2 with e2
    injection e2 with e3 e4
    subst e3 e4
    have t := h c w k hw p x s hr
    show Except.bind (r' c (k + p)) (fun y => (.ok (f y.1, y.2) : Except Jvm.ClassFile.DecodeError (β × Nat))) = _
    rw [t]
    rfl
theorem u1_run (c : ByteArray) (p : Nat) (h : p < c.size) : (Jvm.ClassFile.Reader.u1 : Jvm.ClassFile.Decoder Nat) c p = .ok (c[p].toNat, p + 1) := by
  show (dite (p < c.size) (fun h => ((do set (p + 1); pure c[p].toNat) : Jvm.ClassFile.Decoder Nat)) (fun _ => throw (Jvm.ClassFile.HasTruncated.truncated p))) c p = _
  rw [dif_pos h]
  rfl
theorem u1_bad (c : ByteArray) (p : Nat) (h : ¬ p < c.size) : (Jvm.ClassFile.Reader.u1 : Jvm.ClassFile.Decoder Nat) c p = .error (.truncated p) := by
  show (dite (p < c.size) (fun h => ((do set (p + 1); pure c[p].toNat) : Jvm.ClassFile.Decoder Nat)) (fun _ => throw (Jvm.ClassFile.HasTruncated.truncated p))) c p = _
  rw [dif_neg h]
  rfl
theorem sh_u1 : Sh_ (Jvm.ClassFile.Reader.u1 : Jvm.ClassFile.Decoder Nat) Jvm.ClassFile.Reader.u1 := fun c w k hw p a q e => by
  by_cases h : p < w.size
  · rw [u1_run w p h] at e
    injection e with e
    injection e with e1 e2
    obtain ⟨h2, hb⟩ := hw p h
    rw [u1_run c (k + p) h2, hb, e1, ← e2]
    rfl
  · rw [u1_bad w p h] at e
    cases e
theorem sh_u2 : Sh_ (Jvm.ClassFile.Reader.u2 : Jvm.ClassFile.Decoder Nat) Jvm.ClassFile.Reader.u2 := sh_b sh_u1 (fun _ => sh_b sh_u1 (fun _ => sh_p _))
theorem sh_s1 : Sh_ (Jvm.ClassFile.Reader.s1 : Jvm.ClassFile.Decoder Int) Jvm.ClassFile.Reader.s1 := sh_m _ sh_u1
theorem sh_s2 : Sh_ (Jvm.ClassFile.Reader.s2 : Jvm.ClassFile.Decoder Int) Jvm.ClassFile.Reader.s2 := sh_m _ sh_u2
theorem sh_t {α : Type} {a b : Jvm.ClassFile.DecodeError} : Sh_ (throw a : Jvm.ClassFile.Decoder α) (throw b : Jvm.ClassFile.Decoder α) := fun c w k _ p x q e => by
  have e' : (Except.error a : Except Jvm.ClassFile.DecodeError (α × Nat)) = .ok (x, q) := e
  cases e'
theorem sh_na (p p' : Nat) : Sh_ (Jvm.ClassFile.Decoder.newarray p) (Jvm.ClassFile.Decoder.newarray p') := by
  unfold Jvm.ClassFile.Decoder.newarray
  refine sh_b sh_u1 (fun x => ?_)
  match x with
  | 0 => exact sh_t
  | 1 => exact sh_t
  | 2 => exact sh_t
  | 3 => exact sh_t
  | 4 => exact sh_p _
  | 5 => exact sh_p _
  | 6 => exact sh_p _
  | 7 => exact sh_p _
  | 8 => exact sh_p _
  | 9 => exact sh_p _
  | 10 => exact sh_p _
  | 11 => exact sh_p _
  | _ + 12 => exact sh_t
noncomputable def Aln (Q : Nat → Prop) : List Nat → Prop
  | [] => True
  | a :: r => Q a ∧ Aln Q r
theorem aln_c {Q : Nat → Prop} {a : Nat} {r : List Nat} (h : Q a) (t : Aln Q r) : Aln Q (a :: r) := ⟨h, t⟩
theorem aln_of {Q : Nat → Prop} {n : Nat} : ∀ {l : List Nat}, Aln Q l → (l.any (fun x => Nat.beq x n)) = true → Q n
  | [], _, h => by cases h
  | a :: r, ⟨h1, h2⟩, h => by
    have h' : (Nat.beq a n || r.any (fun x => Nat.beq x n)) = true := h
    rcases (Bool.or_eq_true _ _).mp h' with z | z
    · rw [← Nat.eq_of_beq_eq_true z]; exact h1
    · exact aln_of h2 z
noncomputable abbrev ops_ : List Nat := [42, 43, 180, 27, 26, 28, 3, 4, 21, 182, 44, 45, 29, 5, 6, 7, 8, 2, 172, 46, 96, 79, 59, 60, 61, 62, 104, 89, 177, 100, 126, 120, 128, 122, 108, 190, 87, 51, 30, 31, 32, 33, 133, 92, 112, 84, 47, 50, 80, 83, 124, 105, 97, 136, 130, 121, 9, 10, 146, 101, 123, 129, 148, 145, 191, 176, 131, 63, 64, 65, 66, 173, 127, 1, 75, 76, 77, 78, 54, 25, 18, 58, 55, 22, 181, 184, 183, 19, 187, 20, 178, 189, 16, 17, 153, 154, 155, 156, 157, 158, 159, 160, 161, 162, 163, 164, 167, 198, 199, 132, 188]
set_option maxRecDepth 10000 in
theorem ish_ : ∃ f : Nat → Nat → Jvm.ClassFile.Decoder Instr, (∀ pc, Jvm.ClassFile.Decoder.instr pc = (Jvm.ClassFile.Reader.u1 >>= f pc : Jvm.ClassFile.Decoder Instr)) ∧ ∀ pc, Aln (fun n => Sh_ (f 0 n) (f pc n)) ops_ := by
  refine ⟨_, fun pc => rfl, fun pc => ?_⟩
  unfold ops_
  refine aln_c (sh_p _) ?_
  refine aln_c (sh_p _) ?_
  refine aln_c (sh_b sh_u2 (fun _ => sh_p _)) ?_
  refine aln_c (sh_p _) ?_
  refine aln_c (sh_p _) ?_
  refine aln_c (sh_p _) ?_
  refine aln_c (sh_p _) ?_
  refine aln_c (sh_p _) ?_
  refine aln_c (sh_b sh_u1 (fun _ => sh_p _)) ?_
  refine aln_c (sh_b sh_u2 (fun _ => sh_p _)) ?_
  refine aln_c (sh_p _) ?_
  refine aln_c (sh_p _) ?_
  refine aln_c (sh_p _) ?_
  refine aln_c (sh_p _) ?_
  refine aln_c (sh_p _) ?_
  refine aln_c (sh_p _) ?_
  refine aln_c (sh_p _) ?_
  refine aln_c (sh_p _) ?_
  refine aln_c (sh_p _) ?_
  refine aln_c (sh_p _) ?_
  refine aln_c (sh_p _) ?_
  refine aln_c (sh_p _) ?_
  refine aln_c (sh_p _) ?_
  refine aln_c (sh_p _) ?_
  refine aln_c (sh_p _) ?_
  refine aln_c (sh_p _) ?_
  refine aln_c (sh_p _) ?_
  refine aln_c (sh_p _) ?_
  refine aln_c (sh_p _) ?_
  refine aln_c (sh_p _) ?_
  refine aln_c (sh_p _) ?_
  refine aln_c (sh_p _) ?_
  refine aln_c (sh_p _) ?_
  refine aln_c (sh_p _) ?_
  refine aln_c (sh_p _) ?_
  refine aln_c (sh_p _) ?_
  refine aln_c (sh_p _) ?_
  refine aln_c (sh_p _) ?_
  refine aln_c (sh_p _) ?_
  refine aln_c (sh_p _) ?_
  refine aln_c (sh_p _) ?_
  refine aln_c (sh_p _) ?_
  refine aln_c (sh_p _) ?_
  refine aln_c (sh_p _) ?_
  refine aln_c (sh_p _) ?_
  refine aln_c (sh_p _) ?_
  refine aln_c (sh_p _) ?_
  refine aln_c (sh_p _) ?_
  refine aln_c (sh_p _) ?_
  refine aln_c (sh_p _) ?_
  refine aln_c (sh_p _) ?_
  refine aln_c (sh_p _) ?_
  refine aln_c (sh_p _) ?_
  refine aln_c (sh_p _) ?_
  refine aln_c (sh_p _) ?_
  refine aln_c (sh_p _) ?_
  refine aln_c (sh_p _) ?_
  refine aln_c (sh_p _) ?_
  refine aln_c (sh_p _) ?_
  refine aln_c (sh_p _) ?_
  refine aln_c (sh_p _) ?_
  refine aln_c (sh_p _) ?_
  refine aln_c (sh_p _) ?_
  refine aln_c (sh_p _) ?_
  refine aln_c (sh_p _) ?_
  refine aln_c (sh_p _) ?_
  refine aln_c (sh_p _) ?_
  refine aln_c (sh_p _) ?_
  refine aln_c (sh_p _) ?_
  refine aln_c (sh_p _) ?_
  refine aln_c (sh_p _) ?_
  refine aln_c (sh_p _) ?_
  refine aln_c (sh_p _) ?_
  refine aln_c (sh_p _) ?_
  refine aln_c (sh_p _) ?_
  refine aln_c (sh_p _) ?_
  refine aln_c (sh_p _) ?_
  refine aln_c (sh_p _) ?_
  refine aln_c (sh_b sh_u1 (fun _ => sh_p _)) ?_
  refine aln_c (sh_b sh_u1 (fun _ => sh_p _)) ?_
  refine aln_c (sh_b sh_u1 (fun _ => sh_p _)) ?_
  refine aln_c (sh_b sh_u1 (fun _ => sh_p _)) ?_
  refine aln_c (sh_b sh_u1 (fun _ => sh_p _)) ?_
  refine aln_c (sh_b sh_u1 (fun _ => sh_p _)) ?_
  refine aln_c (sh_b sh_u2 (fun _ => sh_p _)) ?_
  refine aln_c (sh_b sh_u2 (fun _ => sh_p _)) ?_
  refine aln_c (sh_b sh_u2 (fun _ => sh_p _)) ?_
  refine aln_c (sh_b sh_u2 (fun _ => sh_p _)) ?_
  refine aln_c (sh_b sh_u2 (fun _ => sh_p _)) ?_
  refine aln_c (sh_b sh_u2 (fun _ => sh_p _)) ?_
  refine aln_c (sh_b sh_u2 (fun _ => sh_p _)) ?_
  refine aln_c (sh_b sh_u2 (fun _ => sh_p _)) ?_
  refine aln_c (sh_b sh_s1 (fun _ => sh_p _)) ?_
  refine aln_c (sh_b sh_s2 (fun _ => sh_p _)) ?_
  refine aln_c (sh_b sh_s2 (fun _ => sh_p _)) ?_
  refine aln_c (sh_b sh_s2 (fun _ => sh_p _)) ?_
  refine aln_c (sh_b sh_s2 (fun _ => sh_p _)) ?_
  refine aln_c (sh_b sh_s2 (fun _ => sh_p _)) ?_
  refine aln_c (sh_b sh_s2 (fun _ => sh_p _)) ?_
  refine aln_c (sh_b sh_s2 (fun _ => sh_p _)) ?_
  refine aln_c (sh_b sh_s2 (fun _ => sh_p _)) ?_
  refine aln_c (sh_b sh_s2 (fun _ => sh_p _)) ?_
  refine aln_c (sh_b sh_s2 (fun _ => sh_p _)) ?_
  refine aln_c (sh_b sh_s2 (fun _ => sh_p _)) ?_
  refine aln_c (sh_b sh_s2 (fun _ => sh_p _)) ?_
  refine aln_c (sh_b sh_s2 (fun _ => sh_p _)) ?_
  refine aln_c (sh_b sh_s2 (fun _ => sh_p _)) ?_
  refine aln_c (sh_b sh_s2 (fun _ => sh_p _)) ?_
  refine aln_c (sh_b sh_s2 (fun _ => sh_p _)) ?_
  refine aln_c (sh_b sh_u1 (fun _ => sh_b sh_s1 (fun _ => sh_p _))) ?_
  refine aln_c (sh_na _ _) ?_
  exact trivial
noncomputable def opK (l : List UInt8) : Bool := ops_.any (fun x => Nat.beq x (l.headD 0).toNat)
theorem wd_ok {c : ByteArray} {k : Nat} {l : List UInt8} {x : Instr × Nat} (hw : Wd_ c ⟨⟨l⟩⟩ k) (ho : opK l = true) (e : decode ⟨⟨l⟩⟩ 0 = .ok x) : decode c k = .ok x := by
  obtain ⟨f, hf, hs⟩ := ish_
  cases l with
  | nil =>
    have e1 : Except.bind ((Jvm.ClassFile.Decoder.instr 0) ⟨⟨[]⟩⟩ 0) (fun y => (.ok (y.1, y.2 - 0) : Except Jvm.ClassFile.DecodeError (Instr × Nat))) = .ok x := e
    rw [hf 0] at e1
    have e2 : Except.bind (Except.bind ((Jvm.ClassFile.Reader.u1 : Jvm.ClassFile.Decoder Nat) ⟨⟨[]⟩⟩ 0) (fun y => f 0 y.1 ⟨⟨[]⟩⟩ y.2)) (fun y => (.ok (y.1, y.2 - 0) : Except Jvm.ClassFile.DecodeError (Instr × Nat))) = .ok x := e1
    rw [u1_bad ⟨⟨[]⟩⟩ 0 (by decide)] at e2
    cases e2
  | cons b r =>
    have e1 : Except.bind ((Jvm.ClassFile.Decoder.instr 0) ⟨⟨b :: r⟩⟩ 0) (fun y => (.ok (y.1, y.2 - 0) : Except Jvm.ClassFile.DecodeError (Instr × Nat))) = .ok x := e
    rw [hf 0] at e1
    have e2 : Except.bind (Except.bind ((Jvm.ClassFile.Reader.u1 : Jvm.ClassFile.Decoder Nat) ⟨⟨b :: r⟩⟩ 0) (fun y => f 0 y.1 ⟨⟨b :: r⟩⟩ y.2)) (fun y => (.ok (y.1, y.2 - 0) : Except Jvm.ClassFile.DecodeError (Instr × Nat))) = .ok x := e1
    have h0 : 0 < (ByteArray.mk ⟨b :: r⟩).size := Nat.zero_lt_succ _
    rw [u1_run ⟨⟨b :: r⟩⟩ 0 h0] at e2
    have e3 : Except.bind (f 0 b.toNat ⟨⟨b :: r⟩⟩ 1) (fun y => (.ok (y.1, y.2 - 0) : Except Jvm.ClassFile.DecodeError (Instr × Nat))) = .ok x := e2
    cases hr : f 0 b.toNat ⟨⟨b :: r⟩⟩ 1 with
    | error z =>
      rw [hr] at e3
      have e4 : (Except.error z : Except Jvm.ClassFile.DecodeError (Instr × Nat)) = .ok x := e3
      cases e4
    | ok y =>
      obtain ⟨j, q⟩ := y
      rw [hr] at e3
      have e4 : (Except.ok (j, q - 0) : Except Jvm.ClassFile.DecodeError (Instr × Nat)) = .ok x := e3
      injection e4 with e5
      have s := aln_of (n := b.toNat) (hs k) ho c ⟨⟨b :: r⟩⟩ k hw 1 j q hr
      obtain ⟨h2, hb⟩ := hw 0 h0
      have hb' : c[k]'h2 = b := hb
      show Except.bind ((Jvm.ClassFile.Decoder.instr k) c k) (fun y => (.ok (y.1, y.2 - k) : Except Jvm.ClassFile.DecodeError (Instr × Nat))) = _
      rw [hf k]
      show Except.bind (Except.bind ((Jvm.ClassFile.Reader.u1 : Jvm.ClassFile.Decoder Nat) c k) (fun y => f k y.1 c y.2)) (fun y => (.ok (y.1, y.2 - k) : Except Jvm.ClassFile.DecodeError (Instr × Nat))) = _
      rw [u1_run c k h2, hb']
      show Except.bind (f k b.toNat c (k + 1)) (fun y => (.ok (y.1, y.2 - k) : Except Jvm.ClassFile.DecodeError (Instr × Nat))) = _
      rw [s]
      show (Except.ok (j, k + q - k) : Except Jvm.ClassFile.DecodeError (Instr × Nat)) = _
      rw [← e5, Nat.add_sub_cancel_left, Nat.sub_zero]
theorem wd_wn (c : ByteArray) (k n : Nat) : Wd_ c ⟨⟨(c.data.toList.drop k).take n⟩⟩ k := fun i h => by
  have h' : i < ((c.data.toList.drop k).take n).length := h
  have h3 : k + i < c.data.toList.length := by
    rw [List.length_take, List.length_drop] at h'
    omega
  refine ⟨h3, ?_⟩
  show c.data.toList[k + i] = ((c.data.toList.drop k).take n)[i]
  rw [List.getElem_take, List.getElem_drop]
noncomputable def Pf_ (c : ByteArray) : List (Nat × List UInt8) → Prop
  | [] => True
  | a :: r => Wd_ c ⟨⟨a.2⟩⟩ a.1 ∧ Pf_ c r
noncomputable def preb : List UInt8 → List UInt8 → Bool
  | [], _ => true
  | _ :: _, [] => false
  | a :: r, b :: s => Nat.beq a.toNat b.toNat && preb r s
theorem preb_ok : ∀ (l m : List UInt8), preb l m = true → l = m.take l.length
  | [], _, _ => List.take_zero.symm
  | _ :: _, [], h => by cases h
  | a :: r, b :: s, h => by
    have h' : (Nat.beq a.toNat b.toNat && preb r s) = true := h
    rw [Bool.and_eq_true] at h'
    have e : a = b := UInt8.toNat_inj.mp (Nat.eq_of_beq_eq_true h'.1)
    show a :: r = b :: s.take r.length
    rw [e, ← preb_ok r s h'.2]
noncomputable def pfc : List UInt8 → Nat → List (Nat × List UInt8) → Bool
  | _, _, [] => true
  | l, k, a :: r => Nat.ble k a.1 && (preb a.2 (l.drop (a.1 - k)) && pfc (l.drop (a.1 - k)) a.1 r)
theorem pf_ok (c : ByteArray) : ∀ (t : List (Nat × List UInt8)) (k : Nat), pfc (c.data.toList.drop k) k t = true → Pf_ c t
  | [], _, _ => trivial
  | a :: r, k, h => by
    have h' : (Nat.ble k a.1 && (preb a.2 ((c.data.toList.drop k).drop (a.1 - k)) && pfc ((c.data.toList.drop k).drop (a.1 - k)) a.1 r)) = true := h
    rw [Bool.and_eq_true, Bool.and_eq_true] at h'
    obtain ⟨h1, h2, h4⟩ := h'
    have hk := Nat.le_of_ble_eq_true h1
    have hd : (c.data.toList.drop k).drop (a.1 - k) = c.data.toList.drop a.1 := by
      rw [List.drop_drop]
      congr 1
      omega
    rw [hd] at h2 h4
    have e := preb_ok _ _ h2
    have w := wd_wn c a.1 a.2.length
    rw [← e] at w
    exact ⟨w, pf_ok c r a.1 h4⟩
theorem gq_0 {c : ByteArray} {p : Nat} {l : List UInt8} {x : Instr × Nat} {r : List (Nat × List UInt8)} (h : Pf_ c ((p, l) :: r)) (e : opK l = true ∧ decode ⟨⟨l⟩⟩ 0 = .ok x) : decode c p = .ok x := wd_ok h.1 e.1 e.2
theorem gq_1 {c : ByteArray} {a0 : Nat × List UInt8} {p : Nat} {l : List UInt8} {x : Instr × Nat} {r : List (Nat × List UInt8)} (h : Pf_ c (a0 :: (p, l) :: r)) (e : opK l = true ∧ decode ⟨⟨l⟩⟩ 0 = .ok x) : decode c p = .ok x := wd_ok h.2.1 e.1 e.2
theorem gq_2 {c : ByteArray} {a0 a1 : Nat × List UInt8} {p : Nat} {l : List UInt8} {x : Instr × Nat} {r : List (Nat × List UInt8)} (h : Pf_ c (a0 :: a1 :: (p, l) :: r)) (e : opK l = true ∧ decode ⟨⟨l⟩⟩ 0 = .ok x) : decode c p = .ok x := wd_ok h.2.2.1 e.1 e.2
theorem gq_3 {c : ByteArray} {a0 a1 a2 : Nat × List UInt8} {p : Nat} {l : List UInt8} {x : Instr × Nat} {r : List (Nat × List UInt8)} (h : Pf_ c (a0 :: a1 :: a2 :: (p, l) :: r)) (e : opK l = true ∧ decode ⟨⟨l⟩⟩ 0 = .ok x) : decode c p = .ok x := wd_ok h.2.2.2.1 e.1 e.2
theorem gq_4 {c : ByteArray} {a0 a1 a2 a3 : Nat × List UInt8} {p : Nat} {l : List UInt8} {x : Instr × Nat} {r : List (Nat × List UInt8)} (h : Pf_ c (a0 :: a1 :: a2 :: a3 :: (p, l) :: r)) (e : opK l = true ∧ decode ⟨⟨l⟩⟩ 0 = .ok x) : decode c p = .ok x := wd_ok h.2.2.2.2.1 e.1 e.2
theorem gq_5 {c : ByteArray} {a0 a1 a2 a3 a4 : Nat × List UInt8} {p : Nat} {l : List UInt8} {x : Instr × Nat} {r : List (Nat × List UInt8)} (h : Pf_ c (a0 :: a1 :: a2 :: a3 :: a4 :: (p, l) :: r)) (e : opK l = true ∧ decode ⟨⟨l⟩⟩ 0 = .ok x) : decode c p = .ok x := wd_ok h.2.2.2.2.2.1 e.1 e.2
theorem gq_6 {c : ByteArray} {a0 a1 a2 a3 a4 a5 : Nat × List UInt8} {p : Nat} {l : List UInt8} {x : Instr × Nat} {r : List (Nat × List UInt8)} (h : Pf_ c (a0 :: a1 :: a2 :: a3 :: a4 :: a5 :: (p, l) :: r)) (e : opK l = true ∧ decode ⟨⟨l⟩⟩ 0 = .ok x) : decode c p = .ok x := wd_ok h.2.2.2.2.2.2.1 e.1 e.2
theorem gq_7 {c : ByteArray} {a0 a1 a2 a3 a4 a5 a6 : Nat × List UInt8} {p : Nat} {l : List UInt8} {x : Instr × Nat} {r : List (Nat × List UInt8)} (h : Pf_ c (a0 :: a1 :: a2 :: a3 :: a4 :: a5 :: a6 :: (p, l) :: r)) (e : opK l = true ∧ decode ⟨⟨l⟩⟩ 0 = .ok x) : decode c p = .ok x := wd_ok h.2.2.2.2.2.2.2.1 e.1 e.2
theorem gq_8 {c : ByteArray} {a0 a1 a2 a3 a4 a5 a6 a7 : Nat × List UInt8} {p : Nat} {l : List UInt8} {x : Instr × Nat} {r : List (Nat × List UInt8)} (h : Pf_ c (a0 :: a1 :: a2 :: a3 :: a4 :: a5 :: a6 :: a7 :: (p, l) :: r)) (e : opK l = true ∧ decode ⟨⟨l⟩⟩ 0 = .ok x) : decode c p = .ok x := wd_ok h.2.2.2.2.2.2.2.2.1 e.1 e.2
theorem gq_9 {c : ByteArray} {a0 a1 a2 a3 a4 a5 a6 a7 a8 : Nat × List UInt8} {p : Nat} {l : List UInt8} {x : Instr × Nat} {r : List (Nat × List UInt8)} (h : Pf_ c (a0 :: a1 :: a2 :: a3 :: a4 :: a5 :: a6 :: a7 :: a8 :: (p, l) :: r)) (e : opK l = true ∧ decode ⟨⟨l⟩⟩ 0 = .ok x) : decode c p = .ok x := wd_ok h.2.2.2.2.2.2.2.2.2.1 e.1 e.2
theorem gq_10 {c : ByteArray} {a0 a1 a2 a3 a4 a5 a6 a7 a8 a9 : Nat × List UInt8} {p : Nat} {l : List UInt8} {x : Instr × Nat} {r : List (Nat × List UInt8)} (h : Pf_ c (a0 :: a1 :: a2 :: a3 :: a4 :: a5 :: a6 :: a7 :: a8 :: a9 :: (p, l) :: r)) (e : opK l = true ∧ decode ⟨⟨l⟩⟩ 0 = .ok x) : decode c p = .ok x := wd_ok h.2.2.2.2.2.2.2.2.2.2.1 e.1 e.2
theorem gq_11 {c : ByteArray} {a0 a1 a2 a3 a4 a5 a6 a7 a8 a9 a10 : Nat × List UInt8} {p : Nat} {l : List UInt8} {x : Instr × Nat} {r : List (Nat × List UInt8)} (h : Pf_ c (a0 :: a1 :: a2 :: a3 :: a4 :: a5 :: a6 :: a7 :: a8 :: a9 :: a10 :: (p, l) :: r)) (e : opK l = true ∧ decode ⟨⟨l⟩⟩ 0 = .ok x) : decode c p = .ok x := wd_ok h.2.2.2.2.2.2.2.2.2.2.2.1 e.1 e.2
theorem gq_12 {c : ByteArray} {a0 a1 a2 a3 a4 a5 a6 a7 a8 a9 a10 a11 : Nat × List UInt8} {p : Nat} {l : List UInt8} {x : Instr × Nat} {r : List (Nat × List UInt8)} (h : Pf_ c (a0 :: a1 :: a2 :: a3 :: a4 :: a5 :: a6 :: a7 :: a8 :: a9 :: a10 :: a11 :: (p, l) :: r)) (e : opK l = true ∧ decode ⟨⟨l⟩⟩ 0 = .ok x) : decode c p = .ok x := wd_ok h.2.2.2.2.2.2.2.2.2.2.2.2.1 e.1 e.2
theorem gq_13 {c : ByteArray} {a0 a1 a2 a3 a4 a5 a6 a7 a8 a9 a10 a11 a12 : Nat × List UInt8} {p : Nat} {l : List UInt8} {x : Instr × Nat} {r : List (Nat × List UInt8)} (h : Pf_ c (a0 :: a1 :: a2 :: a3 :: a4 :: a5 :: a6 :: a7 :: a8 :: a9 :: a10 :: a11 :: a12 :: (p, l) :: r)) (e : opK l = true ∧ decode ⟨⟨l⟩⟩ 0 = .ok x) : decode c p = .ok x := wd_ok h.2.2.2.2.2.2.2.2.2.2.2.2.2.1 e.1 e.2
theorem gq_14 {c : ByteArray} {a0 a1 a2 a3 a4 a5 a6 a7 a8 a9 a10 a11 a12 a13 : Nat × List UInt8} {p : Nat} {l : List UInt8} {x : Instr × Nat} {r : List (Nat × List UInt8)} (h : Pf_ c (a0 :: a1 :: a2 :: a3 :: a4 :: a5 :: a6 :: a7 :: a8 :: a9 :: a10 :: a11 :: a12 :: a13 :: (p, l) :: r)) (e : opK l = true ∧ decode ⟨⟨l⟩⟩ 0 = .ok x) : decode c p = .ok x := wd_ok h.2.2.2.2.2.2.2.2.2.2.2.2.2.2.1 e.1 e.2
theorem gq_15 {c : ByteArray} {a0 a1 a2 a3 a4 a5 a6 a7 a8 a9 a10 a11 a12 a13 a14 : Nat × List UInt8} {p : Nat} {l : List UInt8} {x : Instr × Nat} {r : List (Nat × List UInt8)} (h : Pf_ c (a0 :: a1 :: a2 :: a3 :: a4 :: a5 :: a6 :: a7 :: a8 :: a9 :: a10 :: a11 :: a12 :: a13 :: a14 :: (p, l) :: r)) (e : opK l = true ∧ decode ⟨⟨l⟩⟩ 0 = .ok x) : decode c p = .ok x := wd_ok h.2.2.2.2.2.2.2.2.2.2.2.2.2.2.2.1 e.1 e.2
theorem gq_16 {c : ByteArray} {a0 a1 a2 a3 a4 a5 a6 a7 a8 a9 a10 a11 a12 a13 a14 a15 : Nat × List UInt8} {p : Nat} {l : List UInt8} {x : Instr × Nat} {r : List (Nat × List UInt8)} (h : Pf_ c (a0 :: a1 :: a2 :: a3 :: a4 :: a5 :: a6 :: a7 :: a8 :: a9 :: a10 :: a11 :: a12 :: a13 :: a14 :: a15 :: (p, l) :: r)) (e : opK l = true ∧ decode ⟨⟨l⟩⟩ 0 = .ok x) : decode c p = .ok x := wd_ok h.2.2.2.2.2.2.2.2.2.2.2.2.2.2.2.2.1 e.1 e.2
theorem gq_17 {c : ByteArray} {a0 a1 a2 a3 a4 a5 a6 a7 a8 a9 a10 a11 a12 a13 a14 a15 a16 : Nat × List UInt8} {p : Nat} {l : List UInt8} {x : Instr × Nat} {r : List (Nat × List UInt8)} (h : Pf_ c (a0 :: a1 :: a2 :: a3 :: a4 :: a5 :: a6 :: a7 :: a8 :: a9 :: a10 :: a11 :: a12 :: a13 :: a14 :: a15 :: a16 :: (p, l) :: r)) (e : opK l = true ∧ decode ⟨⟨l⟩⟩ 0 = .ok x) : decode c p = .ok x := wd_ok h.2.2.2.2.2.2.2.2.2.2.2.2.2.2.2.2.2.1 e.1 e.2
theorem gq_18 {c : ByteArray} {a0 a1 a2 a3 a4 a5 a6 a7 a8 a9 a10 a11 a12 a13 a14 a15 a16 a17 : Nat × List UInt8} {p : Nat} {l : List UInt8} {x : Instr × Nat} {r : List (Nat × List UInt8)} (h : Pf_ c (a0 :: a1 :: a2 :: a3 :: a4 :: a5 :: a6 :: a7 :: a8 :: a9 :: a10 :: a11 :: a12 :: a13 :: a14 :: a15 :: a16 :: a17 :: (p, l) :: r)) (e : opK l = true ∧ decode ⟨⟨l⟩⟩ 0 = .ok x) : decode c p = .ok x := wd_ok h.2.2.2.2.2.2.2.2.2.2.2.2.2.2.2.2.2.2.1 e.1 e.2
theorem gq_19 {c : ByteArray} {a0 a1 a2 a3 a4 a5 a6 a7 a8 a9 a10 a11 a12 a13 a14 a15 a16 a17 a18 : Nat × List UInt8} {p : Nat} {l : List UInt8} {x : Instr × Nat} {r : List (Nat × List UInt8)} (h : Pf_ c (a0 :: a1 :: a2 :: a3 :: a4 :: a5 :: a6 :: a7 :: a8 :: a9 :: a10 :: a11 :: a12 :: a13 :: a14 :: a15 :: a16 :: a17 :: a18 :: (p, l) :: r)) (e : opK l = true ∧ decode ⟨⟨l⟩⟩ 0 = .ok x) : decode c p = .ok x := wd_ok h.2.2.2.2.2.2.2.2.2.2.2.2.2.2.2.2.2.2.2.1 e.1 e.2
theorem gq_20 {c : ByteArray} {a0 a1 a2 a3 a4 a5 a6 a7 a8 a9 a10 a11 a12 a13 a14 a15 a16 a17 a18 a19 : Nat × List UInt8} {p : Nat} {l : List UInt8} {x : Instr × Nat} {r : List (Nat × List UInt8)} (h : Pf_ c (a0 :: a1 :: a2 :: a3 :: a4 :: a5 :: a6 :: a7 :: a8 :: a9 :: a10 :: a11 :: a12 :: a13 :: a14 :: a15 :: a16 :: a17 :: a18 :: a19 :: (p, l) :: r)) (e : opK l = true ∧ decode ⟨⟨l⟩⟩ 0 = .ok x) : decode c p = .ok x := wd_ok h.2.2.2.2.2.2.2.2.2.2.2.2.2.2.2.2.2.2.2.2.1 e.1 e.2
theorem gq_21 {c : ByteArray} {a0 a1 a2 a3 a4 a5 a6 a7 a8 a9 a10 a11 a12 a13 a14 a15 a16 a17 a18 a19 a20 : Nat × List UInt8} {p : Nat} {l : List UInt8} {x : Instr × Nat} {r : List (Nat × List UInt8)} (h : Pf_ c (a0 :: a1 :: a2 :: a3 :: a4 :: a5 :: a6 :: a7 :: a8 :: a9 :: a10 :: a11 :: a12 :: a13 :: a14 :: a15 :: a16 :: a17 :: a18 :: a19 :: a20 :: (p, l) :: r)) (e : opK l = true ∧ decode ⟨⟨l⟩⟩ 0 = .ok x) : decode c p = .ok x := wd_ok h.2.2.2.2.2.2.2.2.2.2.2.2.2.2.2.2.2.2.2.2.2.1 e.1 e.2
theorem gq_22 {c : ByteArray} {a0 a1 a2 a3 a4 a5 a6 a7 a8 a9 a10 a11 a12 a13 a14 a15 a16 a17 a18 a19 a20 a21 : Nat × List UInt8} {p : Nat} {l : List UInt8} {x : Instr × Nat} {r : List (Nat × List UInt8)} (h : Pf_ c (a0 :: a1 :: a2 :: a3 :: a4 :: a5 :: a6 :: a7 :: a8 :: a9 :: a10 :: a11 :: a12 :: a13 :: a14 :: a15 :: a16 :: a17 :: a18 :: a19 :: a20 :: a21 :: (p, l) :: r)) (e : opK l = true ∧ decode ⟨⟨l⟩⟩ 0 = .ok x) : decode c p = .ok x := wd_ok h.2.2.2.2.2.2.2.2.2.2.2.2.2.2.2.2.2.2.2.2.2.2.1 e.1 e.2
theorem gq_23 {c : ByteArray} {a0 a1 a2 a3 a4 a5 a6 a7 a8 a9 a10 a11 a12 a13 a14 a15 a16 a17 a18 a19 a20 a21 a22 : Nat × List UInt8} {p : Nat} {l : List UInt8} {x : Instr × Nat} {r : List (Nat × List UInt8)} (h : Pf_ c (a0 :: a1 :: a2 :: a3 :: a4 :: a5 :: a6 :: a7 :: a8 :: a9 :: a10 :: a11 :: a12 :: a13 :: a14 :: a15 :: a16 :: a17 :: a18 :: a19 :: a20 :: a21 :: a22 :: (p, l) :: r)) (e : opK l = true ∧ decode ⟨⟨l⟩⟩ 0 = .ok x) : decode c p = .ok x := wd_ok h.2.2.2.2.2.2.2.2.2.2.2.2.2.2.2.2.2.2.2.2.2.2.2.1 e.1 e.2
theorem sgp {N n : Nat} (h : Nat.beq N n = true) (l : Nat.ble n 32767 = true) : Jvm.ClassFile.Reader.signed 16 N = @OfNat.ofNat Int n instOfNat := by
  have e := Nat.eq_of_beq_eq_true h
  subst e
  have l := Nat.le_of_ble_eq_true l
  unfold Jvm.ClassFile.Reader.signed
  rw [if_pos (show N < 2 ^ (16 - 1) from Nat.lt_of_le_of_lt l (by decide))]
  rfl
theorem sgn {N n : Nat} (h : Nat.beq (N + n) 65536 = true) (l : Nat.ble n 32768 = true) : Jvm.ClassFile.Reader.signed 16 N = -(@OfNat.ofNat Int n instOfNat) := by
  have e := Nat.eq_of_beq_eq_true h
  have l := Nat.le_of_ble_eq_true l
  have g : 32768 ≤ N := by omega
  unfold Jvm.ClassFile.Reader.signed
  rw [if_neg (show ¬ N < 2 ^ (16 - 1) from Nat.not_lt_of_le g)]
  show (N : Int) - ((65536 : Nat) : Int) = -((n : Nat) : Int)
  omega
theorem gb_0xb7 (a b : UInt8) {n : Nat} (h : a.toNat * 256 + b.toNat = n) : opK [0xb7, a, b] = true ∧ decode ⟨⟨[0xb7, a, b]⟩⟩ 0 = .ok (.invokespecial n, 3) := by
  subst h
  exact ⟨rfl, rfl⟩
theorem gb_0x11 (a b : UInt8) {n : Int} (h : Jvm.ClassFile.Reader.signed 16 (a.toNat * 256 + b.toNat) = n) : opK [0x11, a, b] = true ∧ decode ⟨⟨[0x11, a, b]⟩⟩ 0 = .ok (.sipush n, 3) := by
  subst h
  exact ⟨rfl, rfl⟩
theorem gb_0xb5 (a b : UInt8) {n : Nat} (h : a.toNat * 256 + b.toNat = n) : opK [0xb5, a, b] = true ∧ decode ⟨⟨[0xb5, a, b]⟩⟩ 0 = .ok (.putfield n, 3) := by
  subst h
  exact ⟨rfl, rfl⟩
theorem gb_0x9b (a b : UInt8) {n : Int} (h : Jvm.ClassFile.Reader.signed 16 (a.toNat * 256 + b.toNat) = n) : opK [0x9b, a, b] = true ∧ decode ⟨⟨[0x9b, a, b]⟩⟩ 0 = .ok (.ifCond .lt n, 3) := by
  subst h
  exact ⟨rfl, rfl⟩
theorem gb_0xb4 (a b : UInt8) {n : Nat} (h : a.toNat * 256 + b.toNat = n) : opK [0xb4, a, b] = true ∧ decode ⟨⟨[0xb4, a, b]⟩⟩ 0 = .ok (.getfield n, 3) := by
  subst h
  exact ⟨rfl, rfl⟩
theorem gb_0xa2 (a b : UInt8) {n : Int} (h : Jvm.ClassFile.Reader.signed 16 (a.toNat * 256 + b.toNat) = n) : opK [0xa2, a, b] = true ∧ decode ⟨⟨[0xa2, a, b]⟩⟩ 0 = .ok (.if_icmp .ge n, 3) := by
  subst h
  exact ⟨rfl, rfl⟩
theorem gb_0xa7 (a b : UInt8) {n : Int} (h : Jvm.ClassFile.Reader.signed 16 (a.toNat * 256 + b.toNat) = n) : opK [0xa7, a, b] = true ∧ decode ⟨⟨[0xa7, a, b]⟩⟩ 0 = .ok (.goto n, 3) := by
  subst h
  exact ⟨rfl, rfl⟩
theorem gb_0x99 (a b : UInt8) {n : Int} (h : Jvm.ClassFile.Reader.signed 16 (a.toNat * 256 + b.toNat) = n) : opK [0x99, a, b] = true ∧ decode ⟨⟨[0x99, a, b]⟩⟩ 0 = .ok (.ifCond .eq n, 3) := by
  subst h
  exact ⟨rfl, rfl⟩
theorem gb_0xb8 (a b : UInt8) {n : Nat} (h : a.toNat * 256 + b.toNat = n) : opK [0xb8, a, b] = true ∧ decode ⟨⟨[0xb8, a, b]⟩⟩ 0 = .ok (.invokestatic n, 3) := by
  subst h
  exact ⟨rfl, rfl⟩
theorem gb_0xa0 (a b : UInt8) {n : Int} (h : Jvm.ClassFile.Reader.signed 16 (a.toNat * 256 + b.toNat) = n) : opK [0xa0, a, b] = true ∧ decode ⟨⟨[0xa0, a, b]⟩⟩ 0 = .ok (.if_icmp .ne n, 3) := by
  subst h
  exact ⟨rfl, rfl⟩
theorem gb_0xb6 (a b : UInt8) {n : Nat} (h : a.toNat * 256 + b.toNat = n) : opK [0xb6, a, b] = true ∧ decode ⟨⟨[0xb6, a, b]⟩⟩ 0 = .ok (.invokevirtual n, 3) := by
  subst h
  exact ⟨rfl, rfl⟩
theorem gb_0x9f (a b : UInt8) {n : Int} (h : Jvm.ClassFile.Reader.signed 16 (a.toNat * 256 + b.toNat) = n) : opK [0x9f, a, b] = true ∧ decode ⟨⟨[0x9f, a, b]⟩⟩ 0 = .ok (.if_icmp .eq n, 3) := by
  subst h
  exact ⟨rfl, rfl⟩
theorem gb_0xa3 (a b : UInt8) {n : Int} (h : Jvm.ClassFile.Reader.signed 16 (a.toNat * 256 + b.toNat) = n) : opK [0xa3, a, b] = true ∧ decode ⟨⟨[0xa3, a, b]⟩⟩ 0 = .ok (.if_icmp .gt n, 3) := by
  subst h
  exact ⟨rfl, rfl⟩
theorem gb_0xa1 (a b : UInt8) {n : Int} (h : Jvm.ClassFile.Reader.signed 16 (a.toNat * 256 + b.toNat) = n) : opK [0xa1, a, b] = true ∧ decode ⟨⟨[0xa1, a, b]⟩⟩ 0 = .ok (.if_icmp .lt n, 3) := by
  subst h
  exact ⟨rfl, rfl⟩
theorem gb_0xa4 (a b : UInt8) {n : Int} (h : Jvm.ClassFile.Reader.signed 16 (a.toNat * 256 + b.toNat) = n) : opK [0xa4, a, b] = true ∧ decode ⟨⟨[0xa4, a, b]⟩⟩ 0 = .ok (.if_icmp .le n, 3) := by
  subst h
  exact ⟨rfl, rfl⟩
theorem gb_0x9a (a b : UInt8) {n : Int} (h : Jvm.ClassFile.Reader.signed 16 (a.toNat * 256 + b.toNat) = n) : opK [0x9a, a, b] = true ∧ decode ⟨⟨[0x9a, a, b]⟩⟩ 0 = .ok (.ifCond .ne n, 3) := by
  subst h
  exact ⟨rfl, rfl⟩
theorem gb_0x9e (a b : UInt8) {n : Int} (h : Jvm.ClassFile.Reader.signed 16 (a.toNat * 256 + b.toNat) = n) : opK [0x9e, a, b] = true ∧ decode ⟨⟨[0x9e, a, b]⟩⟩ 0 = .ok (.ifCond .le n, 3) := by
  subst h
  exact ⟨rfl, rfl⟩
theorem gb_0x14 (a b : UInt8) {n : Nat} (h : a.toNat * 256 + b.toNat = n) : opK [0x14, a, b] = true ∧ decode ⟨⟨[0x14, a, b]⟩⟩ 0 = .ok (.ldc2_w n, 3) := by
  subst h
  exact ⟨rfl, rfl⟩
theorem gb_0xbb (a b : UInt8) {n : Nat} (h : a.toNat * 256 + b.toNat = n) : opK [0xbb, a, b] = true ∧ decode ⟨⟨[0xbb, a, b]⟩⟩ 0 = .ok (.new n, 3) := by
  subst h
  exact ⟨rfl, rfl⟩
theorem gb_0xc6 (a b : UInt8) {n : Int} (h : Jvm.ClassFile.Reader.signed 16 (a.toNat * 256 + b.toNat) = n) : opK [0xc6, a, b] = true ∧ decode ⟨⟨[0xc6, a, b]⟩⟩ 0 = .ok (.ifnull n, 3) := by
  subst h
  exact ⟨rfl, rfl⟩
theorem gb_0x13 (a b : UInt8) {n : Nat} (h : a.toNat * 256 + b.toNat = n) : opK [0x13, a, b] = true ∧ decode ⟨⟨[0x13, a, b]⟩⟩ 0 = .ok (.ldc_w n, 3) := by
  subst h
  exact ⟨rfl, rfl⟩
theorem eb_0 : opK [0x2a] = true ∧ decode ⟨⟨[0x2a]⟩⟩ 0 = .ok (.aload_n 0, 1) := by decide +kernel
noncomputable def eb_1 := gb_0xb7 0x00 0x03 (n := 3) rfl
noncomputable def eb_2 := gb_0x11 0x07 0x08 (sgp (n := nat_lit 1800) rfl rfl)
theorem eb_3 : opK [0xbc, 0x0a] = true ∧ decode ⟨⟨[0xbc, 0x0a]⟩⟩ 0 = .ok (.newarray .int, 2) := by decide +kernel
noncomputable def eb_4 := gb_0xb5 0x00 0x0b (n := 11) rfl
theorem eb_5 : opK [0x10, 0x0c] = true ∧ decode ⟨⟨[0x10, 0x0c]⟩⟩ 0 = .ok (.bipush 12, 2) := by decide +kernel
noncomputable def eb_6 := gb_0xb5 0x00 0x0f (n := 15) rfl
noncomputable def eb_7 := gb_0xb5 0x00 0x12 (n := 18) rfl
theorem eb_8 : opK [0xb1] = true ∧ decode ⟨⟨[0xb1]⟩⟩ 0 = .ok (.return_, 1) := by decide +kernel
theorem eb_9 : opK [0x1a] = true ∧ decode ⟨⟨[0x1a]⟩⟩ 0 = .ok (.iload_n 0, 1) := by decide +kernel
theorem eb_10 : opK [0x1b] = true ∧ decode ⟨⟨[0x1b]⟩⟩ 0 = .ok (.iload_n 1, 1) := by decide +kernel
theorem eb_11 : opK [0x05] = true ∧ decode ⟨⟨[0x05]⟩⟩ 0 = .ok (.iconst 2, 1) := by decide +kernel
theorem eb_12 : opK [0x78] = true ∧ decode ⟨⟨[0x78]⟩⟩ 0 = .ok (.ishl, 1) := by decide +kernel
theorem eb_13 : opK [0x80] = true ∧ decode ⟨⟨[0x80]⟩⟩ 0 = .ok (.ior, 1) := by decide +kernel
theorem eb_14 : opK [0x1c] = true ∧ decode ⟨⟨[0x1c]⟩⟩ 0 = .ok (.iload_n 2, 1) := by decide +kernel
theorem eb_15 : opK [0x10, 0x06] = true ∧ decode ⟨⟨[0x10, 0x06]⟩⟩ 0 = .ok (.bipush 6, 2) := by decide +kernel
theorem eb_16 : opK [0xac] = true ∧ decode ⟨⟨[0xac]⟩⟩ 0 = .ok (.ireturn, 1) := by decide +kernel
noncomputable def eb_17 := gb_0x9b 0x00 0x0f (sgp (n := nat_lit 15) rfl rfl)
noncomputable def eb_18 := gb_0xb4 0x00 0x15 (n := 21) rfl
noncomputable def eb_19 := gb_0xa2 0x00 0x07 (sgp (n := nat_lit 7) rfl rfl)
theorem eb_20 : opK [0x04] = true ∧ decode ⟨⟨[0x04]⟩⟩ 0 = .ok (.iconst 1, 1) := by decide +kernel
noncomputable def eb_21 := gb_0xa7 0x00 0x04 (sgp (n := nat_lit 4) rfl rfl)
theorem eb_22 : opK [0x03] = true ∧ decode ⟨⟨[0x03]⟩⟩ 0 = .ok (.iconst 0, 1) := by decide +kernel
noncomputable def eb_23 := gb_0xa2 0x00 0x0a (sgp (n := nat_lit 10) rfl rfl)
theorem eb_24 : opK [0x2b] = true ∧ decode ⟨⟨[0x2b]⟩⟩ 0 = .ok (.aload_n 1, 1) := by decide +kernel
noncomputable def eb_25 := gb_0xb4 0x00 0x19 (n := 25) rfl
noncomputable def eb_26 := gb_0x99 0x00 0x05 (sgp (n := nat_lit 5) rfl rfl)
theorem eb_27 : opK [0x02] = true ∧ decode ⟨⟨[0x02]⟩⟩ 0 = .ok (.iconst (-1), 1) := by decide +kernel
theorem eb_28 : opK [0x3d] = true ∧ decode ⟨⟨[0x3d]⟩⟩ 0 = .ok (.istore_n 2, 1) := by decide +kernel
theorem eb_29 : opK [0x3e] = true ∧ decode ⟨⟨[0x3e]⟩⟩ 0 = .ok (.istore_n 3, 1) := by decide +kernel
theorem eb_30 : opK [0x1d] = true ∧ decode ⟨⟨[0x1d]⟩⟩ 0 = .ok (.iload_n 3, 1) := by decide +kernel
noncomputable def eb_31 := gb_0xb4 0x00 0x1f (n := 31) rfl
noncomputable def eb_32 := gb_0xa2 0x00 0x2e (sgp (n := nat_lit 46) rfl rfl)
noncomputable def eb_33 := gb_0xb4 0x00 0x0b (n := 11) rfl
noncomputable def eb_34 := gb_0x11 0x00 0x96 (sgp (n := nat_lit 150) rfl rfl)
theorem eb_35 : opK [0x68] = true ∧ decode ⟨⟨[0x68]⟩⟩ 0 = .ok (.imul, 1) := by decide +kernel
theorem eb_36 : opK [0x60] = true ∧ decode ⟨⟨[0x60]⟩⟩ 0 = .ok (.iadd, 1) := by decide +kernel
noncomputable def eb_37 := gb_0xb4 0x00 0x22 (n := 34) rfl
theorem eb_38 : opK [0x2e] = true ∧ decode ⟨⟨[0x2e]⟩⟩ 0 = .ok (.iaload, 1) := by decide +kernel
theorem eb_39 : opK [0x4f] = true ∧ decode ⟨⟨[0x4f]⟩⟩ 0 = .ok (.iastore, 1) := by decide +kernel
noncomputable def eb_40 := gb_0xb8 0x00 0x23 (n := 35) rfl
noncomputable def eb_41 := gb_0xa0 0x00 0x06 (sgp (n := nat_lit 6) rfl rfl)
theorem eb_42 : opK [0x84, 0x02, 0x01] = true ∧ decode ⟨⟨[0x84, 0x02, 0x01]⟩⟩ 0 = .ok (.iinc 2 1, 3) := by decide +kernel
theorem eb_43 : opK [0x84, 0x03, 0x01] = true ∧ decode ⟨⟨[0x84, 0x03, 0x01]⟩⟩ 0 = .ok (.iinc 3 1, 3) := by decide +kernel
noncomputable def eb_44 := gb_0xa7 0xff 0xd0 (sgn (n := nat_lit 48) rfl rfl)
noncomputable def eb_45 := gb_0xb4 0x00 0x0f (n := 15) rfl
noncomputable def eb_46 := gb_0xb4 0x00 0x12 (n := 18) rfl
theorem eb_47 : opK [0x59] = true ∧ decode ⟨⟨[0x59]⟩⟩ 0 = .ok (.dup, 1) := by decide +kernel
noncomputable def eb_48 := gb_0xb5 0x00 0x15 (n := 21) rfl
theorem eb_49 : opK [0x64] = true ∧ decode ⟨⟨[0x64]⟩⟩ 0 = .ok (.isub, 1) := by decide +kernel
noncomputable def eb_50 := gb_0xb6 0x00 0x27 (n := 39) rfl
noncomputable def eb_51 := gb_0x99 0x00 0x0c (sgp (n := nat_lit 12) rfl rfl)
noncomputable def eb_52 := gb_0x9b 0x00 0x15 (sgp (n := nat_lit 21) rfl rfl)
theorem eb_53 : opK [0xbe] = true ∧ decode ⟨⟨[0xbe]⟩⟩ 0 = .ok (.arraylength, 1) := by decide +kernel
noncomputable def eb_54 := gb_0xa2 0x00 0x0c (sgp (n := nat_lit 12) rfl rfl)
theorem eb_55 : opK [0x06] = true ∧ decode ⟨⟨[0x06]⟩⟩ 0 = .ok (.iconst 3, 1) := by decide +kernel
theorem eb_56 : opK [0x7e] = true ∧ decode ⟨⟨[0x7e]⟩⟩ 0 = .ok (.iand, 1) := by decide +kernel
theorem eb_57 : opK [0x7a] = true ∧ decode ⟨⟨[0x7a]⟩⟩ 0 = .ok (.ishr, 1) := by decide +kernel
theorem eb_58 : opK [0x10, 0x0f] = true ∧ decode ⟨⟨[0x10, 0x0f]⟩⟩ 0 = .ok (.bipush 15, 2) := by decide +kernel
theorem eb_59 : opK [0x36, 0x06] = true ∧ decode ⟨⟨[0x36, 0x06]⟩⟩ 0 = .ok (.istore 6, 2) := by decide +kernel
theorem eb_60 : opK [0x36, 0x07] = true ∧ decode ⟨⟨[0x36, 0x07]⟩⟩ 0 = .ok (.istore 7, 2) := by decide +kernel
noncomputable def eb_61 := gb_0xb6 0x00 0x2b (n := 43) rfl
theorem eb_62 : opK [0x36, 0x08] = true ∧ decode ⟨⟨[0x36, 0x08]⟩⟩ 0 = .ok (.istore 8, 2) := by decide +kernel
theorem eb_63 : opK [0x36, 0x09] = true ∧ decode ⟨⟨[0x36, 0x09]⟩⟩ 0 = .ok (.istore 9, 2) := by decide +kernel
theorem eb_64 : opK [0x15, 0x09] = true ∧ decode ⟨⟨[0x15, 0x09]⟩⟩ 0 = .ok (.iload 9, 2) := by decide +kernel
theorem eb_65 : opK [0x15, 0x08] = true ∧ decode ⟨⟨[0x15, 0x08]⟩⟩ 0 = .ok (.iload 8, 2) := by decide +kernel
noncomputable def eb_66 := gb_0xa2 0x00 0x81 (sgp (n := nat_lit 129) rfl rfl)
noncomputable def eb_67 := gb_0xb6 0x00 0x2e (n := 46) rfl
theorem eb_68 : opK [0x36, 0x0a] = true ∧ decode ⟨⟨[0x36, 0x0a]⟩⟩ 0 = .ok (.istore 10, 2) := by decide +kernel
theorem eb_69 : opK [0x15, 0x0a] = true ∧ decode ⟨⟨[0x15, 0x0a]⟩⟩ 0 = .ok (.iload 10, 2) := by decide +kernel
theorem eb_70 : opK [0x36, 0x0b] = true ∧ decode ⟨⟨[0x36, 0x0b]⟩⟩ 0 = .ok (.istore 11, 2) := by decide +kernel
theorem eb_71 : opK [0x15, 0x0b] = true ∧ decode ⟨⟨[0x15, 0x0b]⟩⟩ 0 = .ok (.iload 11, 2) := by decide +kernel
noncomputable def eb_72 := gb_0xa0 0x00 0x19 (sgp (n := nat_lit 25) rfl rfl)
theorem eb_73 : opK [0x84, 0x06, 0x01] = true ∧ decode ⟨⟨[0x84, 0x06, 0x01]⟩⟩ 0 = .ok (.iinc 6 1, 3) := by decide +kernel
theorem eb_74 : opK [0x15, 0x07] = true ∧ decode ⟨⟨[0x15, 0x07]⟩⟩ 0 = .ok (.iload 7, 2) := by decide +kernel
noncomputable def eb_75 := gb_0xa0 0x00 0x5c (sgp (n := nat_lit 92) rfl rfl)
theorem eb_76 : opK [0x15, 0x06] = true ∧ decode ⟨⟨[0x15, 0x06]⟩⟩ 0 = .ok (.iload 6, 2) := by decide +kernel
theorem eb_77 : opK [0x15, 0x04] = true ∧ decode ⟨⟨[0x15, 0x04]⟩⟩ 0 = .ok (.iload 4, 2) := by decide +kernel
noncomputable def eb_78 := gb_0xb8 0x00 0x32 (n := 50) rfl
noncomputable def eb_79 := gb_0x99 0x00 0x51 (sgp (n := nat_lit 81) rfl rfl)
noncomputable def eb_80 := gb_0xa0 0x00 0x10 (sgp (n := nat_lit 16) rfl rfl)
noncomputable def eb_81 := gb_0xb8 0x00 0x36 (n := 54) rfl
noncomputable def eb_82 := gb_0xa7 0x00 0x3c (sgp (n := nat_lit 60) rfl rfl)
theorem eb_83 : opK [0x19, 0x05] = true ∧ decode ⟨⟨[0x19, 0x05]⟩⟩ 0 = .ok (.aload 5, 2) := by decide +kernel
noncomputable def eb_84 := gb_0xb8 0x00 0x39 (n := 57) rfl
noncomputable def eb_85 := gb_0xb6 0x00 0x3c (n := 60) rfl
theorem eb_86 : opK [0x36, 0x0c] = true ∧ decode ⟨⟨[0x36, 0x0c]⟩⟩ 0 = .ok (.istore 12, 2) := by decide +kernel
theorem eb_87 : opK [0x15, 0x0c] = true ∧ decode ⟨⟨[0x15, 0x0c]⟩⟩ 0 = .ok (.iload 12, 2) := by decide +kernel
noncomputable def eb_88 := gb_0x9f 0x00 0x28 (sgp (n := nat_lit 40) rfl rfl)
noncomputable def eb_89 := gb_0xb8 0x00 0x41 (n := 65) rfl
noncomputable def eb_90 := gb_0xa7 0x00 0x05 (sgp (n := nat_lit 5) rfl rfl)
theorem eb_91 : opK [0x84, 0x09, 0x01] = true ∧ decode ⟨⟨[0x84, 0x09, 0x01]⟩⟩ 0 = .ok (.iinc 9 1, 3) := by decide +kernel
noncomputable def eb_92 := gb_0xa7 0xff 0x7e (sgn (n := nat_lit 130) rfl rfl)
theorem eb_93 : opK [0x10, 0x1e] = true ∧ decode ⟨⟨[0x10, 0x1e]⟩⟩ 0 = .ok (.bipush 30, 2) := by decide +kernel
theorem eb_94 : opK [0x10, 0x0a] = true ∧ decode ⟨⟨[0x10, 0x0a]⟩⟩ 0 = .ok (.bipush 10, 2) := by decide +kernel
theorem eb_95 : opK [0x10, 0x08] = true ∧ decode ⟨⟨[0x10, 0x08]⟩⟩ 0 = .ok (.bipush 8, 2) := by decide +kernel
noncomputable def eb_96 := gb_0xb5 0x00 0x18 (n := 24) rfl
noncomputable def eb_97 := gb_0x11 0x00 0xc8 (sgp (n := nat_lit 200) rfl rfl)
noncomputable def eb_98 := gb_0xb5 0x00 0x1b (n := 27) rfl
noncomputable def eb_99 := gb_0xb5 0x00 0x1e (n := 30) rfl
theorem eb_100 : opK [0x10, 0x10] = true ∧ decode ⟨⟨[0x10, 0x10]⟩⟩ 0 = .ok (.bipush 16, 2) := by decide +kernel
noncomputable def eb_101 := gb_0xb5 0x00 0x21 (n := 33) rfl
noncomputable def eb_102 := gb_0x11 0x00 0xb4 (sgp (n := nat_lit 180) rfl rfl)
noncomputable def eb_103 := gb_0xb5 0x00 0x24 (n := 36) rfl
noncomputable def eb_104 := gb_0xb5 0x00 0x27 (n := 39) rfl
noncomputable def eb_105 := gb_0xb5 0x00 0x2a (n := 42) rfl
noncomputable def eb_106 := gb_0xb5 0x00 0x2d (n := 45) rfl
noncomputable def eb_107 := gb_0xb5 0x00 0x30 (n := 48) rfl
noncomputable def eb_108 := gb_0xb5 0x00 0x33 (n := 51) rfl
noncomputable def eb_109 := gb_0xb4 0x00 0x18 (n := 24) rfl
noncomputable def eb_110 := gb_0xb4 0x00 0x21 (n := 33) rfl
noncomputable def eb_111 := gb_0xb4 0x00 0x3c (n := 60) rfl
noncomputable def eb_112 := gb_0xb6 0x00 0x40 (n := 64) rfl
noncomputable def eb_113 := gb_0x99 0x00 0x11 (sgp (n := nat_lit 17) rfl rfl)
noncomputable def eb_114 := gb_0xa3 0x00 0x07 (sgp (n := nat_lit 7) rfl rfl)
noncomputable def eb_115 := gb_0xa1 0x00 0x05 (sgp (n := nat_lit 5) rfl rfl)
noncomputable def eb_116 := gb_0xb5 0x00 0x3c (n := 60) rfl
noncomputable def eb_117 := gb_0xb4 0x00 0x44 (n := 68) rfl
noncomputable def eb_118 := gb_0xa2 0x00 0x17 (sgp (n := nat_lit 23) rfl rfl)
noncomputable def eb_119 := gb_0xb8 0x00 0x47 (n := 71) rfl
noncomputable def eb_120 := gb_0x99 0x00 0x0d (sgp (n := nat_lit 13) rfl rfl)
noncomputable def eb_121 := gb_0x9f 0x00 0x05 (sgp (n := nat_lit 5) rfl rfl)
noncomputable def eb_122 := gb_0xb4 0x00 0x1b (n := 27) rfl
theorem eb_123 : opK [0x08] = true ∧ decode ⟨⟨[0x08]⟩⟩ 0 = .ok (.iconst 5, 1) := by decide +kernel
noncomputable def eb_124 := gb_0x99 0x00 0x07 (sgp (n := nat_lit 7) rfl rfl)
noncomputable def eb_125 := gb_0xb4 0x00 0x1e (n := 30) rfl
theorem eb_126 : opK [0x15, 0x05] = true ∧ decode ⟨⟨[0x15, 0x05]⟩⟩ 0 = .ok (.iload 5, 2) := by decide +kernel
noncomputable def eb_127 := gb_0xb5 0x00 0x44 (n := 68) rfl
noncomputable def eb_128 := gb_0xb4 0x00 0x2d (n := 45) rfl
noncomputable def eb_129 := gb_0xb4 0x00 0x30 (n := 48) rfl
noncomputable def eb_130 := gb_0xa2 0x00 0x99 (sgp (n := nat_lit 153) rfl rfl)
noncomputable def eb_131 := gb_0xa0 0x00 0x86 (sgp (n := nat_lit 134) rfl rfl)
noncomputable def eb_132 := gb_0xa3 0x00 0x7c (sgp (n := nat_lit 124) rfl rfl)
theorem eb_133 : opK [0x10, 0x07] = true ∧ decode ⟨⟨[0x10, 0x07]⟩⟩ 0 = .ok (.bipush 7, 2) := by decide +kernel
theorem eb_134 : opK [0x36, 0x04] = true ∧ decode ⟨⟨[0x36, 0x04]⟩⟩ 0 = .ok (.istore 4, 2) := by decide +kernel
theorem eb_135 : opK [0x36, 0x05] = true ∧ decode ⟨⟨[0x36, 0x05]⟩⟩ 0 = .ok (.istore 5, 2) := by decide +kernel
noncomputable def eb_136 := gb_0xa0 0x00 0x07 (sgp (n := nat_lit 7) rfl rfl)
noncomputable def eb_137 := gb_0x99 0x00 0x10 (sgp (n := nat_lit 16) rfl rfl)
noncomputable def eb_138 := gb_0xa7 0x00 0x0f (sgp (n := nat_lit 15) rfl rfl)
theorem eb_139 : opK [0x82] = true ∧ decode ⟨⟨[0x82]⟩⟩ 0 = .ok (.ixor, 1) := by decide +kernel
noncomputable def eb_140 := gb_0x99 0x00 0x12 (sgp (n := nat_lit 18) rfl rfl)
noncomputable def eb_141 := gb_0xa7 0x00 0x0d (sgp (n := nat_lit 13) rfl rfl)
noncomputable def eb_142 := gb_0xa7 0xff 0x65 (sgn (n := nat_lit 155) rfl rfl)
noncomputable def eb_143 := gb_0xb6 0x00 0x4b (n := 75) rfl
noncomputable def eb_144 := gb_0xa2 0x00 0x1f (sgp (n := nat_lit 31) rfl rfl)
theorem eb_145 : opK [0x5c] = true ∧ decode ⟨⟨[0x5c]⟩⟩ 0 = .ok (.dup2, 1) := by decide +kernel
theorem eb_146 : opK [0x84, 0x04, 0x01] = true ∧ decode ⟨⟨[0x84, 0x04, 0x01]⟩⟩ 0 = .ok (.iinc 4 1, 3) := by decide +kernel
noncomputable def eb_147 := gb_0xa7 0xff 0xe0 (sgn (n := nat_lit 32) rfl rfl)
noncomputable def eb_148 := gb_0xa2 0x00 0x23 (sgp (n := nat_lit 35) rfl rfl)
noncomputable def eb_149 := gb_0x9f 0x00 0x0d (sgp (n := nat_lit 13) rfl rfl)
noncomputable def eb_150 := gb_0xa4 0x00 0x09 (sgp (n := nat_lit 9) rfl rfl)
noncomputable def eb_151 := gb_0xa7 0xff 0xdd (sgn (n := nat_lit 35) rfl rfl)
noncomputable def eb_152 := gb_0x9a 0x00 0x05 (sgp (n := nat_lit 5) rfl rfl)
noncomputable def eb_153 := gb_0xb8 0x00 0x4f (n := 79) rfl
noncomputable def eb_154 := gb_0x9e 0x00 0x09 (sgp (n := nat_lit 9) rfl rfl)
noncomputable def eb_155 := gb_0x9e 0x00 0x05 (sgp (n := nat_lit 5) rfl rfl)
noncomputable def eb_156 := gb_0xa1 0x00 0x07 (sgp (n := nat_lit 7) rfl rfl)
noncomputable def eb_157 := gb_0xa7 0x00 0x12 (sgp (n := nat_lit 18) rfl rfl)
noncomputable def eb_158 := gb_0xa2 0x00 0x18 (sgp (n := nat_lit 24) rfl rfl)
noncomputable def eb_159 := gb_0xb6 0x00 0x54 (n := 84) rfl
noncomputable def eb_160 := gb_0xa0 0x00 0x09 (sgp (n := nat_lit 9) rfl rfl)
noncomputable def eb_161 := gb_0xa7 0xff 0xe8 (sgn (n := nat_lit 24) rfl rfl)
noncomputable def eb_162 := gb_0x99 0x00 0x25 (sgp (n := nat_lit 37) rfl rfl)
noncomputable def eb_163 := gb_0xb6 0x00 0x57 (n := 87) rfl
noncomputable def eb_164 := gb_0xb6 0x00 0x5a (n := 90) rfl
noncomputable def eb_165 := gb_0xb6 0x00 0x5d (n := 93) rfl
noncomputable def eb_166 := gb_0x9a 0x00 0x07 (sgp (n := nat_lit 7) rfl rfl)
noncomputable def eb_167 := gb_0xb6 0x00 0x60 (n := 96) rfl
noncomputable def eb_168 := gb_0xb6 0x00 0x64 (n := 100) rfl
noncomputable def eb_169 := gb_0xb6 0x00 0x67 (n := 103) rfl
noncomputable def eb_170 := gb_0xa2 0x00 0x15 (sgp (n := nat_lit 21) rfl rfl)
noncomputable def eb_171 := gb_0xb4 0x00 0x33 (n := 51) rfl
noncomputable def eb_172 := gb_0xb6 0x00 0x6b (n := 107) rfl
noncomputable def eb_173 := gb_0xa7 0xff 0xe9 (sgn (n := nat_lit 23) rfl rfl)
noncomputable def eb_174 := gb_0xa2 0x00 0x1d (sgp (n := nat_lit 29) rfl rfl)
noncomputable def eb_175 := gb_0x9f 0x00 0x06 (sgp (n := nat_lit 6) rfl rfl)
noncomputable def eb_176 := gb_0x99 0x00 0x0e (sgp (n := nat_lit 14) rfl rfl)
noncomputable def eb_177 := gb_0xb4 0x00 0x24 (n := 36) rfl
noncomputable def eb_178 := gb_0xb4 0x00 0x27 (n := 39) rfl
noncomputable def eb_179 := gb_0xb4 0x00 0x2a (n := 42) rfl
noncomputable def eb_180 := gb_0xa2 0x00 0x66 (sgp (n := nat_lit 102) rfl rfl)
noncomputable def eb_181 := gb_0x9a 0x00 0x14 (sgp (n := nat_lit 20) rfl rfl)
noncomputable def eb_182 := gb_0xa7 0x00 0x0a (sgp (n := nat_lit 10) rfl rfl)
noncomputable def eb_183 := gb_0xa3 0x00 0x13 (sgp (n := nat_lit 19) rfl rfl)
theorem eb_184 : opK [0x84, 0x07, 0x01] = true ∧ decode ⟨⟨[0x84, 0x07, 0x01]⟩⟩ 0 = .ok (.iinc 7 1, 3) := by decide +kernel
theorem eb_185 : opK [0x84, 0x08, 0x01] = true ∧ decode ⟨⟨[0x84, 0x08, 0x01]⟩⟩ 0 = .ok (.iinc 8 1, 3) := by decide +kernel
noncomputable def eb_186 := gb_0xa7 0xff 0x95 (sgn (n := nat_lit 107) rfl rfl)
noncomputable def eb_187 := gb_0xa2 0x00 0x6e (sgp (n := nat_lit 110) rfl rfl)
noncomputable def eb_188 := gb_0x9f 0x00 0x5a (sgp (n := nat_lit 90) rfl rfl)
noncomputable def eb_189 := gb_0xa7 0x00 0x51 (sgp (n := nat_lit 81) rfl rfl)
noncomputable def eb_190 := gb_0xb8 0x00 0x6f (n := 111) rfl
noncomputable def eb_191 := gb_0xa3 0x00 0x19 (sgp (n := nat_lit 25) rfl rfl)
noncomputable def eb_192 := gb_0x9e 0x00 0x22 (sgp (n := nat_lit 34) rfl rfl)
noncomputable def eb_193 := gb_0xa0 0x00 0x1b (sgp (n := nat_lit 27) rfl rfl)
noncomputable def eb_194 := gb_0xa4 0x00 0x11 (sgp (n := nat_lit 17) rfl rfl)
noncomputable def eb_195 := gb_0xa7 0xff 0x91 (sgn (n := nat_lit 111) rfl rfl)
noncomputable def eb_196 := gb_0xb5 0x00 0x09 (n := 9) rfl
noncomputable def eb_197 := gb_0xb7 0x00 0x05 (n := 5) rfl
noncomputable def eb_198 := gb_0xb5 0x00 0x16 (n := 22) rfl
theorem eb_199 : opK [0x10, 0x40] = true ∧ decode ⟨⟨[0x10, 0x40]⟩⟩ 0 = .ok (.bipush 64, 2) := by decide +kernel
noncomputable def eb_200 := gb_0xb5 0x00 0x1a (n := 26) rfl
noncomputable def eb_201 := gb_0x11 0x09 0x00 (sgp (n := nat_lit 2304) rfl rfl)
noncomputable def eb_202 := gb_0xb5 0x00 0x1d (n := 29) rfl
theorem eb_203 : opK [0xbc, 0x04] = true ∧ decode ⟨⟨[0xbc, 0x04]⟩⟩ 0 = .ok (.newarray .boolean, 2) := by decide +kernel
noncomputable def eb_204 := gb_0xb5 0x00 0x20 (n := 32) rfl
noncomputable def eb_205 := gb_0x99 0x00 0x0a (sgp (n := nat_lit 10) rfl rfl)
noncomputable def eb_206 := gb_0xa7 0x00 0x07 (sgp (n := nat_lit 7) rfl rfl)
noncomputable def eb_207 := gb_0x99 0x00 0x17 (sgp (n := nat_lit 23) rfl rfl)
noncomputable def eb_208 := gb_0xa7 0x00 0x14 (sgp (n := nat_lit 20) rfl rfl)
noncomputable def eb_209 := gb_0xb6 0x00 0x30 (n := 48) rfl
noncomputable def eb_210 := gb_0xb4 0x00 0x1d (n := 29) rfl
noncomputable def eb_211 := gb_0xb6 0x00 0x33 (n := 51) rfl
noncomputable def eb_212 := gb_0x11 0xfe 0xff (sgn (n := nat_lit 257) rfl rfl)
noncomputable def eb_213 := gb_0x99 0x00 0x14 (sgp (n := nat_lit 20) rfl rfl)
noncomputable def eb_214 := gb_0xb8 0x00 0x37 (n := 55) rfl
noncomputable def eb_215 := gb_0xb4 0x00 0x16 (n := 22) rfl
noncomputable def eb_216 := gb_0x99 0x00 0x18 (sgp (n := nat_lit 24) rfl rfl)
noncomputable def eb_217 := gb_0xb6 0x00 0x3d (n := 61) rfl
noncomputable def eb_218 := gb_0xb6 0x00 0x43 (n := 67) rfl
noncomputable def eb_219 := gb_0xb6 0x00 0x46 (n := 70) rfl
noncomputable def eb_220 := gb_0xa2 0x00 0x24 (sgp (n := nat_lit 36) rfl rfl)
theorem eb_221 : opK [0x70] = true ∧ decode ⟨⟨[0x70]⟩⟩ 0 = .ok (.irem, 1) := by decide +kernel
theorem eb_222 : opK [0x6c] = true ∧ decode ⟨⟨[0x6c]⟩⟩ 0 = .ok (.idiv, 1) := by decide +kernel
theorem eb_223 : opK [0x84, 0x05, 0x01] = true ∧ decode ⟨⟨[0x84, 0x05, 0x01]⟩⟩ 0 = .ok (.iinc 5 1, 3) := by decide +kernel
noncomputable def eb_224 := gb_0xa7 0xff 0xdc (sgn (n := nat_lit 36) rfl rfl)
theorem eb_225 : opK [0x3c] = true ∧ decode ⟨⟨[0x3c]⟩⟩ 0 = .ok (.istore_n 1, 1) := by decide +kernel
noncomputable def eb_226 := gb_0xa2 0x00 0x41 (sgp (n := nat_lit 65) rfl rfl)
noncomputable def eb_227 := gb_0xa2 0x00 0x31 (sgp (n := nat_lit 49) rfl rfl)
noncomputable def eb_228 := gb_0xb8 0x00 0x49 (n := 73) rfl
noncomputable def eb_229 := gb_0xb4 0x00 0x1a (n := 26) rfl
noncomputable def eb_230 := gb_0xa7 0xff 0xcd (sgn (n := nat_lit 51) rfl rfl)
theorem eb_231 : opK [0x84, 0x01, 0x01] = true ∧ decode ⟨⟨[0x84, 0x01, 0x01]⟩⟩ 0 = .ok (.iinc 1 1, 3) := by decide +kernel
noncomputable def eb_232 := gb_0xa7 0xff 0xbd (sgn (n := nat_lit 67) rfl rfl)
noncomputable def eb_233 := gb_0x9a 0x00 0x15 (sgp (n := nat_lit 21) rfl rfl)
noncomputable def eb_234 := gb_0x9e 0x00 0x07 (sgp (n := nat_lit 7) rfl rfl)
noncomputable def eb_235 := gb_0x11 0x01 0x00 (sgp (n := nat_lit 256) rfl rfl)
noncomputable def eb_236 := gb_0xb8 0x00 0x4d (n := 77) rfl
noncomputable def eb_237 := gb_0x9b 0x00 0x60 (sgp (n := nat_lit 96) rfl rfl)
noncomputable def eb_238 := gb_0xa2 0x00 0x53 (sgp (n := nat_lit 83) rfl rfl)
noncomputable def eb_239 := gb_0xb6 0x00 0x53 (n := 83) rfl
noncomputable def eb_240 := gb_0xb8 0x00 0x5b (n := 91) rfl
noncomputable def eb_241 := gb_0xa7 0xff 0xda (sgn (n := nat_lit 38) rfl rfl)
noncomputable def eb_242 := gb_0xa7 0xff 0xae (sgn (n := nat_lit 82) rfl rfl)
theorem eb_243 : opK [0x84, 0x02, 0xff] = true ∧ decode ⟨⟨[0x84, 0x02, 0xff]⟩⟩ 0 = .ok (.iinc 2 (-1), 3) := by decide +kernel
noncomputable def eb_244 := gb_0xa7 0xff 0xa2 (sgn (n := nat_lit 94) rfl rfl)
noncomputable def eb_245 := gb_0xb4 0x00 0x20 (n := 32) rfl
noncomputable def eb_246 := gb_0xa2 0x00 0x10 (sgp (n := nat_lit 16) rfl rfl)
theorem eb_247 : opK [0x54] = true ∧ decode ⟨⟨[0x54]⟩⟩ 0 = .ok (.bastore, 1) := by decide +kernel
noncomputable def eb_248 := gb_0xa7 0xff 0xed (sgn (n := nat_lit 19) rfl rfl)
noncomputable def eb_249 := gb_0xa2 0x00 0x2b (sgp (n := nat_lit 43) rfl rfl)
noncomputable def eb_250 := gb_0xa2 0x00 0x1e (sgp (n := nat_lit 30) rfl rfl)
theorem eb_251 : opK [0x33] = true ∧ decode ⟨⟨[0x33]⟩⟩ 0 = .ok (.baload, 1) := by decide +kernel
noncomputable def eb_252 := gb_0x99 0x00 0x09 (sgp (n := nat_lit 9) rfl rfl)
noncomputable def eb_253 := gb_0xa7 0xff 0xe3 (sgn (n := nat_lit 29) rfl rfl)
noncomputable def eb_254 := gb_0xa7 0xff 0xd3 (sgn (n := nat_lit 45) rfl rfl)
noncomputable def eb_255 := gb_0xa0 0x00 0x1e (sgp (n := nat_lit 30) rfl rfl)
noncomputable def eb_256 := gb_0x99 0x00 0x30 (sgp (n := nat_lit 48) rfl rfl)
noncomputable def eb_257 := gb_0xa0 0x00 0x24 (sgp (n := nat_lit 36) rfl rfl)
noncomputable def eb_258 := gb_0xa7 0xff 0xbc (sgn (n := nat_lit 68) rfl rfl)
noncomputable def eb_259 := gb_0xa2 0x00 0x3a (sgp (n := nat_lit 58) rfl rfl)
noncomputable def eb_260 := gb_0xa0 0x00 0x30 (sgp (n := nat_lit 48) rfl rfl)
noncomputable def eb_261 := gb_0x99 0x00 0x20 (sgp (n := nat_lit 32) rfl rfl)
noncomputable def eb_262 := gb_0xa0 0x00 0x0a (sgp (n := nat_lit 10) rfl rfl)
noncomputable def eb_263 := gb_0xa7 0xff 0xc4 (sgn (n := nat_lit 60) rfl rfl)
noncomputable def eb_264 := gb_0x9f 0x00 0x0e (sgp (n := nat_lit 14) rfl rfl)
noncomputable def eb_265 := gb_0xa7 0xff 0x98 (sgn (n := nat_lit 104) rfl rfl)
theorem eb_266 : opK [0x10, 0x50] = true ∧ decode ⟨⟨[0x10, 0x50]⟩⟩ 0 = .ok (.bipush 80, 2) := by decide +kernel
noncomputable def eb_267 := gb_0x11 0x01 0x2c (sgp (n := nat_lit 300) rfl rfl)
noncomputable def eb_268 := gb_0xb5 0x00 0x22 (n := 34) rfl
noncomputable def eb_269 := gb_0xb5 0x00 0x25 (n := 37) rfl
noncomputable def eb_270 := gb_0xb5 0x00 0x28 (n := 40) rfl
noncomputable def eb_271 := gb_0xb5 0x00 0x2b (n := 43) rfl
noncomputable def eb_272 := gb_0xb5 0x00 0x2e (n := 46) rfl
noncomputable def eb_273 := gb_0xb5 0x00 0x31 (n := 49) rfl
noncomputable def eb_274 := gb_0x11 0x0a 0x8c (sgp (n := nat_lit 2700) rfl rfl)
noncomputable def eb_275 := gb_0xb5 0x00 0x34 (n := 52) rfl
noncomputable def eb_276 := gb_0xb4 0x00 0x37 (n := 55) rfl
noncomputable def eb_277 := gb_0xb5 0x00 0x37 (n := 55) rfl
noncomputable def eb_278 := gb_0xb8 0x00 0x3b (n := 59) rfl
noncomputable def eb_279 := gb_0xb4 0x00 0x3f (n := 63) rfl
noncomputable def eb_280 := gb_0x99 0x00 0x1a (sgp (n := nat_lit 26) rfl rfl)
noncomputable def eb_281 := gb_0x99 0x00 0x24 (sgp (n := nat_lit 36) rfl rfl)
noncomputable def eb_282 := gb_0xa0 0x00 0x1a (sgp (n := nat_lit 26) rfl rfl)
noncomputable def eb_283 := gb_0xa2 0x00 0x11 (sgp (n := nat_lit 17) rfl rfl)
noncomputable def eb_284 := gb_0xb4 0x00 0x25 (n := 37) rfl
noncomputable def eb_285 := gb_0xb4 0x00 0x28 (n := 40) rfl
noncomputable def eb_286 := gb_0xb4 0x00 0x2b (n := 43) rfl
noncomputable def eb_287 := gb_0xb4 0x00 0x2e (n := 46) rfl
noncomputable def eb_288 := gb_0xb4 0x00 0x31 (n := 49) rfl
noncomputable def eb_289 := gb_0xb5 0x00 0x3f (n := 63) rfl
theorem eb_290 : opK [0x10, 0x09] = true ∧ decode ⟨⟨[0x10, 0x09]⟩⟩ 0 = .ok (.bipush 9, 2) := by decide +kernel
noncomputable def eb_291 := gb_0xb4 0x00 0x34 (n := 52) rfl
noncomputable def eb_292 := gb_0x11 0x05 0xa0 (sgp (n := nat_lit 1440) rfl rfl)
theorem eb_293 : opK [0x10, 0x3c] = true ∧ decode ⟨⟨[0x10, 0x3c]⟩⟩ 0 = .ok (.bipush 60, 2) := by decide +kernel
theorem eb_294 : opK [0x07] = true ∧ decode ⟨⟨[0x07]⟩⟩ 0 = .ok (.iconst 4, 1) := by decide +kernel
noncomputable def eb_295 := gb_0xb6 0x00 0x42 (n := 66) rfl
noncomputable def eb_296 := gb_0x99 0x00 0x19 (sgp (n := nat_lit 25) rfl rfl)
noncomputable def eb_297 := gb_0x99 0x00 0x0f (sgp (n := nat_lit 15) rfl rfl)
noncomputable def eb_298 := gb_0x9a 0x00 0x04 (sgp (n := nat_lit 4) rfl rfl)
noncomputable def eb_299 := gb_0xa4 0x00 0x18 (sgp (n := nat_lit 24) rfl rfl)
noncomputable def eb_300 := gb_0x9f 0x00 0x12 (sgp (n := nat_lit 18) rfl rfl)
noncomputable def eb_301 := gb_0xb4 0x00 0x46 (n := 70) rfl
noncomputable def eb_302 := gb_0xb5 0x00 0x46 (n := 70) rfl
noncomputable def eb_303 := gb_0xa0 0x00 0x14 (sgp (n := nat_lit 20) rfl rfl)
theorem eb_304 : opK [0x2c] = true ∧ decode ⟨⟨[0x2c]⟩⟩ 0 = .ok (.aload_n 2, 1) := by decide +kernel
noncomputable def eb_305 := gb_0xb6 0x00 0x49 (n := 73) rfl
noncomputable def eb_306 := gb_0xb6 0x00 0x4f (n := 79) rfl
noncomputable def eb_307 := gb_0xa2 0x00 0x20 (sgp (n := nat_lit 32) rfl rfl)
noncomputable def eb_308 := gb_0x9f 0x00 0x10 (sgp (n := nat_lit 16) rfl rfl)
noncomputable def eb_309 := gb_0xa3 0x00 0x06 (sgp (n := nat_lit 6) rfl rfl)
noncomputable def eb_310 := gb_0xa7 0xff 0xde (sgn (n := nat_lit 34) rfl rfl)
noncomputable def eb_311 := gb_0xa2 0x00 0x48 (sgp (n := nat_lit 72) rfl rfl)
noncomputable def eb_312 := gb_0xa0 0x00 0x37 (sgp (n := nat_lit 55) rfl rfl)
noncomputable def eb_313 := gb_0xa0 0x00 0x2c (sgp (n := nat_lit 44) rfl rfl)
noncomputable def eb_314 := gb_0xa0 0x00 0x1d (sgp (n := nat_lit 29) rfl rfl)
theorem eb_315 : opK [0x2d] = true ∧ decode ⟨⟨[0x2d]⟩⟩ 0 = .ok (.aload_n 3, 1) := by decide +kernel
noncomputable def eb_316 := gb_0xa7 0xff 0xb5 (sgn (n := nat_lit 75) rfl rfl)
theorem eb_317 : opK [0x10, 0x28] = true ∧ decode ⟨⟨[0x10, 0x28]⟩⟩ 0 = .ok (.bipush 40, 2) := by decide +kernel
noncomputable def eb_318 := gb_0x11 0x00 0xa8 (sgp (n := nat_lit 168) rfl rfl)
noncomputable def eb_319 := gb_0x11 0x02 0x58 (sgp (n := nat_lit 600) rfl rfl)
theorem eb_320 : opK [0x10, 0x30] = true ∧ decode ⟨⟨[0x10, 0x30]⟩⟩ 0 = .ok (.bipush 48, 2) := by decide +kernel
noncomputable def eb_321 := gb_0xb8 0x00 0x34 (n := 52) rfl
noncomputable def eb_322 := gb_0xb4 0x00 0x3a (n := 58) rfl
noncomputable def eb_323 := gb_0xb5 0x00 0x3a (n := 58) rfl
noncomputable def eb_324 := gb_0xb4 0x00 0x3d (n := 61) rfl
noncomputable def eb_325 := gb_0xa2 0x00 0x44 (sgp (n := nat_lit 68) rfl rfl)
noncomputable def eb_326 := gb_0xb4 0x00 0x42 (n := 66) rfl
noncomputable def eb_327 := gb_0xa3 0x00 0x25 (sgp (n := nat_lit 37) rfl rfl)
noncomputable def eb_328 := gb_0xb8 0x00 0x45 (n := 69) rfl
noncomputable def eb_329 := gb_0x99 0x00 0x15 (sgp (n := nat_lit 21) rfl rfl)
noncomputable def eb_330 := gb_0xa7 0xff 0xb9 (sgn (n := nat_lit 71) rfl rfl)
theorem eb_331 : opK [0x10, 0x0b] = true ∧ decode ⟨⟨[0x10, 0x0b]⟩⟩ 0 = .ok (.bipush 11, 2) := by decide +kernel
theorem eb_332 : opK [0x10, 0x0d] = true ∧ decode ⟨⟨[0x10, 0x0d]⟩⟩ 0 = .ok (.bipush 13, 2) := by decide +kernel
theorem eb_333 : opK [0x10, 0x0e] = true ∧ decode ⟨⟨[0x10, 0x0e]⟩⟩ 0 = .ok (.bipush 14, 2) := by decide +kernel
noncomputable def eb_334 := gb_0xa2 0x00 0x26 (sgp (n := nat_lit 38) rfl rfl)
noncomputable def eb_335 := gb_0xa7 0xff 0xd9 (sgn (n := nat_lit 39) rfl rfl)
noncomputable def eb_336 := gb_0xb4 0x00 0x4f (n := 79) rfl
noncomputable def eb_337 := gb_0xa4 0x00 0x05 (sgp (n := nat_lit 5) rfl rfl)
noncomputable def eb_338 := gb_0xa2 0x00 0x2a (sgp (n := nat_lit 42) rfl rfl)
noncomputable def eb_339 := gb_0xa2 0x00 0x1b (sgp (n := nat_lit 27) rfl rfl)
noncomputable def eb_340 := gb_0x9f 0x00 0x0a (sgp (n := nat_lit 10) rfl rfl)
noncomputable def eb_341 := gb_0xb6 0x00 0x52 (n := 82) rfl
noncomputable def eb_342 := gb_0xa7 0xff 0xd5 (sgn (n := nat_lit 43) rfl rfl)
noncomputable def eb_343 := gb_0xa2 0x00 0x65 (sgp (n := nat_lit 101) rfl rfl)
noncomputable def eb_344 := gb_0xb4 0x00 0x56 (n := 86) rfl
noncomputable def eb_345 := gb_0xb5 0x00 0x56 (n := 86) rfl
noncomputable def eb_346 := gb_0xb5 0x00 0x4f (n := 79) rfl
noncomputable def eb_347 := gb_0x9a 0x00 0x06 (sgp (n := nat_lit 6) rfl rfl)
theorem eb_348 : opK [0x12, 0x59] = true ∧ decode ⟨⟨[0x12, 0x59]⟩⟩ 0 = .ok (.ldc 89, 2) := by decide +kernel
noncomputable def eb_349 := gb_0xa2 0x00 0x3e (sgp (n := nat_lit 62) rfl rfl)
noncomputable def eb_350 := gb_0x9f 0x00 0x16 (sgp (n := nat_lit 22) rfl rfl)
noncomputable def eb_351 := gb_0xa1 0x00 0x08 (sgp (n := nat_lit 8) rfl rfl)
theorem eb_352 : opK [0xbc, 0x0b] = true ∧ decode ⟨⟨[0xbc, 0x0b]⟩⟩ 0 = .ok (.newarray .long, 2) := by decide +kernel
noncomputable def eb_353 := gb_0xb5 0x00 0x19 (n := 25) rfl
noncomputable def eb_354 := gb_0xb5 0x00 0x1c (n := 28) rfl
noncomputable def eb_355 := gb_0xb5 0x00 0x1f (n := 31) rfl
noncomputable def eb_356 := gb_0x11 0x0d 0x00 (sgp (n := nat_lit 3328) rfl rfl)
noncomputable def eb_357 := gb_0xb6 0x00 0x35 (n := 53) rfl
noncomputable def eb_358 := gb_0x99 0x00 0x23 (sgp (n := nat_lit 35) rfl rfl)
theorem eb_359 : opK [0x19, 0x04] = true ∧ decode ⟨⟨[0x19, 0x04]⟩⟩ 0 = .ok (.aload 4, 2) := by decide +kernel
noncomputable def eb_360 := gb_0xb6 0x00 0x39 (n := 57) rfl
noncomputable def eb_361 := gb_0xb6 0x00 0x3f (n := 63) rfl
noncomputable def eb_362 := gb_0xb4 0x00 0x43 (n := 67) rfl
noncomputable def eb_363 := gb_0xb8 0x00 0x46 (n := 70) rfl
noncomputable def eb_364 := gb_0xb4 0x00 0x4c (n := 76) rfl
noncomputable def eb_365 := gb_0xb4 0x00 0x1c (n := 28) rfl
noncomputable def eb_366 := gb_0xb4 0x00 0x53 (n := 83) rfl
noncomputable def eb_367 := gb_0xb4 0x00 0x5b (n := 91) rfl
noncomputable def eb_368 := gb_0xa0 0x00 0x0f (sgp (n := nat_lit 15) rfl rfl)
noncomputable def eb_369 := gb_0xb4 0x00 0x5e (n := 94) rfl
noncomputable def eb_370 := gb_0xa0 0x00 0x04 (sgp (n := nat_lit 4) rfl rfl)
noncomputable def eb_371 := gb_0xb5 0x00 0x53 (n := 83) rfl
noncomputable def eb_372 := gb_0xb5 0x00 0x5b (n := 91) rfl
noncomputable def eb_373 := gb_0xb5 0x00 0x5e (n := 94) rfl
noncomputable def eb_374 := gb_0xb5 0x00 0x4c (n := 76) rfl
noncomputable def eb_375 := gb_0xb4 0x00 0x61 (n := 97) rfl
noncomputable def eb_376 := gb_0xa2 0x00 0x36 (sgp (n := nat_lit 54) rfl rfl)
noncomputable def eb_377 := gb_0xa0 0x00 0x26 (sgp (n := nat_lit 38) rfl rfl)
theorem eb_378 : opK [0x50] = true ∧ decode ⟨⟨[0x50]⟩⟩ 0 = .ok (.lastore, 1) := by decide +kernel
noncomputable def eb_379 := gb_0xa7 0xff 0xc7 (sgn (n := nat_lit 57) rfl rfl)
noncomputable def eb_380 := gb_0xb5 0x00 0x43 (n := 67) rfl
noncomputable def eb_381 := gb_0xb5 0x00 0x68 (n := 104) rfl
theorem eb_382 : opK [0x09] = true ∧ decode ⟨⟨[0x09]⟩⟩ 0 = .ok (.lconst 0, 1) := by decide +kernel
theorem eb_383 : opK [0x37, 0x04] = true ∧ decode ⟨⟨[0x37, 0x04]⟩⟩ 0 = .ok (.lstore 4, 2) := by decide +kernel
noncomputable def eb_384 := gb_0xb6 0x00 0x6f (n := 111) rfl
theorem eb_385 : opK [0x16, 0x04] = true ∧ decode ⟨⟨[0x16, 0x04]⟩⟩ 0 = .ok (.lload 4, 2) := by decide +kernel
theorem eb_386 : opK [0x0a] = true ∧ decode ⟨⟨[0x0a]⟩⟩ 0 = .ok (.lconst 1, 1) := by decide +kernel
theorem eb_387 : opK [0x79] = true ∧ decode ⟨⟨[0x79]⟩⟩ 0 = .ok (.lshl, 1) := by decide +kernel
theorem eb_388 : opK [0x81] = true ∧ decode ⟨⟨[0x81]⟩⟩ 0 = .ok (.lor, 1) := by decide +kernel
theorem eb_389 : opK [0xad] = true ∧ decode ⟨⟨[0xad]⟩⟩ 0 = .ok (.lreturn, 1) := by decide +kernel
noncomputable def eb_390 := gb_0xa2 0x00 0x08 (sgp (n := nat_lit 8) rfl rfl)
noncomputable def eb_391 := gb_0xa1 0x00 0x04 (sgp (n := nat_lit 4) rfl rfl)
theorem eb_392 : opK [0x21] = true ∧ decode ⟨⟨[0x21]⟩⟩ 0 = .ok (.lload_n 3, 1) := by decide +kernel
theorem eb_393 : opK [0x85] = true ∧ decode ⟨⟨[0x85]⟩⟩ 0 = .ok (.i2l, 1) := by decide +kernel
theorem eb_394 : opK [0x2f] = true ∧ decode ⟨⟨[0x2f]⟩⟩ 0 = .ok (.laload, 1) := by decide +kernel
theorem eb_395 : opK [0x69] = true ∧ decode ⟨⟨[0x69]⟩⟩ 0 = .ok (.lmul, 1) := by decide +kernel
theorem eb_396 : opK [0x61] = true ∧ decode ⟨⟨[0x61]⟩⟩ 0 = .ok (.ladd, 1) := by decide +kernel
noncomputable def eb_397 := gb_0xb6 0x00 0x73 (n := 115) rfl
noncomputable def eb_398 := gb_0x9b 0x00 0x28 (sgp (n := nat_lit 40) rfl rfl)
theorem eb_399 : opK [0x84, 0x05, 0xff] = true ∧ decode ⟨⟨[0x84, 0x05, 0xff]⟩⟩ 0 = .ok (.iinc 5 (-1), 3) := by decide +kernel
theorem eb_400 : opK [0x1f] = true ∧ decode ⟨⟨[0x1f]⟩⟩ 0 = .ok (.lload_n 1, 1) := by decide +kernel
theorem eb_401 : opK [0x7b] = true ∧ decode ⟨⟨[0x7b]⟩⟩ 0 = .ok (.lshr, 1) := by decide +kernel
theorem eb_402 : opK [0x88] = true ∧ decode ⟨⟨[0x88]⟩⟩ 0 = .ok (.l2i, 1) := by decide +kernel
noncomputable def eb_403 := gb_0xb8 0x00 0x77 (n := 119) rfl
noncomputable def eb_404 := gb_0xa3 0x00 0x14 (sgp (n := nat_lit 20) rfl rfl)
noncomputable def eb_405 := gb_0xa0 0x00 0x25 (sgp (n := nat_lit 37) rfl rfl)
noncomputable def eb_406 := gb_0xb4 0x00 0x68 (n := 104) rfl
noncomputable def eb_407 := gb_0xa4 0x00 0x1c (sgp (n := nat_lit 28) rfl rfl)
noncomputable def eb_408 := gb_0xb8 0x00 0x7d (n := 125) rfl
noncomputable def eb_409 := gb_0xb4 0x00 0x83 (n := 131) rfl
noncomputable def eb_410 := gb_0xb5 0x00 0x83 (n := 131) rfl
theorem eb_411 : opK [0x12, 0x86] = true ∧ decode ⟨⟨[0x12, 0x86]⟩⟩ 0 = .ok (.ldc 134, 2) := by decide +kernel
noncomputable def eb_412 := gb_0xa2 0x00 0x16 (sgp (n := nat_lit 22) rfl rfl)
noncomputable def eb_413 := gb_0xb6 0x00 0x87 (n := 135) rfl
noncomputable def eb_414 := gb_0xa3 0x00 0x21 (sgp (n := nat_lit 33) rfl rfl)
theorem eb_415 : opK [0x12, 0x8b] = true ∧ decode ⟨⟨[0x12, 0x8b]⟩⟩ 0 = .ok (.ldc 139, 2) := by decide +kernel
noncomputable def eb_416 := gb_0xa7 0xff 0xdf (sgn (n := nat_lit 33) rfl rfl)
noncomputable def eb_417 := gb_0x9b 0x00 0x2e (sgp (n := nat_lit 46) rfl rfl)
noncomputable def eb_418 := gb_0xa3 0x00 0x1f (sgp (n := nat_lit 31) rfl rfl)
noncomputable def eb_419 := gb_0xb6 0x00 0x8c (n := 140) rfl
noncomputable def eb_420 := gb_0xa7 0xff 0xe1 (sgn (n := nat_lit 31) rfl rfl)
theorem eb_421 : opK [0x84, 0x04, 0xff] = true ∧ decode ⟨⟨[0x84, 0x04, 0xff]⟩⟩ 0 = .ok (.iinc 4 (-1), 3) := by decide +kernel
noncomputable def eb_422 := gb_0xb6 0x00 0x8f (n := 143) rfl
noncomputable def eb_423 := gb_0xb6 0x00 0x93 (n := 147) rfl
noncomputable def eb_424 := gb_0xa7 0xff 0xe7 (sgn (n := nat_lit 25) rfl rfl)
noncomputable def eb_425 := gb_0xa2 0x00 0x74 (sgp (n := nat_lit 116) rfl rfl)
noncomputable def eb_426 := gb_0xa0 0x00 0x36 (sgp (n := nat_lit 54) rfl rfl)
noncomputable def eb_427 := gb_0xa0 0x00 0x0c (sgp (n := nat_lit 12) rfl rfl)
noncomputable def eb_428 := gb_0x9f 0x00 0x11 (sgp (n := nat_lit 17) rfl rfl)
noncomputable def eb_429 := gb_0xa7 0xff 0x8c (sgn (n := nat_lit 116) rfl rfl)
noncomputable def eb_430 := gb_0x11 0x01 0x90 (sgp (n := nat_lit 400) rfl rfl)
noncomputable def eb_431 := gb_0x9b 0x00 0x21 (sgp (n := nat_lit 33) rfl rfl)
noncomputable def eb_432 := gb_0xa2 0x00 0x19 (sgp (n := nat_lit 25) rfl rfl)
noncomputable def eb_433 := gb_0x99 0x00 0x16 (sgp (n := nat_lit 22) rfl rfl)
noncomputable def eb_434 := gb_0xa3 0x00 0x0c (sgp (n := nat_lit 12) rfl rfl)
noncomputable def eb_435 := gb_0xb4 0x00 0x32 (n := 50) rfl
noncomputable def eb_436 := gb_0xa2 0x00 0x27 (sgp (n := nat_lit 39) rfl rfl)
noncomputable def eb_437 := gb_0xa0 0x00 0x16 (sgp (n := nat_lit 22) rfl rfl)
noncomputable def eb_438 := gb_0xa3 0x00 0x0b (sgp (n := nat_lit 11) rfl rfl)
noncomputable def eb_439 := gb_0xa7 0xff 0xd6 (sgn (n := nat_lit 42) rfl rfl)
noncomputable def eb_440 := gb_0xa0 0x00 0x0d (sgp (n := nat_lit 13) rfl rfl)
noncomputable def eb_441 := gb_0xb5 0x00 0x32 (n := 50) rfl
noncomputable def eb_442 := gb_0xa7 0xff 0xe6 (sgn (n := nat_lit 26) rfl rfl)
noncomputable def eb_443 := gb_0xa0 0x00 0x15 (sgp (n := nat_lit 21) rfl rfl)
noncomputable def eb_444 := gb_0xa2 0x00 0x22 (sgp (n := nat_lit 34) rfl rfl)
noncomputable def eb_445 := gb_0xa7 0xff 0xdb (sgn (n := nat_lit 37) rfl rfl)
noncomputable def eb_446 := gb_0xa2 0x00 0x2c (sgp (n := nat_lit 44) rfl rfl)
noncomputable def eb_447 := gb_0x99 0x00 0x1b (sgp (n := nat_lit 27) rfl rfl)
noncomputable def eb_448 := gb_0x9f 0x00 0x09 (sgp (n := nat_lit 9) rfl rfl)
noncomputable def eb_449 := gb_0xa1 0x00 0x06 (sgp (n := nat_lit 6) rfl rfl)
noncomputable def eb_450 := gb_0xa7 0xff 0xd1 (sgn (n := nat_lit 47) rfl rfl)
noncomputable def eb_451 := gb_0x11 0x00 0xa0 (sgp (n := nat_lit 160) rfl rfl)
theorem eb_452 : opK [0x12, 0x0f] = true ∧ decode ⟨⟨[0x12, 0x0f]⟩⟩ 0 = .ok (.ldc 15, 2) := by decide +kernel
noncomputable def eb_453 := gb_0xb5 0x00 0x11 (n := 17) rfl
noncomputable def eb_454 := gb_0xb5 0x00 0x17 (n := 23) rfl
noncomputable def eb_455 := gb_0x11 0x00 0xa4 (sgp (n := nat_lit 164) rfl rfl)
noncomputable def eb_456 := gb_0xb8 0x00 0x1f (n := 31) rfl
noncomputable def eb_457 := gb_0xb4 0x00 0x23 (n := 35) rfl
theorem eb_458 : opK [0x10, 0x18] = true ∧ decode ⟨⟨[0x10, 0x18]⟩⟩ 0 = .ok (.bipush 24, 2) := by decide +kernel
noncomputable def eb_459 := gb_0x9b 0x00 0x16 (sgp (n := nat_lit 22) rfl rfl)
noncomputable def eb_460 := gb_0x11 0x00 0xff (sgp (n := nat_lit 255) rfl rfl)
noncomputable def eb_461 := gb_0x99 0x00 0x06 (sgp (n := nat_lit 6) rfl rfl)
theorem eb_462 : opK [0x84, 0x02, 0xf8] = true ∧ decode ⟨⟨[0x84, 0x02, 0xf8]⟩⟩ 0 = .ok (.iinc 2 (-8), 3) := by decide +kernel
noncomputable def eb_463 := gb_0xa7 0xff 0xec (sgn (n := nat_lit 20) rfl rfl)
noncomputable def eb_464 := gb_0x9b 0x00 0x33 (sgp (n := nat_lit 51) rfl rfl)
noncomputable def eb_465 := gb_0x99 0x00 0x21 (sgp (n := nat_lit 33) rfl rfl)
noncomputable def eb_466 := gb_0xb5 0x00 0x23 (n := 35) rfl
noncomputable def eb_467 := gb_0xa7 0xff 0xcf (sgn (n := nat_lit 49) rfl rfl)
noncomputable def eb_468 := gb_0xb8 0x00 0x2b (n := 43) rfl
noncomputable def eb_469 := gb_0xb5 0x00 0x2f (n := 47) rfl
noncomputable def eb_470 := gb_0xb5 0x00 0x35 (n := 53) rfl
noncomputable def eb_471 := gb_0xb5 0x00 0x38 (n := 56) rfl
noncomputable def eb_472 := gb_0xb4 0x00 0x2f (n := 47) rfl
theorem eb_473 : opK [0x10, 0x20] = true ∧ decode ⟨⟨[0x10, 0x20]⟩⟩ 0 = .ok (.bipush 32, 2) := by decide +kernel
noncomputable def eb_474 := gb_0xa2 0x00 0x0f (sgp (n := nat_lit 15) rfl rfl)
noncomputable def eb_475 := gb_0x9f 0x00 0x08 (sgp (n := nat_lit 8) rfl rfl)
noncomputable def eb_476 := gb_0xa1 0x00 0x0d (sgp (n := nat_lit 13) rfl rfl)
theorem eb_477 : opK [0x10, 0x39] = true ∧ decode ⟨⟨[0x10, 0x39]⟩⟩ 0 = .ok (.bipush 57, 2) := by decide +kernel
noncomputable def eb_478 := gb_0x99 0x00 0x4f (sgp (n := nat_lit 79) rfl rfl)
noncomputable def eb_479 := gb_0x99 0x00 0x35 (sgp (n := nat_lit 53) rfl rfl)
noncomputable def eb_480 := gb_0xa7 0xff 0xb2 (sgn (n := nat_lit 78) rfl rfl)
noncomputable def eb_481 := gb_0x9a 0x00 0x0d (sgp (n := nat_lit 13) rfl rfl)
noncomputable def eb_482 := gb_0x9a 0x00 0x0f (sgp (n := nat_lit 15) rfl rfl)
theorem eb_483 : opK [0x57] = true ∧ decode ⟨⟨[0x57]⟩⟩ 0 = .ok (.pop, 1) := by decide +kernel
noncomputable def eb_484 := gb_0x99 0x00 0x22 (sgp (n := nat_lit 34) rfl rfl)
theorem eb_485 : opK [0x10, 0x3b] = true ∧ decode ⟨⟨[0x10, 0x3b]⟩⟩ 0 = .ok (.bipush 59, 2) := by decide +kernel
noncomputable def eb_486 := gb_0xb6 0x00 0x55 (n := 85) rfl
noncomputable def eb_487 := gb_0xb6 0x00 0x59 (n := 89) rfl
noncomputable def eb_488 := gb_0x11 0x00 0xf0 (sgp (n := nat_lit 240) rfl rfl)
noncomputable def eb_489 := gb_0xb6 0x00 0x5c (n := 92) rfl
noncomputable def eb_490 := gb_0xb6 0x00 0x5f (n := 95) rfl
noncomputable def eb_491 := gb_0x9f 0x00 0x18 (sgp (n := nat_lit 24) rfl rfl)
noncomputable def eb_492 := gb_0xb4 0x00 0x35 (n := 53) rfl
theorem eb_493 : opK [0x10, 0x29] = true ∧ decode ⟨⟨[0x10, 0x29]⟩⟩ 0 = .ok (.bipush 41, 2) := by decide +kernel
noncomputable def eb_494 := gb_0xb6 0x00 0x62 (n := 98) rfl
theorem eb_495 : opK [0x10, 0x14] = true ∧ decode ⟨⟨[0x10, 0x14]⟩⟩ 0 = .ok (.bipush 20, 2) := by decide +kernel
noncomputable def eb_496 := gb_0xa0 0x00 0x05 (sgp (n := nat_lit 5) rfl rfl)
noncomputable def eb_497 := gb_0xb4 0x00 0x38 (n := 56) rfl
noncomputable def eb_498 := gb_0x9a 0x00 0x24 (sgp (n := nat_lit 36) rfl rfl)
noncomputable def eb_499 := gb_0xa2 0x00 0x14 (sgp (n := nat_lit 20) rfl rfl)
noncomputable def eb_500 := gb_0xb4 0x00 0x17 (n := 23) rfl
noncomputable def eb_501 := gb_0xb6 0x00 0x65 (n := 101) rfl
noncomputable def eb_502 := gb_0xa7 0xff 0xeb (sgn (n := nat_lit 21) rfl rfl)
noncomputable def eb_503 := gb_0xb8 0x00 0x68 (n := 104) rfl
noncomputable def eb_504 := gb_0xa2 0x00 0x1a (sgp (n := nat_lit 26) rfl rfl)
noncomputable def eb_505 := gb_0xa7 0x00 0x08 (sgp (n := nat_lit 8) rfl rfl)
noncomputable def eb_506 := gb_0x99 0x00 0x08 (sgp (n := nat_lit 8) rfl rfl)
theorem eb_507 : opK [0x12, 0x6c] = true ∧ decode ⟨⟨[0x12, 0x6c]⟩⟩ 0 = .ok (.ldc 108, 2) := by decide +kernel
theorem eb_508 : opK [0x12, 0x6e] = true ∧ decode ⟨⟨[0x12, 0x6e]⟩⟩ 0 = .ok (.ldc 110, 2) := by decide +kernel
noncomputable def eb_509 := gb_0xb6 0x00 0x70 (n := 112) rfl
noncomputable def eb_510 := gb_0xa2 0x00 0x30 (sgp (n := nat_lit 48) rfl rfl)
noncomputable def eb_511 := gb_0x99 0x00 0x2c (sgp (n := nat_lit 44) rfl rfl)
noncomputable def eb_512 := gb_0xa0 0x00 0x23 (sgp (n := nat_lit 35) rfl rfl)
noncomputable def eb_513 := gb_0xb6 0x00 0x76 (n := 118) rfl
theorem eb_514 : opK [0x10, 0x3f] = true ∧ decode ⟨⟨[0x10, 0x3f]⟩⟩ 0 = .ok (.bipush 63, 2) := by decide +kernel
noncomputable def eb_515 := gb_0xb6 0x00 0x79 (n := 121) rfl
theorem eb_516 : opK [0x12, 0x7c] = true ∧ decode ⟨⟨[0x12, 0x7c]⟩⟩ 0 = .ok (.ldc 124, 2) := by decide +kernel
theorem eb_517 : opK [0x92] = true ∧ decode ⟨⟨[0x92]⟩⟩ 0 = .ok (.i2c, 1) := by decide +kernel
noncomputable def eb_518 := gb_0xb6 0x00 0x7e (n := 126) rfl
theorem eb_519 : opK [0x9c, 0x00, 0x08] = true ∧ decode ⟨⟨[0x9c, 0x00, 0x08]⟩⟩ 0 = .ok (.ifCond .ge 8, 3) := by decide +kernel
noncomputable def eb_520 := gb_0xb6 0x00 0x83 (n := 131) rfl
theorem eb_521 : opK [0x10, 0x21] = true ∧ decode ⟨⟨[0x10, 0x21]⟩⟩ 0 = .ok (.bipush 33, 2) := by decide +kernel
noncomputable def eb_522 := gb_0xa0 0x00 0x18 (sgp (n := nat_lit 24) rfl rfl)
noncomputable def eb_523 := gb_0xb6 0x00 0x86 (n := 134) rfl
noncomputable def eb_524 := gb_0xb6 0x00 0x89 (n := 137) rfl
noncomputable def eb_525 := gb_0xb8 0x00 0x8c (n := 140) rfl
noncomputable def eb_526 := gb_0xb6 0x00 0x92 (n := 146) rfl
noncomputable def eb_527 := gb_0xb8 0x00 0x95 (n := 149) rfl
noncomputable def eb_528 := gb_0xb6 0x00 0x97 (n := 151) rfl
noncomputable def eb_529 := gb_0xb6 0x00 0x9a (n := 154) rfl
noncomputable def eb_530 := gb_0x99 0x00 0x3a (sgp (n := nat_lit 58) rfl rfl)
theorem eb_531 : opK [0x10, 0x7c] = true ∧ decode ⟨⟨[0x10, 0x7c]⟩⟩ 0 = .ok (.bipush 124, 2) := by decide +kernel
noncomputable def eb_532 := gb_0xa0 0x00 0x31 (sgp (n := nat_lit 49) rfl rfl)
noncomputable def eb_533 := gb_0xa7 0xff 0xc1 (sgn (n := nat_lit 63) rfl rfl)
noncomputable def eb_534 := gb_0x99 0x00 0x2a (sgp (n := nat_lit 42) rfl rfl)
theorem eb_535 : opK [0x10, 0x26] = true ∧ decode ⟨⟨[0x10, 0x26]⟩⟩ 0 = .ok (.bipush 38, 2) := by decide +kernel
noncomputable def eb_536 := gb_0xa0 0x00 0x21 (sgp (n := nat_lit 33) rfl rfl)
noncomputable def eb_537 := gb_0x9f 0x00 0x1f (sgp (n := nat_lit 31) rfl rfl)
noncomputable def eb_538 := gb_0x9f 0x00 0x19 (sgp (n := nat_lit 25) rfl rfl)
noncomputable def eb_539 := gb_0xa0 0x00 0x1c (sgp (n := nat_lit 28) rfl rfl)
theorem eb_540 : opK [0x10, 0x3d] = true ∧ decode ⟨⟨[0x10, 0x3d]⟩⟩ 0 = .ok (.bipush 61, 2) := by decide +kernel
noncomputable def eb_541 := gb_0x9f 0x00 0x0f (sgp (n := nat_lit 15) rfl rfl)
theorem eb_542 : opK [0x10, 0x3e] = true ∧ decode ⟨⟨[0x10, 0x3e]⟩⟩ 0 = .ok (.bipush 62, 2) := by decide +kernel
noncomputable def eb_543 := gb_0x9a 0x00 0x08 (sgp (n := nat_lit 8) rfl rfl)
noncomputable def eb_544 := gb_0xa0 0x00 0x08 (sgp (n := nat_lit 8) rfl rfl)
noncomputable def eb_545 := gb_0xa7 0x00 0x10 (sgp (n := nat_lit 16) rfl rfl)
noncomputable def eb_546 := gb_0xb6 0x00 0x9d (n := 157) rfl
noncomputable def eb_547 := gb_0x99 0x00 0x44 (sgp (n := nat_lit 68) rfl rfl)
theorem eb_548 : opK [0x10, 0x2b] = true ∧ decode ⟨⟨[0x10, 0x2b]⟩⟩ 0 = .ok (.bipush 43, 2) := by decide +kernel
noncomputable def eb_549 := gb_0x9f 0x00 0x0c (sgp (n := nat_lit 12) rfl rfl)
theorem eb_550 : opK [0x10, 0x2d] = true ∧ decode ⟨⟨[0x10, 0x2d]⟩⟩ 0 = .ok (.bipush 45, 2) := by decide +kernel
noncomputable def eb_551 := gb_0xa0 0x00 0x32 (sgp (n := nat_lit 50) rfl rfl)
noncomputable def eb_552 := gb_0xa7 0xff 0xb7 (sgn (n := nat_lit 73) rfl rfl)
noncomputable def eb_553 := gb_0xb6 0x00 0xa0 (n := 160) rfl
theorem eb_554 : opK [0x10, 0x2a] = true ∧ decode ⟨⟨[0x10, 0x2a]⟩⟩ 0 = .ok (.bipush 42, 2) := by decide +kernel
noncomputable def eb_555 := gb_0x99 0x00 0x1e (sgp (n := nat_lit 30) rfl rfl)
noncomputable def eb_556 := gb_0x11 0x27 0x0f (sgp (n := nat_lit 9999) rfl rfl)
noncomputable def eb_557 := gb_0x9f 0x00 0x07 (sgp (n := nat_lit 7) rfl rfl)
theorem eb_558 : opK [0x10, 0x5b] = true ∧ decode ⟨⟨[0x10, 0x5b]⟩⟩ 0 = .ok (.bipush 91, 2) := by decide +kernel
theorem eb_559 : opK [0x10, 0x5d] = true ∧ decode ⟨⟨[0x10, 0x5d]⟩⟩ 0 = .ok (.bipush 93, 2) := by decide +kernel
noncomputable def eb_560 := gb_0xa7 0x00 0x0c (sgp (n := nat_lit 12) rfl rfl)
noncomputable def eb_561 := gb_0xb4 0x00 0x11 (n := 17) rfl
noncomputable def eb_562 := gb_0xb4 0x00 0x09 (n := 9) rfl
noncomputable def eb_563 := gb_0xb8 0x00 0x10 (n := 16) rfl
noncomputable def eb_564 := gb_0xb4 0x00 0x14 (n := 20) rfl
noncomputable def eb_565 := gb_0xa2 0x00 0x75 (sgp (n := nat_lit 117) rfl rfl)
noncomputable def eb_566 := gb_0xb8 0x00 0x18 (n := 24) rfl
noncomputable def eb_567 := gb_0xa7 0xff 0x9a (sgn (n := nat_lit 102) rfl rfl)
noncomputable def eb_568 := gb_0xa7 0xff 0x8a (sgn (n := nat_lit 118) rfl rfl)
noncomputable def eb_569 := gb_0xb5 0x00 0x14 (n := 20) rfl
noncomputable def eb_570 := gb_0x11 0x0c 0xd0 (sgp (n := nat_lit 3280) rfl rfl)
noncomputable def eb_571 := gb_0xb8 0x00 0x27 (n := 39) rfl
noncomputable def eb_572 := gb_0xa2 0x00 0x37 (sgp (n := nat_lit 55) rfl rfl)
noncomputable def eb_573 := gb_0xa3 0x00 0x26 (sgp (n := nat_lit 38) rfl rfl)
noncomputable def eb_574 := gb_0xa3 0x00 0x1b (sgp (n := nat_lit 27) rfl rfl)
noncomputable def eb_575 := gb_0x9f 0x00 0x13 (sgp (n := nat_lit 19) rfl rfl)
noncomputable def eb_576 := gb_0xa7 0xff 0xc6 (sgn (n := nat_lit 58) rfl rfl)
noncomputable def eb_577 := gb_0xb8 0x00 0x2d (n := 45) rfl
noncomputable def eb_578 := gb_0xa2 0x00 0xe6 (sgp (n := nat_lit 230) rfl rfl)
noncomputable def eb_579 := gb_0xa0 0x00 0x2e (sgp (n := nat_lit 46) rfl rfl)
noncomputable def eb_580 := gb_0xa7 0x00 0x0b (sgp (n := nat_lit 11) rfl rfl)
noncomputable def eb_581 := gb_0xb8 0x00 0x31 (n := 49) rfl
noncomputable def eb_582 := gb_0xa7 0x00 0x87 (sgp (n := nat_lit 135) rfl rfl)
noncomputable def eb_583 := gb_0xa1 0x00 0x2f (sgp (n := nat_lit 47) rfl rfl)
noncomputable def eb_584 := gb_0xa2 0x00 0x05 (sgp (n := nat_lit 5) rfl rfl)
noncomputable def eb_585 := gb_0xb8 0x00 0x35 (n := 53) rfl
noncomputable def eb_586 := gb_0xa7 0x00 0x55 (sgp (n := nat_lit 85) rfl rfl)
noncomputable def eb_587 := gb_0xa7 0x00 0x30 (sgp (n := nat_lit 48) rfl rfl)
noncomputable def eb_588 := gb_0xa7 0xff 0x15 (sgn (n := nat_lit 235) rfl rfl)
noncomputable def eb_589 := gb_0xb8 0x00 0x3f (n := 63) rfl
theorem eb_590 : opK [0x65] = true ∧ decode ⟨⟨[0x65]⟩⟩ 0 = .ok (.lsub, 1) := by decide +kernel
noncomputable def eb_591 := gb_0xa4 0x00 0x07 (sgp (n := nat_lit 7) rfl rfl)
theorem eb_592 : opK [0x1e] = true ∧ decode ⟨⟨[0x1e]⟩⟩ 0 = .ok (.lload_n 0, 1) := by decide +kernel
noncomputable def eb_593 := gb_0x14 0x00 0x43 (n := 67) rfl
theorem eb_594 : opK [0x94] = true ∧ decode ⟨⟨[0x94]⟩⟩ 0 = .ok (.lcmp, 1) := by decide +kernel
noncomputable def eb_595 := gb_0x9e 0x00 0x08 (sgp (n := nat_lit 8) rfl rfl)
theorem eb_596 : opK [0x12, 0x45] = true ∧ decode ⟨⟨[0x12, 0x45]⟩⟩ 0 = .ok (.ldc 69, 2) := by decide +kernel
noncomputable def eb_597 := gb_0x14 0x00 0x46 (n := 70) rfl
theorem eb_598 : opK [0x12, 0x48] = true ∧ decode ⟨⟨[0x12, 0x48]⟩⟩ 0 = .ok (.ldc 72, 2) := by decide +kernel
noncomputable def eb_599 := gb_0xb7 0x00 0x01 (n := 1) rfl
noncomputable def eb_600 := gb_0xbb 0x00 0x07 (n := 7) rfl
noncomputable def eb_601 := gb_0xb7 0x00 0x09 (n := 9) rfl
noncomputable def eb_602 := gb_0xb5 0x00 0x0a (n := 10) rfl
noncomputable def eb_603 := gb_0xbb 0x00 0x10 (n := 16) rfl
noncomputable def eb_604 := gb_0xb7 0x00 0x12 (n := 18) rfl
noncomputable def eb_605 := gb_0xb5 0x00 0x13 (n := 19) rfl
noncomputable def eb_606 := gb_0xbb 0x00 0x17 (n := 23) rfl
noncomputable def eb_607 := gb_0xb7 0x00 0x19 (n := 25) rfl
noncomputable def eb_608 := gb_0xbb 0x00 0x1e (n := 30) rfl
noncomputable def eb_609 := gb_0xb7 0x00 0x20 (n := 32) rfl
theorem eb_610 : opK [0xbd, 0x00, 0x28] = true ∧ decode ⟨⟨[0xbd, 0x00, 0x28]⟩⟩ 0 = .ok (.anewarray 40, 3) := by decide +kernel
noncomputable def eb_611 := gb_0xbb 0x00 0x2e (n := 46) rfl
noncomputable def eb_612 := gb_0xb7 0x00 0x30 (n := 48) rfl
noncomputable def eb_613 := gb_0xbb 0x00 0x35 (n := 53) rfl
noncomputable def eb_614 := gb_0xb7 0x00 0x37 (n := 55) rfl
noncomputable def eb_615 := gb_0xbb 0x00 0x3c (n := 60) rfl
noncomputable def eb_616 := gb_0xb7 0x00 0x3e (n := 62) rfl
noncomputable def eb_617 := gb_0xbb 0x00 0x43 (n := 67) rfl
noncomputable def eb_618 := gb_0xb7 0x00 0x45 (n := 69) rfl
noncomputable def eb_619 := gb_0xbb 0x00 0x4a (n := 74) rfl
noncomputable def eb_620 := gb_0xb7 0x00 0x4c (n := 76) rfl
noncomputable def eb_621 := gb_0xb5 0x00 0x4d (n := 77) rfl
noncomputable def eb_622 := gb_0xbb 0x00 0x51 (n := 81) rfl
noncomputable def eb_623 := gb_0xb7 0x00 0x53 (n := 83) rfl
noncomputable def eb_624 := gb_0xb5 0x00 0x54 (n := 84) rfl
noncomputable def eb_625 := gb_0xb5 0x00 0x58 (n := 88) rfl
noncomputable def eb_626 := gb_0xa1 0x00 0x0c (sgp (n := nat_lit 12) rfl rfl)
noncomputable def eb_627 := gb_0x9b 0x00 0x0d (sgp (n := nat_lit 13) rfl rfl)
noncomputable def eb_628 := gb_0xb4 0x00 0x5c (n := 92) rfl
noncomputable def eb_629 := gb_0xb8 0x00 0x60 (n := 96) rfl
noncomputable def eb_630 := gb_0xc6 0x00 0x07 (sgp (n := nat_lit 7) rfl rfl)
theorem eb_631 : opK [0x32] = true ∧ decode ⟨⟨[0x32]⟩⟩ 0 = .ok (.aaload, 1) := by decide +kernel
theorem eb_632 : opK [0x01] = true ∧ decode ⟨⟨[0x01]⟩⟩ 0 = .ok (.aconst_null, 1) := by decide +kernel
theorem eb_633 : opK [0xb0] = true ∧ decode ⟨⟨[0xb0]⟩⟩ 0 = .ok (.areturn, 1) := by decide +kernel
noncomputable def eb_634 := gb_0xb8 0x00 0x6b (n := 107) rfl
noncomputable def eb_635 := gb_0xb4 0x00 0x0a (n := 10) rfl
noncomputable def eb_636 := gb_0xbb 0x00 0x28 (n := 40) rfl
noncomputable def eb_637 := gb_0xb7 0x00 0x77 (n := 119) rfl
theorem eb_638 : opK [0x3a, 0x05] = true ∧ decode ⟨⟨[0x3a, 0x05]⟩⟩ 0 = .ok (.astore 5, 2) := by decide +kernel
theorem eb_639 : opK [0x53] = true ∧ decode ⟨⟨[0x53]⟩⟩ 0 = .ok (.aastore, 1) := by decide +kernel
noncomputable def eb_640 := gb_0xb6 0x00 0x7a (n := 122) rfl
noncomputable def eb_641 := gb_0xb4 0x00 0x7e (n := 126) rfl
noncomputable def eb_642 := gb_0xb4 0x00 0x13 (n := 19) rfl
noncomputable def eb_643 := gb_0xb6 0x00 0x81 (n := 129) rfl
noncomputable def eb_644 := gb_0xb6 0x00 0x85 (n := 133) rfl
noncomputable def eb_645 := gb_0xb6 0x00 0x88 (n := 136) rfl
theorem eb_646 : opK [0x10, 0xfe] = true ∧ decode ⟨⟨[0x10, 0xfe]⟩⟩ 0 = .ok (.bipush (-2), 2) := by decide +kernel
noncomputable def eb_647 := gb_0xb6 0x00 0x90 (n := 144) rfl
noncomputable def eb_648 := gb_0xb6 0x00 0x94 (n := 148) rfl
noncomputable def eb_649 := gb_0xb6 0x00 0x9b (n := 155) rfl
theorem eb_650 : opK [0x4e] = true ∧ decode ⟨⟨[0x4e]⟩⟩ 0 = .ok (.astore_n 3, 1) := by decide +kernel
noncomputable def eb_651 := gb_0xc6 0x00 0x27 (sgp (n := nat_lit 39) rfl rfl)
noncomputable def eb_652 := gb_0x99 0x00 0x1c (sgp (n := nat_lit 28) rfl rfl)
noncomputable def eb_653 := gb_0xb4 0x00 0x9e (n := 158) rfl
noncomputable def eb_654 := gb_0xb6 0x00 0xa1 (n := 161) rfl
noncomputable def eb_655 := gb_0xb5 0x00 0x9e (n := 158) rfl
noncomputable def eb_656 := gb_0xb5 0x00 0xa4 (n := 164) rfl
noncomputable def eb_657 := gb_0xb5 0x00 0xa7 (n := 167) rfl
noncomputable def eb_658 := gb_0xb5 0x00 0xaa (n := 170) rfl
noncomputable def eb_659 := gb_0xb4 0x00 0xad (n := 173) rfl
noncomputable def eb_660 := gb_0xb5 0x00 0xb0 (n := 176) rfl
noncomputable def eb_661 := gb_0xb6 0x00 0xb3 (n := 179) rfl
noncomputable def eb_662 := gb_0xb5 0x00 0xb7 (n := 183) rfl
noncomputable def eb_663 := gb_0xb6 0x00 0xba (n := 186) rfl
noncomputable def eb_664 := gb_0xb4 0x00 0xa4 (n := 164) rfl
noncomputable def eb_665 := gb_0xb6 0x00 0xbd (n := 189) rfl
noncomputable def eb_666 := gb_0xb8 0x00 0xc0 (n := 192) rfl
noncomputable def eb_667 := gb_0xb8 0x00 0xc3 (n := 195) rfl
noncomputable def eb_668 := gb_0xb8 0x00 0xc6 (n := 198) rfl
noncomputable def eb_669 := gb_0xb6 0x00 0xc9 (n := 201) rfl
noncomputable def eb_670 := gb_0xa7 0xff 0xc3 (sgn (n := nat_lit 61) rfl rfl)
theorem eb_671 : opK [0x3a, 0x04] = true ∧ decode ⟨⟨[0x3a, 0x04]⟩⟩ 0 = .ok (.astore 4, 2) := by decide +kernel
noncomputable def eb_672 := gb_0xc6 0x00 0x18 (sgp (n := nat_lit 24) rfl rfl)
noncomputable def eb_673 := gb_0x11 0x75 0x30 (sgp (n := nat_lit 30000) rfl rfl)
noncomputable def eb_674 := gb_0xb4 0x00 0xcc (n := 204) rfl
noncomputable def eb_675 := gb_0x9f 0x00 0x15 (sgp (n := nat_lit 21) rfl rfl)
noncomputable def eb_676 := gb_0xb6 0x00 0xcf (n := 207) rfl
noncomputable def eb_677 := gb_0xb5 0x00 0xd2 (n := 210) rfl
noncomputable def eb_678 := gb_0xb5 0x00 0xd5 (n := 213) rfl
noncomputable def eb_679 := gb_0xb4 0x00 0xd8 (n := 216) rfl
noncomputable def eb_680 := gb_0xb5 0x00 0xdb (n := 219) rfl
noncomputable def eb_681 := gb_0xb6 0x00 0xde (n := 222) rfl
noncomputable def eb_682 := gb_0xc6 0x00 0x14 (sgp (n := nat_lit 20) rfl rfl)
noncomputable def eb_683 := gb_0xb5 0x00 0xd8 (n := 216) rfl
noncomputable def eb_684 := gb_0xb6 0x00 0xe1 (n := 225) rfl
noncomputable def eb_685 := gb_0x11 0x05 0xdc (sgp (n := nat_lit 1500) rfl rfl)
noncomputable def eb_686 := gb_0x11 0x4e 0x20 (sgp (n := nat_lit 20000) rfl rfl)
noncomputable def eb_687 := gb_0xb6 0x00 0xe4 (n := 228) rfl
noncomputable def eb_688 := gb_0xa2 0x00 0x4f (sgp (n := nat_lit 79) rfl rfl)
noncomputable def eb_689 := gb_0xb4 0x00 0x58 (n := 88) rfl
noncomputable def eb_690 := gb_0xb4 0x00 0xe8 (n := 232) rfl
noncomputable def eb_691 := gb_0xb5 0x00 0x5c (n := 92) rfl
noncomputable def eb_692 := gb_0xa2 0x00 0x28 (sgp (n := nat_lit 40) rfl rfl)
noncomputable def eb_693 := gb_0xc6 0x00 0x15 (sgp (n := nat_lit 21) rfl rfl)
noncomputable def eb_694 := gb_0xb4 0x00 0xdb (n := 219) rfl
noncomputable def eb_695 := gb_0xb6 0x00 0xec (n := 236) rfl
noncomputable def eb_696 := gb_0xa4 0x00 0x21 (sgp (n := nat_lit 33) rfl rfl)
noncomputable def eb_697 := gb_0xb8 0x00 0xef (n := 239) rfl
noncomputable def eb_698 := gb_0xb8 0x00 0xf4 (n := 244) rfl
noncomputable def eb_699 := gb_0xb8 0x00 0xf7 (n := 247) rfl
noncomputable def eb_700 := gb_0x99 0x00 0x13 (sgp (n := nat_lit 19) rfl rfl)
noncomputable def eb_701 := gb_0xb6 0x00 0xfd (n := 253) rfl
noncomputable def eb_702 := gb_0x99 0x00 0x32 (sgp (n := nat_lit 50) rfl rfl)
noncomputable def eb_703 := gb_0xb4 0x00 0xa7 (n := 167) rfl
noncomputable def eb_704 := gb_0xa7 0x00 0x20 (sgp (n := nat_lit 32) rfl rfl)
noncomputable def eb_705 := gb_0xa0 0x00 0x0b (sgp (n := nat_lit 11) rfl rfl)
noncomputable def eb_706 := gb_0xb6 0x01 0x01 (n := 257) rfl
noncomputable def eb_707 := gb_0xb6 0x01 0x04 (n := 260) rfl
noncomputable def eb_708 := gb_0xb6 0x01 0x08 (n := 264) rfl
noncomputable def eb_709 := gb_0x99 0x00 0x04 (sgp (n := nat_lit 4) rfl rfl)
noncomputable def eb_710 := gb_0xa7 0xff 0xe5 (sgn (n := nat_lit 27) rfl rfl)
noncomputable def eb_711 := gb_0xb6 0x01 0x0c (n := 268) rfl
noncomputable def eb_712 := gb_0xb6 0x01 0x0f (n := 271) rfl
noncomputable def eb_713 := gb_0xb6 0x01 0x12 (n := 274) rfl
noncomputable def eb_714 := gb_0xb4 0x01 0x15 (n := 277) rfl
noncomputable def eb_715 := gb_0xb6 0x01 0x18 (n := 280) rfl
noncomputable def eb_716 := gb_0x9a 0x00 0x0c (sgp (n := nat_lit 12) rfl rfl)
noncomputable def eb_717 := gb_0xb4 0x00 0xaa (n := 170) rfl
noncomputable def eb_718 := gb_0xa4 0x00 0x0c (sgp (n := nat_lit 12) rfl rfl)
noncomputable def eb_719 := gb_0xa4 0x00 0x0a (sgp (n := nat_lit 10) rfl rfl)
theorem eb_720 : opK [0x9d, 0x00, 0x05] = true ∧ decode ⟨⟨[0x9d, 0x00, 0x05]⟩⟩ 0 = .ok (.ifCond .gt 5, 3) := by decide +kernel
noncomputable def eb_721 := gb_0xb4 0x00 0xb0 (n := 176) rfl
noncomputable def eb_722 := gb_0xb4 0x00 0xb7 (n := 183) rfl
noncomputable def eb_723 := gb_0xb6 0x01 0x1c (n := 284) rfl
noncomputable def eb_724 := gb_0xb4 0x01 0x1f (n := 287) rfl
noncomputable def eb_725 := gb_0xb5 0x01 0x1f (n := 287) rfl
noncomputable def eb_726 := gb_0xb4 0x01 0x22 (n := 290) rfl
noncomputable def eb_727 := gb_0xb5 0x01 0x22 (n := 290) rfl
noncomputable def eb_728 := gb_0xb6 0x01 0x25 (n := 293) rfl
noncomputable def eb_729 := gb_0xa7 0xff 0xf0 (sgn (n := nat_lit 16) rfl rfl)
noncomputable def eb_730 := gb_0x9a 0x00 0x11 (sgp (n := nat_lit 17) rfl rfl)
noncomputable def eb_731 := gb_0xb6 0x01 0x28 (n := 296) rfl
noncomputable def eb_732 := gb_0xb4 0x00 0xd2 (n := 210) rfl
noncomputable def eb_733 := gb_0xb4 0x00 0xd5 (n := 213) rfl
noncomputable def eb_734 := gb_0xa4 0x00 0x0e (sgp (n := nat_lit 14) rfl rfl)
noncomputable def eb_735 := gb_0xb5 0x01 0x15 (n := 277) rfl
noncomputable def eb_736 := gb_0x14 0x01 0x2c (n := 300) rfl
noncomputable def eb_737 := gb_0x14 0x01 0x2e (n := 302) rfl
noncomputable def eb_738 := gb_0x14 0x01 0x30 (n := 304) rfl
theorem eb_739 : opK [0x83] = true ∧ decode ⟨⟨[0x83]⟩⟩ 0 = .ok (.lxor, 1) := by decide +kernel
theorem eb_740 : opK [0x7f] = true ∧ decode ⟨⟨[0x7f]⟩⟩ 0 = .ok (.land, 1) := by decide +kernel
noncomputable def eb_741 := gb_0xb5 0x00 0xe8 (n := 232) rfl
theorem eb_742 : opK [0x42] = true ∧ decode ⟨⟨[0x42]⟩⟩ 0 = .ok (.lstore_n 3, 1) := by decide +kernel
theorem eb_743 : opK [0x10, 0x1f] = true ∧ decode ⟨⟨[0x10, 0x1f]⟩⟩ 0 = .ok (.bipush 31, 2) := by decide +kernel
theorem eb_744 : opK [0xc7, 0x00, 0x0e] = true ∧ decode ⟨⟨[0xc7, 0x00, 0x0e]⟩⟩ 0 = .ok (.ifnonnull 14, 3) := by decide +kernel
noncomputable def eb_745 := gb_0xbb 0x01 0x32 (n := 306) rfl
noncomputable def eb_746 := gb_0x13 0x01 0x34 (n := 308) rfl
noncomputable def eb_747 := gb_0xb7 0x01 0x36 (n := 310) rfl
theorem eb_748 : opK [0xbf] = true ∧ decode ⟨⟨[0xbf]⟩⟩ 0 = .ok (.athrow, 1) := by decide +kernel
noncomputable def eb_749 := gb_0xb4 0x01 0x39 (n := 313) rfl
noncomputable def eb_750 := gb_0x13 0x01 0x3c (n := 316) rfl
noncomputable def eb_751 := gb_0xb6 0x01 0x3e (n := 318) rfl
noncomputable def eb_752 := gb_0x99 0x00 0x0b (sgp (n := nat_lit 11) rfl rfl)
noncomputable def eb_753 := gb_0xb6 0x01 0x41 (n := 321) rfl
noncomputable def eb_754 := gb_0xb6 0x01 0x44 (n := 324) rfl
theorem eb_755 : opK [0x10, 0x11] = true ∧ decode ⟨⟨[0x10, 0x11]⟩⟩ 0 = .ok (.bipush 17, 2) := by decide +kernel
noncomputable def eb_756 := gb_0xa7 0x00 0x06 (sgp (n := nat_lit 6) rfl rfl)
noncomputable def eb_757 := gb_0xb6 0x01 0x47 (n := 327) rfl
noncomputable def eb_758 := gb_0xb6 0x01 0x48 (n := 328) rfl
noncomputable def eb_759 := gb_0xb6 0x01 0x4b (n := 331) rfl
noncomputable def eb_760 := gb_0xb6 0x01 0x4e (n := 334) rfl
noncomputable def eb_761 := gb_0xb6 0x01 0x51 (n := 337) rfl
noncomputable def eb_762 := gb_0xb6 0x01 0x54 (n := 340) rfl
noncomputable def eb_763 := gb_0xb6 0x01 0x58 (n := 344) rfl
noncomputable def eb_764 := gb_0xb6 0x01 0x5b (n := 347) rfl
noncomputable def eb_765 := gb_0xb4 0x01 0x5e (n := 350) rfl
noncomputable def eb_766 := gb_0xb6 0x01 0x61 (n := 353) rfl
noncomputable def eb_767 := gb_0xb6 0x01 0x64 (n := 356) rfl
noncomputable def eb_768 := gb_0xb6 0x01 0x67 (n := 359) rfl
noncomputable def eb_769 := gb_0xb4 0x00 0x54 (n := 84) rfl
noncomputable def eb_770 := gb_0xb6 0x01 0x69 (n := 361) rfl
noncomputable def eb_771 := gb_0xb6 0x01 0x6d (n := 365) rfl
noncomputable def eb_772 := gb_0xb6 0x01 0x71 (n := 369) rfl
noncomputable def eb_773 := gb_0xb4 0x01 0x74 (n := 372) rfl
noncomputable def eb_774 := gb_0x13 0x01 0x78 (n := 376) rfl
noncomputable def eb_775 := gb_0xb6 0x01 0x7a (n := 378) rfl
noncomputable def eb_776 := gb_0xb6 0x01 0x7f (n := 383) rfl
noncomputable def eb_777 := gb_0xb6 0x01 0x83 (n := 387) rfl
noncomputable def eb_778 := gb_0xb6 0x01 0x84 (n := 388) rfl
noncomputable def eb_779 := gb_0xb6 0x01 0x87 (n := 391) rfl
noncomputable def eb_780 := gb_0xc6 0x00 0x13 (sgp (n := nat_lit 19) rfl rfl)
noncomputable def eb_781 := gb_0xb6 0x01 0x88 (n := 392) rfl
noncomputable def eb_782 := gb_0xb6 0x01 0x89 (n := 393) rfl
noncomputable def eb_783 := gb_0xb6 0x01 0x8b (n := 395) rfl
noncomputable def eb_784 := gb_0xb6 0x01 0x8e (n := 398) rfl
noncomputable def eb_785 := gb_0xb6 0x01 0x92 (n := 402) rfl
noncomputable def eb_786 := gb_0xb4 0x01 0x95 (n := 405) rfl
noncomputable def eb_787 := gb_0xb4 0x01 0x98 (n := 408) rfl
noncomputable def eb_788 := gb_0xb6 0x01 0x9b (n := 411) rfl
noncomputable def eb_789 := gb_0xb6 0x01 0x9c (n := 412) rfl
noncomputable def eb_790 := gb_0xb6 0x01 0xa0 (n := 416) rfl
noncomputable def eb_791 := gb_0xb6 0x01 0xa3 (n := 419) rfl
noncomputable def eb_792 := gb_0xb6 0x01 0xa7 (n := 423) rfl
noncomputable def eb_793 := gb_0xb6 0x01 0xaa (n := 426) rfl
noncomputable def eb_794 := gb_0xb6 0x01 0xad (n := 429) rfl
noncomputable def eb_795 := gb_0x99 0x00 0x1f (sgp (n := nat_lit 31) rfl rfl)
noncomputable def eb_796 := gb_0xb6 0x01 0xae (n := 430) rfl
noncomputable def eb_797 := gb_0xb6 0x01 0xb2 (n := 434) rfl
noncomputable def eb_798 := gb_0x13 0x01 0xb5 (n := 437) rfl
noncomputable def eb_799 := gb_0xb6 0x01 0xb6 (n := 438) rfl
noncomputable def eb_800 := gb_0xb6 0x01 0xba (n := 442) rfl
noncomputable def eb_801 := gb_0xb6 0x01 0xbd (n := 445) rfl
noncomputable def eb_802 := gb_0xb6 0x01 0xc0 (n := 448) rfl
noncomputable def eb_803 := gb_0xb6 0x01 0xc3 (n := 451) rfl
noncomputable def eb_804 := gb_0xb6 0x01 0xc6 (n := 454) rfl
noncomputable def eb_805 := gb_0xb6 0x01 0xc9 (n := 457) rfl
noncomputable def eb_806 := gb_0xb4 0x00 0x4d (n := 77) rfl
noncomputable def eb_807 := gb_0xb6 0x01 0xcc (n := 460) rfl
noncomputable def eb_808 := gb_0xb6 0x01 0xcf (n := 463) rfl
noncomputable def eb_809 := gb_0xb6 0x01 0xd2 (n := 466) rfl
noncomputable def eb_810 := gb_0x9e 0x00 0x1c (sgp (n := nat_lit 28) rfl rfl)
noncomputable def eb_811 := gb_0xb4 0x01 0xd6 (n := 470) rfl
noncomputable def eb_812 := gb_0xb8 0x01 0xd8 (n := 472) rfl
noncomputable def eb_813 := gb_0xb6 0x01 0xdd (n := 477) rfl
noncomputable def eb_814 := gb_0xb6 0x01 0xe0 (n := 480) rfl
noncomputable def eb_815 := gb_0xb6 0x01 0xe4 (n := 484) rfl
noncomputable def eb_816 := gb_0xb6 0x01 0xe8 (n := 488) rfl
noncomputable def eb_817 := gb_0xb6 0x01 0xeb (n := 491) rfl
noncomputable def eb_818 := gb_0xb6 0x01 0xef (n := 495) rfl
noncomputable def eb_819 := gb_0xb6 0x01 0xf2 (n := 498) rfl
noncomputable def eb_820 := gb_0xb6 0x01 0xf5 (n := 501) rfl
noncomputable def eb_821 := gb_0xa2 0x00 0x3f (sgp (n := nat_lit 63) rfl rfl)
noncomputable def eb_822 := gb_0xb4 0x01 0xf8 (n := 504) rfl
noncomputable def eb_823 := gb_0xb6 0x01 0xfb (n := 507) rfl
noncomputable def eb_824 := gb_0xb6 0x01 0xfe (n := 510) rfl
noncomputable def eb_825 := gb_0xb6 0x02 0x01 (n := 513) rfl
noncomputable def eb_826 := gb_0xb6 0x02 0x04 (n := 516) rfl
noncomputable def eb_827 := gb_0xa7 0xff 0xbf (sgn (n := nat_lit 65) rfl rfl)
noncomputable def eb_828 := gb_0xb6 0x02 0x07 (n := 519) rfl
noncomputable def eb_829 := gb_0xc6 0x00 0x12 (sgp (n := nat_lit 18) rfl rfl)
noncomputable def eb_830 := gb_0xb8 0x02 0x0a (n := 522) rfl
noncomputable def eb_831 := gb_0xb6 0x02 0x0d (n := 525) rfl
noncomputable def eb_832 := gb_0xb6 0x02 0x10 (n := 528) rfl
noncomputable def eb_833 := gb_0xc6 0x00 0x1a (sgp (n := nat_lit 26) rfl rfl)
noncomputable def eb_834 := gb_0xb6 0x02 0x14 (n := 532) rfl
theorem eb_835 : opK [0xc7, 0x00, 0x05] = true ∧ decode ⟨⟨[0xc7, 0x00, 0x05]⟩⟩ 0 = .ok (.ifnonnull 5, 3) := by decide +kernel
noncomputable def eb_836 := gb_0xb4 0x02 0x17 (n := 535) rfl
noncomputable def eb_837 := gb_0xb6 0x02 0x18 (n := 536) rfl
noncomputable def eb_838 := gb_0xb6 0x02 0x1b (n := 539) rfl
noncomputable def eb_839 := gb_0xb6 0x02 0x1e (n := 542) rfl
noncomputable def eb_840 := gb_0x11 0x27 0x10 (sgp (n := nat_lit 10000) rfl rfl)
noncomputable def eb_841 := gb_0xa2 0x00 0x21 (sgp (n := nat_lit 33) rfl rfl)
noncomputable def eb_842 := gb_0xb6 0x02 0x22 (n := 546) rfl
noncomputable def eb_843 := gb_0xb6 0x02 0x25 (n := 549) rfl
noncomputable def eb_844 := gb_0xb6 0x02 0x28 (n := 552) rfl
noncomputable def eb_845 := gb_0xb6 0x02 0x2b (n := 555) rfl
noncomputable def eb_846 := gb_0xb5 0x02 0x2e (n := 558) rfl
noncomputable def eb_847 := gb_0x13 0x02 0x31 (n := 561) rfl
noncomputable def eb_848 := gb_0xb6 0x02 0x32 (n := 562) rfl
noncomputable def eb_849 := gb_0xb4 0x02 0x35 (n := 565) rfl
noncomputable def eb_850 := gb_0xb4 0x02 0x38 (n := 568) rfl
noncomputable def eb_851 := gb_0xb4 0x02 0x3b (n := 571) rfl
noncomputable def eb_852 := gb_0xb4 0x02 0x3e (n := 574) rfl
noncomputable def eb_853 := gb_0xb6 0x02 0x41 (n := 577) rfl
noncomputable def eb_854 := gb_0xb4 0x02 0x44 (n := 580) rfl
noncomputable def eb_855 := gb_0xb4 0x02 0x47 (n := 583) rfl
noncomputable def eb_856 := gb_0xb4 0x02 0x4a (n := 586) rfl
noncomputable def eb_857 := gb_0xb4 0x02 0x4d (n := 589) rfl
noncomputable def eb_858 := gb_0xb4 0x02 0x50 (n := 592) rfl
noncomputable def eb_859 := gb_0xb4 0x02 0x53 (n := 595) rfl
noncomputable def eb_860 := gb_0xb4 0x02 0x56 (n := 598) rfl
noncomputable def eb_861 := gb_0xb4 0x02 0x59 (n := 601) rfl
noncomputable def eb_862 := gb_0xb5 0x00 0x0d (n := 13) rfl
noncomputable def eb_863 := gb_0xb5 0x00 0x10 (n := 16) rfl
noncomputable def eb_864 := gb_0xb5 0x00 0x3d (n := 61) rfl
noncomputable def eb_865 := gb_0xb5 0x00 0x40 (n := 64) rfl
theorem eb_866 : opK [0x12, 0x46] = true ∧ decode ⟨⟨[0x12, 0x46]⟩⟩ 0 = .ok (.ldc 70, 2) := by decide +kernel
theorem eb_867 : opK [0xbc, 0x08] = true ∧ decode ⟨⟨[0xbc, 0x08]⟩⟩ 0 = .ok (.newarray .byte, 2) := by decide +kernel
noncomputable def eb_868 := gb_0xb5 0x00 0x47 (n := 71) rfl
noncomputable def eb_869 := gb_0xb5 0x00 0x4b (n := 75) rfl
noncomputable def eb_870 := gb_0xb5 0x00 0x4e (n := 78) rfl
noncomputable def eb_871 := gb_0xb5 0x00 0x51 (n := 81) rfl
noncomputable def eb_872 := gb_0xb5 0x00 0x57 (n := 87) rfl
noncomputable def eb_873 := gb_0x11 0x02 0x30 (sgp (n := nat_lit 560) rfl rfl)
noncomputable def eb_874 := gb_0xb5 0x00 0x5a (n := 90) rfl
noncomputable def eb_875 := gb_0xb5 0x00 0x5d (n := 93) rfl
noncomputable def eb_876 := gb_0xb5 0x00 0x60 (n := 96) rfl
noncomputable def eb_877 := gb_0xb5 0x00 0x63 (n := 99) rfl
noncomputable def eb_878 := gb_0xb5 0x00 0x66 (n := 102) rfl
noncomputable def eb_879 := gb_0x11 0x57 0x80 (sgp (n := nat_lit 22400) rfl rfl)
noncomputable def eb_880 := gb_0xb5 0x00 0x69 (n := 105) rfl
noncomputable def eb_881 := gb_0xb5 0x00 0x6c (n := 108) rfl
noncomputable def eb_882 := gb_0xb5 0x00 0x6f (n := 111) rfl
noncomputable def eb_883 := gb_0xb5 0x00 0x72 (n := 114) rfl
noncomputable def eb_884 := gb_0xb5 0x00 0x75 (n := 117) rfl
noncomputable def eb_885 := gb_0x11 0x00 0x80 (sgp (n := nat_lit 128) rfl rfl)
noncomputable def eb_886 := gb_0xb5 0x00 0x78 (n := 120) rfl
noncomputable def eb_887 := gb_0xb5 0x00 0x7b (n := 123) rfl
noncomputable def eb_888 := gb_0xb5 0x00 0x7e (n := 126) rfl
noncomputable def eb_889 := gb_0xb5 0x00 0x81 (n := 129) rfl
noncomputable def eb_890 := gb_0xb5 0x00 0x84 (n := 132) rfl
noncomputable def eb_891 := gb_0xb5 0x00 0x87 (n := 135) rfl
noncomputable def eb_892 := gb_0xb5 0x00 0x8a (n := 138) rfl
noncomputable def eb_893 := gb_0xb5 0x00 0x8d (n := 141) rfl
noncomputable def eb_894 := gb_0xb5 0x00 0x90 (n := 144) rfl
noncomputable def eb_895 := gb_0xb5 0x00 0x93 (n := 147) rfl
noncomputable def eb_896 := gb_0xb5 0x00 0x96 (n := 150) rfl
noncomputable def eb_897 := gb_0xb5 0x00 0x99 (n := 153) rfl
noncomputable def eb_898 := gb_0xb5 0x00 0x9c (n := 156) rfl
noncomputable def eb_899 := gb_0xb5 0x00 0xa0 (n := 160) rfl
noncomputable def eb_900 := gb_0xb5 0x00 0xa3 (n := 163) rfl
noncomputable def eb_901 := gb_0xb5 0x00 0xa6 (n := 166) rfl
noncomputable def eb_902 := gb_0xb5 0x00 0xa9 (n := 169) rfl
noncomputable def eb_903 := gb_0xb5 0x00 0xac (n := 172) rfl
noncomputable def eb_904 := gb_0xb5 0x00 0xaf (n := 175) rfl
noncomputable def eb_905 := gb_0xb5 0x00 0xb2 (n := 178) rfl
noncomputable def eb_906 := gb_0xb5 0x00 0xb5 (n := 181) rfl
noncomputable def eb_907 := gb_0xb5 0x00 0xb8 (n := 184) rfl
noncomputable def eb_908 := gb_0xb5 0x00 0xbb (n := 187) rfl
noncomputable def eb_909 := gb_0xb5 0x00 0xbe (n := 190) rfl
noncomputable def eb_910 := gb_0xb5 0x00 0xc1 (n := 193) rfl
noncomputable def eb_911 := gb_0xb5 0x00 0xc4 (n := 196) rfl
noncomputable def eb_912 := gb_0xb5 0x00 0xc7 (n := 199) rfl
noncomputable def eb_913 := gb_0xb5 0x00 0xca (n := 202) rfl
noncomputable def eb_914 := gb_0xb5 0x00 0xcd (n := 205) rfl
noncomputable def eb_915 := gb_0xb5 0x00 0xd0 (n := 208) rfl
noncomputable def eb_916 := gb_0xb5 0x00 0xd3 (n := 211) rfl
noncomputable def eb_917 := gb_0xb5 0x00 0xd6 (n := 214) rfl
noncomputable def eb_918 := gb_0xb5 0x00 0xd9 (n := 217) rfl
noncomputable def eb_919 := gb_0xb5 0x00 0xdc (n := 220) rfl
noncomputable def eb_920 := gb_0xb5 0x00 0xdf (n := 223) rfl
noncomputable def eb_921 := gb_0xb5 0x00 0xe2 (n := 226) rfl
noncomputable def eb_922 := gb_0xb5 0x00 0xe5 (n := 229) rfl
noncomputable def eb_923 := gb_0xb5 0x00 0xeb (n := 235) rfl
noncomputable def eb_924 := gb_0xb5 0x00 0xee (n := 238) rfl
noncomputable def eb_925 := gb_0xb5 0x00 0xf1 (n := 241) rfl
noncomputable def eb_926 := gb_0xb5 0x00 0xf4 (n := 244) rfl
noncomputable def eb_927 := gb_0xb5 0x00 0xf7 (n := 247) rfl
noncomputable def eb_928 := gb_0xb5 0x00 0xfa (n := 250) rfl
noncomputable def eb_929 := gb_0xb5 0x00 0xfd (n := 253) rfl
noncomputable def eb_930 := gb_0xb5 0x01 0x01 (n := 257) rfl
noncomputable def eb_931 := gb_0xb5 0x01 0x04 (n := 260) rfl
noncomputable def eb_932 := gb_0xb5 0x01 0x07 (n := 263) rfl
noncomputable def eb_933 := gb_0xb5 0x01 0x0a (n := 266) rfl
noncomputable def eb_934 := gb_0xb5 0x01 0x0d (n := 269) rfl
noncomputable def eb_935 := gb_0xb5 0x01 0x10 (n := 272) rfl
noncomputable def eb_936 := gb_0xb5 0x01 0x13 (n := 275) rfl
noncomputable def eb_937 := gb_0xb5 0x01 0x16 (n := 278) rfl
noncomputable def eb_938 := gb_0xb5 0x01 0x19 (n := 281) rfl
noncomputable def eb_939 := gb_0xb5 0x01 0x1c (n := 284) rfl
noncomputable def eb_940 := gb_0xb5 0x01 0x25 (n := 293) rfl
noncomputable def eb_941 := gb_0x11 0x01 0x74 (sgp (n := nat_lit 372) rfl rfl)
noncomputable def eb_942 := gb_0xb5 0x01 0x28 (n := 296) rfl
noncomputable def eb_943 := gb_0xb5 0x01 0x2b (n := 299) rfl
noncomputable def eb_944 := gb_0xb5 0x01 0x2e (n := 302) rfl
noncomputable def eb_945 := gb_0xb5 0x01 0x31 (n := 305) rfl
noncomputable def eb_946 := gb_0xb5 0x01 0x34 (n := 308) rfl
noncomputable def eb_947 := gb_0xb5 0x01 0x37 (n := 311) rfl
noncomputable def eb_948 := gb_0xb5 0x01 0x3a (n := 314) rfl
noncomputable def eb_949 := gb_0xb5 0x01 0x3d (n := 317) rfl
noncomputable def eb_950 := gb_0xb4 0x00 0xd0 (n := 208) rfl
noncomputable def eb_951 := gb_0xb8 0x01 0x43 (n := 323) rfl
noncomputable def eb_952 := gb_0xb8 0x01 0x47 (n := 327) rfl
noncomputable def eb_953 := gb_0xb4 0x01 0x4b (n := 331) rfl
noncomputable def eb_954 := gb_0xb4 0x00 0x0d (n := 13) rfl
noncomputable def eb_955 := gb_0xb4 0x00 0x10 (n := 16) rfl
noncomputable def eb_956 := gb_0xb5 0x01 0x4b (n := 331) rfl
noncomputable def eb_957 := gb_0x13 0x01 0x4e (n := 334) rfl
noncomputable def eb_958 := gb_0x99 0x00 0x8e (sgp (n := nat_lit 142) rfl rfl)
noncomputable def eb_959 := gb_0xa2 0x00 0x7d (sgp (n := nat_lit 125) rfl rfl)
noncomputable def eb_960 := gb_0xa7 0xff 0x80 (sgn (n := nat_lit 128) rfl rfl)
noncomputable def eb_961 := gb_0xa7 0xff 0x74 (sgn (n := nat_lit 140) rfl rfl)
noncomputable def eb_962 := gb_0xa7 0x00 0x09 (sgp (n := nat_lit 9) rfl rfl)
noncomputable def eb_963 := gb_0xb6 0x01 0x4f (n := 335) rfl
noncomputable def eb_964 := gb_0xb4 0x01 0x53 (n := 339) rfl
noncomputable def eb_965 := gb_0x99 0x00 0x1d (sgp (n := nat_lit 29) rfl rfl)
noncomputable def eb_966 := gb_0xb4 0x01 0x56 (n := 342) rfl
noncomputable def eb_967 := gb_0xb5 0x01 0x53 (n := 339) rfl
noncomputable def eb_968 := gb_0xb6 0x01 0x59 (n := 345) rfl
noncomputable def eb_969 := gb_0xb4 0x01 0x5c (n := 348) rfl
noncomputable def eb_970 := gb_0xb4 0x00 0x4b (n := 75) rfl
noncomputable def eb_971 := gb_0xb4 0x00 0x4e (n := 78) rfl
noncomputable def eb_972 := gb_0xb4 0x00 0x51 (n := 81) rfl
noncomputable def eb_973 := gb_0xb5 0x01 0x5c (n := 348) rfl
noncomputable def eb_974 := gb_0xa3 0x00 0x2c (sgp (n := nat_lit 44) rfl rfl)
noncomputable def eb_975 := gb_0xa1 0x00 0x15 (sgp (n := nat_lit 21) rfl rfl)
noncomputable def eb_976 := gb_0xb6 0x01 0x5f (n := 351) rfl
noncomputable def eb_977 := gb_0xb6 0x01 0x62 (n := 354) rfl
noncomputable def eb_978 := gb_0xa7 0x00 0x26 (sgp (n := nat_lit 38) rfl rfl)
noncomputable def eb_979 := gb_0xa7 0x00 0x1b (sgp (n := nat_lit 27) rfl rfl)
noncomputable def eb_980 := gb_0xb8 0x01 0x66 (n := 358) rfl
noncomputable def eb_981 := gb_0xb4 0x01 0x6a (n := 362) rfl
noncomputable def eb_982 := gb_0xb4 0x00 0x57 (n := 87) rfl
noncomputable def eb_983 := gb_0xb5 0x01 0x6a (n := 362) rfl
noncomputable def eb_984 := gb_0xa7 0xff 0xce (sgn (n := nat_lit 50) rfl rfl)
noncomputable def eb_985 := gb_0x9b 0x00 0x0b (sgp (n := nat_lit 11) rfl rfl)
noncomputable def eb_986 := gb_0xb4 0x01 0x6d (n := 365) rfl
noncomputable def eb_987 := gb_0xb5 0x01 0x6d (n := 365) rfl
noncomputable def eb_988 := gb_0xb4 0x01 0x70 (n := 368) rfl
noncomputable def eb_989 := gb_0xb5 0x01 0x70 (n := 368) rfl
noncomputable def eb_990 := gb_0xb4 0x00 0x5a (n := 90) rfl
noncomputable def eb_991 := gb_0xb4 0x01 0x73 (n := 371) rfl
noncomputable def eb_992 := gb_0xb5 0x01 0x73 (n := 371) rfl
noncomputable def eb_993 := gb_0xb6 0x01 0x76 (n := 374) rfl
noncomputable def eb_994 := gb_0xb8 0x01 0x7a (n := 378) rfl
noncomputable def eb_995 := gb_0x9a 0x00 0x09 (sgp (n := nat_lit 9) rfl rfl)
noncomputable def eb_996 := gb_0xb6 0x01 0x7d (n := 381) rfl
noncomputable def eb_997 := gb_0xb6 0x01 0x80 (n := 384) rfl
theorem eb_998 : opK [0x10, 0x67] = true ∧ decode ⟨⟨[0x10, 0x67]⟩⟩ 0 = .ok (.bipush 103, 2) := by decide +kernel
noncomputable def eb_999 := gb_0xa0 0x00 0x20 (sgp (n := nat_lit 32) rfl rfl)
noncomputable def eb_1000 := gb_0xb6 0x01 0x86 (n := 390) rfl
noncomputable def eb_1001 := gb_0xb6 0x01 0x8a (n := 394) rfl
noncomputable def eb_1002 := gb_0xa7 0x00 0xe9 (sgp (n := nat_lit 233) rfl rfl)
theorem eb_1003 : opK [0x10, 0x77] = true ∧ decode ⟨⟨[0x10, 0x77]⟩⟩ 0 = .ok (.bipush 119, 2) := by decide +kernel
noncomputable def eb_1004 := gb_0xa7 0x00 0xc5 (sgp (n := nat_lit 197) rfl rfl)
theorem eb_1005 : opK [0x10, 0x70] = true ∧ decode ⟨⟨[0x10, 0x70]⟩⟩ 0 = .ok (.bipush 112, 2) := by decide +kernel
noncomputable def eb_1006 := gb_0xa0 0x00 0x34 (sgp (n := nat_lit 52) rfl rfl)
noncomputable def eb_1007 := gb_0xa0 0x00 0x9d (sgp (n := nat_lit 157) rfl rfl)
noncomputable def eb_1008 := gb_0xa7 0x00 0x8e (sgp (n := nat_lit 142) rfl rfl)
theorem eb_1009 : opK [0x10, 0x6c] = true ∧ decode ⟨⟨[0x10, 0x6c]⟩⟩ 0 = .ok (.bipush 108, 2) := by decide +kernel
noncomputable def eb_1010 := gb_0xa7 0x00 0x76 (sgp (n := nat_lit 118) rfl rfl)
noncomputable def eb_1011 := gb_0xa0 0x00 0x6c (sgp (n := nat_lit 108) rfl rfl)
noncomputable def eb_1012 := gb_0xb4 0x01 0x8d (n := 397) rfl
noncomputable def eb_1013 := gb_0xa2 0x00 0x64 (sgp (n := nat_lit 100) rfl rfl)
noncomputable def eb_1014 := gb_0xb5 0x01 0x8d (n := 397) rfl
noncomputable def eb_1015 := gb_0xb6 0x01 0x90 (n := 400) rfl
noncomputable def eb_1016 := gb_0xb5 0x01 0x93 (n := 403) rfl
noncomputable def eb_1017 := gb_0xb4 0x01 0x93 (n := 403) rfl
noncomputable def eb_1018 := gb_0xa2 0x00 0xfe (sgp (n := nat_lit 254) rfl rfl)
noncomputable def eb_1019 := gb_0x9f 0x00 0xf1 (sgp (n := nat_lit 241) rfl rfl)
noncomputable def eb_1020 := gb_0xa0 0x00 0x4f (sgp (n := nat_lit 79) rfl rfl)
noncomputable def eb_1021 := gb_0xb6 0x01 0x96 (n := 406) rfl
noncomputable def eb_1022 := gb_0xa7 0xff 0xea (sgn (n := nat_lit 22) rfl rfl)
noncomputable def eb_1023 := gb_0xa7 0xff 0x90 (sgn (n := nat_lit 112) rfl rfl)
noncomputable def eb_1024 := gb_0xb4 0x01 0x9a (n := 410) rfl
noncomputable def eb_1025 := gb_0xb4 0x01 0x9d (n := 413) rfl
noncomputable def eb_1026 := gb_0x99 0x00 0x41 (sgp (n := nat_lit 65) rfl rfl)
noncomputable def eb_1027 := gb_0xb4 0x00 0x60 (n := 96) rfl
noncomputable def eb_1028 := gb_0xb4 0x00 0x63 (n := 99) rfl
noncomputable def eb_1029 := gb_0xa7 0x00 0x0e (sgp (n := nat_lit 14) rfl rfl)
noncomputable def eb_1030 := gb_0xb4 0x00 0x66 (n := 102) rfl
noncomputable def eb_1031 := gb_0xa0 0x00 0x11 (sgp (n := nat_lit 17) rfl rfl)
noncomputable def eb_1032 := gb_0xb5 0x01 0x9a (n := 410) rfl
noncomputable def eb_1033 := gb_0xa7 0xfe 0xfd (sgn (n := nat_lit 259) rfl rfl)
noncomputable def eb_1034 := gb_0xb4 0x00 0x5d (n := 93) rfl
noncomputable def eb_1035 := gb_0xb5 0x01 0x9d (n := 413) rfl
noncomputable def eb_1036 := gb_0xb6 0x01 0xa4 (n := 420) rfl
noncomputable def eb_1037 := gb_0xa0 0x00 0x17 (sgp (n := nat_lit 23) rfl rfl)
noncomputable def eb_1038 := gb_0xb6 0x01 0xab (n := 427) rfl
noncomputable def eb_1039 := gb_0xa7 0x00 0x34 (sgp (n := nat_lit 52) rfl rfl)
noncomputable def eb_1040 := gb_0xb4 0x01 0xb1 (n := 433) rfl
noncomputable def eb_1041 := gb_0xb8 0x01 0xb4 (n := 436) rfl
noncomputable def eb_1042 := gb_0xb6 0x01 0xb8 (n := 440) rfl
noncomputable def eb_1043 := gb_0xb6 0x01 0xbb (n := 443) rfl
noncomputable def eb_1044 := gb_0xa0 0x00 0x2a (sgp (n := nat_lit 42) rfl rfl)
noncomputable def eb_1045 := gb_0xa7 0xff 0xd4 (sgn (n := nat_lit 44) rfl rfl)
noncomputable def eb_1046 := gb_0xb8 0x01 0xbe (n := 446) rfl
noncomputable def eb_1047 := gb_0x99 0x00 0x3d (sgp (n := nat_lit 61) rfl rfl)
noncomputable def eb_1048 := gb_0xb6 0x01 0xc1 (n := 449) rfl
noncomputable def eb_1049 := gb_0xb6 0x01 0xc4 (n := 452) rfl
noncomputable def eb_1050 := gb_0xb6 0x01 0xc8 (n := 456) rfl
noncomputable def eb_1051 := gb_0xb6 0x01 0xcb (n := 459) rfl
noncomputable def eb_1052 := gb_0xa0 0x00 0x6f (sgp (n := nat_lit 111) rfl rfl)
noncomputable def eb_1053 := gb_0xb6 0x01 0xce (n := 462) rfl
noncomputable def eb_1054 := gb_0x9f 0x00 0x04 (sgp (n := nat_lit 4) rfl rfl)
theorem eb_1055 : opK [0x10, 0x78] = true ∧ decode ⟨⟨[0x10, 0x78]⟩⟩ 0 = .ok (.bipush 120, 2) := by decide +kernel
noncomputable def eb_1056 := gb_0x9f 0x00 0x1a (sgp (n := nat_lit 26) rfl rfl)
theorem eb_1057 : opK [0x10, 0x6e] = true ∧ decode ⟨⟨[0x10, 0x6e]⟩⟩ 0 = .ok (.bipush 110, 2) := by decide +kernel
noncomputable def eb_1058 := gb_0x9f 0x00 0x14 (sgp (n := nat_lit 20) rfl rfl)
theorem eb_1059 : opK [0x10, 0x72] = true ∧ decode ⟨⟨[0x10, 0x72]⟩⟩ 0 = .ok (.bipush 114, 2) := by decide +kernel
theorem eb_1060 : opK [0x10, 0x74] = true ∧ decode ⟨⟨[0x10, 0x74]⟩⟩ 0 = .ok (.bipush 116, 2) := by decide +kernel
noncomputable def eb_1061 := gb_0xa7 0x00 0x18 (sgp (n := nat_lit 24) rfl rfl)
noncomputable def eb_1062 := gb_0x99 0x00 0x6c (sgp (n := nat_lit 108) rfl rfl)
noncomputable def eb_1063 := gb_0x9a 0x00 0x50 (sgp (n := nat_lit 80) rfl rfl)
noncomputable def eb_1064 := gb_0xa1 0x00 0x19 (sgp (n := nat_lit 25) rfl rfl)
noncomputable def eb_1065 := gb_0xb5 0x01 0xb1 (n := 433) rfl
noncomputable def eb_1066 := gb_0x9a 0x00 0x0a (sgp (n := nat_lit 10) rfl rfl)
noncomputable def eb_1067 := gb_0xa7 0x00 0x29 (sgp (n := nat_lit 41) rfl rfl)
noncomputable def eb_1068 := gb_0xb6 0x01 0xd1 (n := 465) rfl
noncomputable def eb_1069 := gb_0xb4 0x00 0x75 (n := 117) rfl
noncomputable def eb_1070 := gb_0xb4 0x00 0x69 (n := 105) rfl
noncomputable def eb_1071 := gb_0xb4 0x00 0x6c (n := 108) rfl
noncomputable def eb_1072 := gb_0xb4 0x00 0x6f (n := 111) rfl
noncomputable def eb_1073 := gb_0xb4 0x00 0x72 (n := 114) rfl
noncomputable def eb_1074 := gb_0xb6 0x01 0xd4 (n := 468) rfl
noncomputable def eb_1075 := gb_0xa3 0x00 0x2e (sgp (n := nat_lit 46) rfl rfl)
noncomputable def eb_1076 := gb_0xa3 0x00 0x23 (sgp (n := nat_lit 35) rfl rfl)
noncomputable def eb_1077 := gb_0xa7 0xff 0xb3 (sgn (n := nat_lit 77) rfl rfl)
noncomputable def eb_1078 := gb_0xb6 0x01 0xd7 (n := 471) rfl
noncomputable def eb_1079 := gb_0x14 0x01 0xda (n := 474) rfl
noncomputable def eb_1080 := gb_0x14 0x01 0xdc (n := 476) rfl
noncomputable def eb_1081 := gb_0xb8 0x01 0xde (n := 478) rfl
noncomputable def eb_1082 := gb_0xb8 0x01 0xe4 (n := 484) rfl
noncomputable def eb_1083 := gb_0xb8 0x01 0xe7 (n := 487) rfl
noncomputable def eb_1084 := gb_0xb4 0x01 0xeb (n := 491) rfl
noncomputable def eb_1085 := gb_0x9f 0x00 0xa2 (sgp (n := nat_lit 162) rfl rfl)
noncomputable def eb_1086 := gb_0x9f 0x00 0x95 (sgp (n := nat_lit 149) rfl rfl)
noncomputable def eb_1087 := gb_0xb5 0x01 0xeb (n := 491) rfl
noncomputable def eb_1088 := gb_0xb4 0x00 0x7b (n := 123) rfl
noncomputable def eb_1089 := gb_0xa7 0x00 0x11 (sgp (n := nat_lit 17) rfl rfl)
noncomputable def eb_1090 := gb_0xb4 0x00 0x78 (n := 120) rfl
noncomputable def eb_1091 := gb_0xa7 0x00 0x41 (sgp (n := nat_lit 65) rfl rfl)
theorem eb_1092 : opK [0x84, 0x01, 0xff] = true ∧ decode ⟨⟨[0x84, 0x01, 0xff]⟩⟩ 0 = .ok (.iinc 1 (-1), 3) := by decide +kernel
noncomputable def eb_1093 := gb_0xb8 0x01 0xee (n := 494) rfl
noncomputable def eb_1094 := gb_0xa7 0xff 0x57 (sgn (n := nat_lit 169) rfl rfl)
noncomputable def eb_1095 := gb_0xb6 0x01 0xf1 (n := 497) rfl
noncomputable def eb_1096 := gb_0xb4 0x00 0x8a (n := 138) rfl
noncomputable def eb_1097 := gb_0xb4 0x00 0x8d (n := 141) rfl
noncomputable def eb_1098 := gb_0xa2 0x00 0x39 (sgp (n := nat_lit 57) rfl rfl)
noncomputable def eb_1099 := gb_0xb4 0x00 0x87 (n := 135) rfl
noncomputable def eb_1100 := gb_0xa0 0x00 0x0e (sgp (n := nat_lit 14) rfl rfl)
noncomputable def eb_1101 := gb_0xb6 0x01 0xf4 (n := 500) rfl
noncomputable def eb_1102 := gb_0xa7 0xff 0xbe (sgn (n := nat_lit 66) rfl rfl)
noncomputable def eb_1103 := gb_0xa3 0x00 0x05 (sgp (n := nat_lit 5) rfl rfl)
noncomputable def eb_1104 := gb_0xb4 0x00 0x93 (n := 147) rfl
noncomputable def eb_1105 := gb_0xb4 0x00 0x99 (n := 153) rfl
noncomputable def eb_1106 := gb_0xb4 0x00 0x96 (n := 150) rfl
noncomputable def eb_1107 := gb_0xb4 0x01 0xfb (n := 507) rfl
noncomputable def eb_1108 := gb_0xb4 0x00 0x90 (n := 144) rfl
noncomputable def eb_1109 := gb_0xb4 0x00 0x81 (n := 129) rfl
noncomputable def eb_1110 := gb_0xb4 0x00 0x84 (n := 132) rfl
noncomputable def eb_1111 := gb_0xb5 0x01 0xf8 (n := 504) rfl
noncomputable def eb_1112 := gb_0xa0 0x00 0x12 (sgp (n := nat_lit 18) rfl rfl)
noncomputable def eb_1113 := gb_0xb4 0x02 0x04 (n := 516) rfl
noncomputable def eb_1114 := gb_0xb4 0x00 0xb2 (n := 178) rfl
noncomputable def eb_1115 := gb_0xb4 0x00 0xbb (n := 187) rfl
noncomputable def eb_1116 := gb_0xb4 0x00 0xc1 (n := 193) rfl
noncomputable def eb_1117 := gb_0xb6 0x02 0x0a (n := 522) rfl
noncomputable def eb_1118 := gb_0xb4 0x00 0x40 (n := 64) rfl
noncomputable def eb_1119 := gb_0xa0 0x00 0xcb (sgp (n := nat_lit 203) rfl rfl)
noncomputable def eb_1120 := gb_0xa0 0x00 0x60 (sgp (n := nat_lit 96) rfl rfl)
noncomputable def eb_1121 := gb_0x9e 0x00 0x0f (sgp (n := nat_lit 15) rfl rfl)
noncomputable def eb_1122 := gb_0xa7 0x00 0x17 (sgp (n := nat_lit 23) rfl rfl)
noncomputable def eb_1123 := gb_0xb6 0x02 0x13 (n := 531) rfl
noncomputable def eb_1124 := gb_0xa7 0x00 0x1e (sgp (n := nat_lit 30) rfl rfl)
noncomputable def eb_1125 := gb_0xa7 0xff 0x31 (sgn (n := nat_lit 207) rfl rfl)
noncomputable def eb_1126 := gb_0x9a 0x00 0x13 (sgp (n := nat_lit 19) rfl rfl)
noncomputable def eb_1127 := gb_0xa2 0x00 0x6b (sgp (n := nat_lit 107) rfl rfl)
noncomputable def eb_1128 := gb_0xa0 0x00 0x5b (sgp (n := nat_lit 91) rfl rfl)
noncomputable def eb_1129 := gb_0xb5 0x01 0xfb (n := 507) rfl
noncomputable def eb_1130 := gb_0xa7 0xff 0x8b (sgn (n := nat_lit 117) rfl rfl)
noncomputable def eb_1131 := gb_0xb6 0x02 0x16 (n := 534) rfl
noncomputable def eb_1132 := gb_0x99 0x00 0x3b (sgp (n := nat_lit 59) rfl rfl)
noncomputable def eb_1133 := gb_0x99 0x00 0x34 (sgp (n := nat_lit 52) rfl rfl)
noncomputable def eb_1134 := gb_0x99 0x00 0x26 (sgp (n := nat_lit 38) rfl rfl)
noncomputable def eb_1135 := gb_0x9f 0x00 0x17 (sgp (n := nat_lit 23) rfl rfl)
noncomputable def eb_1136 := gb_0xb6 0x02 0x19 (n := 537) rfl
noncomputable def eb_1137 := gb_0xb4 0x00 0x9c (n := 156) rfl
noncomputable def eb_1138 := gb_0xb6 0x02 0x1c (n := 540) rfl
noncomputable def eb_1139 := gb_0xa7 0x00 0x58 (sgp (n := nat_lit 88) rfl rfl)
noncomputable def eb_1140 := gb_0xa0 0x00 0x3e (sgp (n := nat_lit 62) rfl rfl)
noncomputable def eb_1141 := gb_0x9a 0x00 0x0b (sgp (n := nat_lit 11) rfl rfl)
noncomputable def eb_1142 := gb_0xa7 0x00 0x42 (sgp (n := nat_lit 66) rfl rfl)
noncomputable def eb_1143 := gb_0xa7 0x00 0x22 (sgp (n := nat_lit 34) rfl rfl)
noncomputable def eb_1144 := gb_0xa7 0x00 0x13 (sgp (n := nat_lit 19) rfl rfl)
noncomputable def eb_1145 := gb_0xb6 0x02 0x1f (n := 543) rfl
noncomputable def eb_1146 := gb_0xb6 0x02 0x23 (n := 547) rfl
noncomputable def eb_1147 := gb_0xa2 0x00 0x4e (sgp (n := nat_lit 78) rfl rfl)
noncomputable def eb_1148 := gb_0xb4 0x00 0x47 (n := 71) rfl
noncomputable def eb_1149 := gb_0x11 0x4e 0x21 (sgp (n := nat_lit 20001) rfl rfl)
theorem eb_1150 : opK [0x91] = true ∧ decode ⟨⟨[0x91]⟩⟩ 0 = .ok (.i2b, 1) := by decide +kernel
noncomputable def eb_1151 := gb_0xb5 0x01 0x56 (n := 342) rfl
noncomputable def eb_1152 := gb_0xa2 0x00 0x0e (sgp (n := nat_lit 14) rfl rfl)
noncomputable def eb_1153 := gb_0xb6 0x02 0x26 (n := 550) rfl
noncomputable def eb_1154 := gb_0xa2 0x00 0x35 (sgp (n := nat_lit 53) rfl rfl)
noncomputable def eb_1155 := gb_0xa7 0xff 0xc8 (sgn (n := nat_lit 56) rfl rfl)
noncomputable def eb_1156 := gb_0xb5 0x01 0x40 (n := 320) rfl
noncomputable def eb_1157 := gb_0xb4 0x01 0x40 (n := 320) rfl
noncomputable def eb_1158 := gb_0xb6 0x02 0x29 (n := 553) rfl
noncomputable def eb_1159 := gb_0xb6 0x02 0x2d (n := 557) rfl
noncomputable def eb_1160 := gb_0x99 0x00 0x2d (sgp (n := nat_lit 45) rfl rfl)
noncomputable def eb_1161 := gb_0xb8 0x02 0x30 (n := 560) rfl
noncomputable def eb_1162 := gb_0xa3 0x00 0x2d (sgp (n := nat_lit 45) rfl rfl)
noncomputable def eb_1163 := gb_0x9a 0x00 0x0e (sgp (n := nat_lit 14) rfl rfl)
noncomputable def eb_1164 := gb_0xa7 0xff 0xd2 (sgn (n := nat_lit 46) rfl rfl)
noncomputable def eb_1165 := gb_0x99 0x00 0x2e (sgp (n := nat_lit 46) rfl rfl)
noncomputable def eb_1166 := gb_0xb4 0x02 0x32 (n := 562) rfl
noncomputable def eb_1167 := gb_0xb4 0x00 0xa0 (n := 160) rfl
noncomputable def eb_1168 := gb_0xb4 0x00 0xa3 (n := 163) rfl
noncomputable def eb_1169 := gb_0xb4 0x00 0xa6 (n := 166) rfl
noncomputable def eb_1170 := gb_0xb4 0x00 0xa9 (n := 169) rfl
noncomputable def eb_1171 := gb_0xb4 0x00 0xac (n := 172) rfl
noncomputable def eb_1172 := gb_0xb5 0x02 0x32 (n := 562) rfl
noncomputable def eb_1173 := gb_0x13 0x02 0x35 (n := 565) rfl
noncomputable def eb_1174 := gb_0xb6 0x02 0x37 (n := 567) rfl
noncomputable def eb_1175 := gb_0xa2 0x01 0xb2 (sgp (n := nat_lit 434) rfl rfl)
noncomputable def eb_1176 := gb_0xa0 0x01 0x9d (sgp (n := nat_lit 413) rfl rfl)
noncomputable def eb_1177 := gb_0x99 0x01 0x87 (sgp (n := nat_lit 391) rfl rfl)
noncomputable def eb_1178 := gb_0xb4 0x00 0xaf (n := 175) rfl
noncomputable def eb_1179 := gb_0x9a 0x01 0x7e (sgp (n := nat_lit 382) rfl rfl)
noncomputable def eb_1180 := gb_0xa7 0x01 0x71 (sgp (n := nat_lit 369) rfl rfl)
noncomputable def eb_1181 := gb_0xb4 0x00 0xb5 (n := 181) rfl
noncomputable def eb_1182 := gb_0xb4 0x00 0xb8 (n := 184) rfl
noncomputable def eb_1183 := gb_0xb4 0x00 0xc4 (n := 196) rfl
noncomputable def eb_1184 := gb_0xb6 0x02 0x3d (n := 573) rfl
noncomputable def eb_1185 := gb_0xb4 0x00 0xbe (n := 190) rfl
noncomputable def eb_1186 := gb_0xa4 0x00 0x28 (sgp (n := nat_lit 40) rfl rfl)
noncomputable def eb_1187 := gb_0xb4 0x02 0x40 (n := 576) rfl
noncomputable def eb_1188 := gb_0xb6 0x02 0x43 (n := 579) rfl
noncomputable def eb_1189 := gb_0xb5 0x02 0x04 (n := 516) rfl
noncomputable def eb_1190 := gb_0xa7 0xfe 0x4c (sgn (n := nat_lit 436) rfl rfl)
noncomputable def eb_1191 := gb_0xb8 0x02 0x46 (n := 582) rfl
noncomputable def eb_1192 := gb_0xb6 0x02 0x49 (n := 585) rfl
noncomputable def eb_1193 := gb_0xa2 0x00 0x25 (sgp (n := nat_lit 37) rfl rfl)
noncomputable def eb_1194 := gb_0xb4 0x00 0xc7 (n := 199) rfl
noncomputable def eb_1195 := gb_0xb4 0x00 0xca (n := 202) rfl
noncomputable def eb_1196 := gb_0xb5 0x02 0x40 (n := 576) rfl
noncomputable def eb_1197 := gb_0xa2 0x00 0x0b (sgp (n := nat_lit 11) rfl rfl)
noncomputable def eb_1198 := gb_0xb4 0x00 0xcd (n := 205) rfl
noncomputable def eb_1199 := gb_0xb6 0x02 0x4c (n := 588) rfl
noncomputable def eb_1200 := gb_0xb4 0x00 0xe5 (n := 229) rfl
noncomputable def eb_1201 := gb_0xb4 0x02 0x4f (n := 591) rfl
noncomputable def eb_1202 := gb_0xb4 0x00 0xd3 (n := 211) rfl
noncomputable def eb_1203 := gb_0xb4 0x00 0xd6 (n := 214) rfl
noncomputable def eb_1204 := gb_0xb4 0x00 0xd9 (n := 217) rfl
noncomputable def eb_1205 := gb_0xb4 0x00 0xdf (n := 223) rfl
noncomputable def eb_1206 := gb_0xb4 0x00 0xdc (n := 220) rfl
noncomputable def eb_1207 := gb_0xb5 0x02 0x4f (n := 591) rfl
noncomputable def eb_1208 := gb_0xa2 0x00 0x95 (sgp (n := nat_lit 149) rfl rfl)
noncomputable def eb_1209 := gb_0xa0 0x00 0x28 (sgp (n := nat_lit 40) rfl rfl)
noncomputable def eb_1210 := gb_0x9f 0x00 0x43 (sgp (n := nat_lit 67) rfl rfl)
noncomputable def eb_1211 := gb_0xb4 0x00 0xe2 (n := 226) rfl
noncomputable def eb_1212 := gb_0xa7 0x00 0x2b (sgp (n := nat_lit 43) rfl rfl)
noncomputable def eb_1213 := gb_0xa7 0xff 0x6a (sgn (n := nat_lit 150) rfl rfl)
noncomputable def eb_1214 := gb_0x9e 0x00 0x0a (sgp (n := nat_lit 10) rfl rfl)
noncomputable def eb_1215 := gb_0xb6 0x02 0x52 (n := 594) rfl
noncomputable def eb_1216 := gb_0xb6 0x02 0x55 (n := 597) rfl
noncomputable def eb_1217 := gb_0xb6 0x02 0x58 (n := 600) rfl
noncomputable def eb_1218 := gb_0xb6 0x02 0x5b (n := 603) rfl
noncomputable def eb_1219 := gb_0xb4 0x00 0xf1 (n := 241) rfl
noncomputable def eb_1220 := gb_0xb4 0x00 0xee (n := 238) rfl
noncomputable def eb_1221 := gb_0xa3 0x00 0x20 (sgp (n := nat_lit 32) rfl rfl)
noncomputable def eb_1222 := gb_0xb4 0x00 0xeb (n := 235) rfl
noncomputable def eb_1223 := gb_0xa7 0xff 0xac (sgn (n := nat_lit 84) rfl rfl)
noncomputable def eb_1224 := gb_0xb6 0x02 0x5e (n := 606) rfl
noncomputable def eb_1225 := gb_0xb6 0x02 0x61 (n := 609) rfl
noncomputable def eb_1226 := gb_0xb8 0x02 0x64 (n := 612) rfl
noncomputable def eb_1227 := gb_0xb4 0x00 0xf4 (n := 244) rfl
noncomputable def eb_1228 := gb_0xa2 0x00 0x2f (sgp (n := nat_lit 47) rfl rfl)
noncomputable def eb_1229 := gb_0xa2 0x00 0x9a (sgp (n := nat_lit 154) rfl rfl)
noncomputable def eb_1230 := gb_0xa0 0x00 0x2f (sgp (n := nat_lit 47) rfl rfl)
theorem eb_1231 : opK [0x84, 0x0a, 0x01] = true ∧ decode ⟨⟨[0x84, 0x0a, 0x01]⟩⟩ 0 = .ok (.iinc 10 1, 3) := by decide +kernel
noncomputable def eb_1232 := gb_0xb8 0x02 0x69 (n := 617) rfl
noncomputable def eb_1233 := gb_0xa7 0x00 0x2a (sgp (n := nat_lit 42) rfl rfl)
noncomputable def eb_1234 := gb_0xa4 0x00 0x12 (sgp (n := nat_lit 18) rfl rfl)
noncomputable def eb_1235 := gb_0x13 0x02 0x6b (n := 619) rfl
noncomputable def eb_1236 := gb_0xb4 0x02 0x6c (n := 620) rfl
noncomputable def eb_1237 := gb_0xb4 0x02 0x6f (n := 623) rfl
noncomputable def eb_1238 := gb_0xb4 0x00 0xf7 (n := 247) rfl
noncomputable def eb_1239 := gb_0xb5 0x02 0x6c (n := 620) rfl
noncomputable def eb_1240 := gb_0xb4 0x00 0xfa (n := 250) rfl
noncomputable def eb_1241 := gb_0xb5 0x02 0x6f (n := 623) rfl
noncomputable def eb_1242 := gb_0xb4 0x01 0x01 (n := 257) rfl
noncomputable def eb_1243 := gb_0x9b 0x00 0xa2 (sgp (n := nat_lit 162) rfl rfl)
noncomputable def eb_1244 := gb_0xa2 0x00 0x91 (sgp (n := nat_lit 145) rfl rfl)
noncomputable def eb_1245 := gb_0x11 0xfc 0x18 (sgn (n := nat_lit 1000) rfl rfl)
noncomputable def eb_1246 := gb_0x9a 0x00 0x3f (sgp (n := nat_lit 63) rfl rfl)
noncomputable def eb_1247 := gb_0xb6 0x02 0x72 (n := 626) rfl
noncomputable def eb_1248 := gb_0xb4 0x00 0xfd (n := 253) rfl
noncomputable def eb_1249 := gb_0xa1 0x00 0x31 (sgp (n := nat_lit 49) rfl rfl)
noncomputable def eb_1250 := gb_0xa7 0xff 0x6d (sgn (n := nat_lit 147) rfl rfl)
theorem eb_1251 : opK [0x84, 0x03, 0xff] = true ∧ decode ⟨⟨[0x84, 0x03, 0xff]⟩⟩ 0 = .ok (.iinc 3 (-1), 3) := by decide +kernel
noncomputable def eb_1252 := gb_0xa7 0xff 0x60 (sgn (n := nat_lit 160) rfl rfl)
noncomputable def eb_1253 := gb_0xb6 0x02 0x75 (n := 629) rfl
noncomputable def eb_1254 := gb_0xb6 0x02 0x78 (n := 632) rfl
noncomputable def eb_1255 := gb_0xa3 0x00 0x81 (sgp (n := nat_lit 129) rfl rfl)
noncomputable def eb_1256 := gb_0x9b 0x00 0x5d (sgp (n := nat_lit 93) rfl rfl)
noncomputable def eb_1257 := gb_0x9a 0x00 0x16 (sgp (n := nat_lit 22) rfl rfl)
noncomputable def eb_1258 := gb_0x99 0x00 0x33 (sgp (n := nat_lit 51) rfl rfl)
noncomputable def eb_1259 := gb_0xa7 0xff 0xa4 (sgn (n := nat_lit 92) rfl rfl)
noncomputable def eb_1260 := gb_0xa7 0xff 0x7f (sgn (n := nat_lit 129) rfl rfl)
noncomputable def eb_1261 := gb_0xb6 0x02 0x7b (n := 635) rfl
noncomputable def eb_1262 := gb_0xa2 0x00 0x2d (sgp (n := nat_lit 45) rfl rfl)
noncomputable def eb_1263 := gb_0xb6 0x02 0x7e (n := 638) rfl
noncomputable def eb_1264 := gb_0xb4 0x02 0x81 (n := 641) rfl
noncomputable def eb_1265 := gb_0xb4 0x01 0x04 (n := 260) rfl
noncomputable def eb_1266 := gb_0xb4 0x01 0x07 (n := 263) rfl
noncomputable def eb_1267 := gb_0xb4 0x01 0x0a (n := 266) rfl
noncomputable def eb_1268 := gb_0xb5 0x02 0x81 (n := 641) rfl
noncomputable def eb_1269 := gb_0xa2 0x00 0x8d (sgp (n := nat_lit 141) rfl rfl)
noncomputable def eb_1270 := gb_0xa3 0x00 0x86 (sgp (n := nat_lit 134) rfl rfl)
noncomputable def eb_1271 := gb_0xa7 0x00 0x64 (sgp (n := nat_lit 100) rfl rfl)
noncomputable def eb_1272 := gb_0xa0 0x00 0x50 (sgp (n := nat_lit 80) rfl rfl)
noncomputable def eb_1273 := gb_0xa7 0x00 0x23 (sgp (n := nat_lit 35) rfl rfl)
noncomputable def eb_1274 := gb_0xa7 0xff 0x68 (sgn (n := nat_lit 152) rfl rfl)
noncomputable def eb_1275 := gb_0xb6 0x02 0x84 (n := 644) rfl
noncomputable def eb_1276 := gb_0xa2 0x00 0x49 (sgp (n := nat_lit 73) rfl rfl)
noncomputable def eb_1277 := gb_0xb4 0x02 0x87 (n := 647) rfl
noncomputable def eb_1278 := gb_0xb4 0x01 0x16 (n := 278) rfl
noncomputable def eb_1279 := gb_0xb4 0x01 0x10 (n := 272) rfl
noncomputable def eb_1280 := gb_0xb4 0x02 0x8a (n := 650) rfl
noncomputable def eb_1281 := gb_0xb4 0x02 0x8d (n := 653) rfl
noncomputable def eb_1282 := gb_0xa4 0x00 0x29 (sgp (n := nat_lit 41) rfl rfl)
noncomputable def eb_1283 := gb_0xb5 0x02 0x8a (n := 650) rfl
noncomputable def eb_1284 := gb_0xb5 0x02 0x8d (n := 653) rfl
noncomputable def eb_1285 := gb_0xb4 0x01 0x13 (n := 275) rfl
noncomputable def eb_1286 := gb_0xb6 0x02 0x90 (n := 656) rfl
noncomputable def eb_1287 := gb_0x9b 0x00 0x1a (sgp (n := nat_lit 26) rfl rfl)
noncomputable def eb_1288 := gb_0xb6 0x02 0x93 (n := 659) rfl
noncomputable def eb_1289 := gb_0xb5 0x02 0x87 (n := 647) rfl
noncomputable def eb_1290 := gb_0xa2 0x00 0x60 (sgp (n := nat_lit 96) rfl rfl)
noncomputable def eb_1291 := gb_0xa0 0x00 0x51 (sgp (n := nat_lit 81) rfl rfl)
noncomputable def eb_1292 := gb_0xb4 0x01 0x0d (n := 269) rfl
noncomputable def eb_1293 := gb_0xa7 0xff 0x9e (sgn (n := nat_lit 98) rfl rfl)
noncomputable def eb_1294 := gb_0xb6 0x02 0x96 (n := 662) rfl
noncomputable def eb_1295 := gb_0xa7 0xff 0xe4 (sgn (n := nat_lit 28) rfl rfl)
noncomputable def eb_1296 := gb_0xb4 0x02 0x99 (n := 665) rfl
noncomputable def eb_1297 := gb_0xb4 0x01 0x19 (n := 281) rfl
noncomputable def eb_1298 := gb_0xb4 0x01 0x1c (n := 284) rfl
noncomputable def eb_1299 := gb_0xb5 0x02 0x99 (n := 665) rfl
noncomputable def eb_1300 := gb_0x13 0x02 0x9c (n := 668) rfl
noncomputable def eb_1301 := gb_0xa2 0x00 0x33 (sgp (n := nat_lit 51) rfl rfl)
noncomputable def eb_1302 := gb_0xa0 0x00 0x29 (sgp (n := nat_lit 41) rfl rfl)
noncomputable def eb_1303 := gb_0x13 0x02 0x9d (n := 669) rfl
noncomputable def eb_1304 := gb_0xa2 0x00 0x29 (sgp (n := nat_lit 41) rfl rfl)
noncomputable def eb_1305 := gb_0xb4 0x01 0x25 (n := 293) rfl
noncomputable def eb_1306 := gb_0xb6 0x02 0x9e (n := 670) rfl
noncomputable def eb_1307 := gb_0x9b 0x00 0x98 (sgp (n := nat_lit 152) rfl rfl)
noncomputable def eb_1308 := gb_0xa2 0x00 0x89 (sgp (n := nat_lit 137) rfl rfl)
noncomputable def eb_1309 := gb_0xa2 0x00 0x5b (sgp (n := nat_lit 91) rfl rfl)
noncomputable def eb_1310 := gb_0xb8 0x02 0xa1 (n := 673) rfl
noncomputable def eb_1311 := gb_0x9e 0x00 0x4c (sgp (n := nat_lit 76) rfl rfl)
noncomputable def eb_1312 := gb_0xa2 0x00 0x3b (sgp (n := nat_lit 59) rfl rfl)
noncomputable def eb_1313 := gb_0xa7 0xff 0x76 (sgn (n := nat_lit 138) rfl rfl)
noncomputable def eb_1314 := gb_0xb6 0x02 0xa4 (n := 676) rfl
noncomputable def eb_1315 := gb_0xb6 0x02 0xa7 (n := 679) rfl
noncomputable def eb_1316 := gb_0xa3 0x00 0x89 (sgp (n := nat_lit 137) rfl rfl)
noncomputable def eb_1317 := gb_0x9b 0x00 0x63 (sgp (n := nat_lit 99) rfl rfl)
noncomputable def eb_1318 := gb_0x99 0x00 0x46 (sgp (n := nat_lit 70) rfl rfl)
noncomputable def eb_1319 := gb_0xa7 0x00 0x3b (sgp (n := nat_lit 59) rfl rfl)
noncomputable def eb_1320 := gb_0xa7 0xff 0x77 (sgn (n := nat_lit 137) rfl rfl)
noncomputable def eb_1321 := gb_0xa2 0x00 0x68 (sgp (n := nat_lit 104) rfl rfl)
noncomputable def eb_1322 := gb_0xa0 0x00 0x57 (sgp (n := nat_lit 87) rfl rfl)
noncomputable def eb_1323 := gb_0xa7 0x00 0x45 (sgp (n := nat_lit 69) rfl rfl)
noncomputable def eb_1324 := gb_0xa2 0x00 0x5e (sgp (n := nat_lit 94) rfl rfl)
noncomputable def eb_1325 := gb_0xa0 0x00 0x4d (sgp (n := nat_lit 77) rfl rfl)
noncomputable def eb_1326 := gb_0xa0 0x00 0x33 (sgp (n := nat_lit 51) rfl rfl)
noncomputable def eb_1327 := gb_0xa7 0xff 0x9f (sgn (n := nat_lit 97) rfl rfl)
theorem eb_1328 : opK [0x10, 0x63] = true ∧ decode ⟨⟨[0x10, 0x63]⟩⟩ 0 = .ok (.bipush 99, 2) := by decide +kernel
theorem eb_1329 : opK [0x10, 0x79] = true ∧ decode ⟨⟨[0x10, 0x79]⟩⟩ 0 = .ok (.bipush 121, 2) := by decide +kernel
theorem eb_1330 : opK [0x10, 0x6d] = true ∧ decode ⟨⟨[0x10, 0x6d]⟩⟩ 0 = .ok (.bipush 109, 2) := by decide +kernel
theorem eb_1331 : opK [0x10, 0x61] = true ∧ decode ⟨⟨[0x10, 0x61]⟩⟩ 0 = .ok (.bipush 97, 2) := by decide +kernel
noncomputable def eb_1332 := gb_0xb6 0x02 0xaa (n := 682) rfl
noncomputable def eb_1333 := gb_0xb4 0x01 0x28 (n := 296) rfl
noncomputable def eb_1334 := gb_0xb4 0x02 0xad (n := 685) rfl
noncomputable def eb_1335 := gb_0xa2 0x00 0x84 (sgp (n := nat_lit 132) rfl rfl)
noncomputable def eb_1336 := gb_0x9f 0x00 0x52 (sgp (n := nat_lit 82) rfl rfl)
noncomputable def eb_1337 := gb_0xb4 0x01 0x2b (n := 299) rfl
noncomputable def eb_1338 := gb_0xb4 0x01 0x2e (n := 302) rfl
noncomputable def eb_1339 := gb_0xb4 0x01 0x31 (n := 305) rfl
noncomputable def eb_1340 := gb_0xb4 0x01 0x34 (n := 308) rfl
noncomputable def eb_1341 := gb_0xb5 0x02 0xad (n := 685) rfl
noncomputable def eb_1342 := gb_0x13 0x02 0xb0 (n := 688) rfl
noncomputable def eb_1343 := gb_0xb4 0x01 0x37 (n := 311) rfl
noncomputable def eb_1344 := gb_0xb4 0x01 0x3a (n := 314) rfl
noncomputable def eb_1345 := gb_0xb4 0x01 0x3d (n := 317) rfl
noncomputable def eb_1346 := gb_0xa2 0x00 0x09 (sgp (n := nat_lit 9) rfl rfl)
noncomputable def eb_1347 := gb_0xa7 0xff 0xe2 (sgn (n := nat_lit 30) rfl rfl)
noncomputable def eb_1348 := gb_0xa2 0x00 0x13 (sgp (n := nat_lit 19) rfl rfl)
theorem eb_1349 : opK [0x7c] = true ∧ decode ⟨⟨[0x7c]⟩⟩ 0 = .ok (.iushr, 1) := by decide +kernel
noncomputable def eb_1352 := gb_0x13 0x01 0x09 (n := 265) rfl
theorem eb_1353 : opK [0x3b] = true ∧ decode ⟨⟨[0x3b]⟩⟩ 0 = .ok (.istore_n 0, 1) := by decide +kernel
noncomputable def eb_1354 := gb_0x13 0x01 0x0a (n := 266) rfl
noncomputable def eb_1355 := gb_0x13 0x01 0x0b (n := 267) rfl
noncomputable def eb_1359 := gb_0xb6 0x01 0xec (n := 492) rfl
noncomputable def eb_1360 := gb_0xb8 0x01 0xef (n := 495) rfl
noncomputable def eb_1362 := gb_0xb6 0x02 0x79 (n := 633) rfl
noncomputable def eb_1363 := gb_0xb6 0x01 0xf9 (n := 505) rfl
noncomputable def eb_1364 := gb_0xb8 0x02 0x7d (n := 637) rfl
theorem eb_1366 : opK [0xb2, 0x00, 0x26] = true ∧ decode ⟨⟨[0xb2, 0x00, 0x26]⟩⟩ 0 = .ok (.getstatic 38, 3) := by decide +kernel
theorem eb_1367 : opK [0xb2, 0x04, 0x1d] = true ∧ decode ⟨⟨[0xb2, 0x04, 0x1d]⟩⟩ 0 = .ok (.getstatic 1053, 3) := by decide +kernel
noncomputable def eb_1368 := gb_0xb8 0x04 0x23 (n := 1059) rfl
noncomputable def eb_1370 := gb_0xb8 0x00 0x09 (n := 9) rfl
noncomputable def eb_1371 := gb_0x9b 0x00 0x0e (sgp (n := nat_lit 14) rfl rfl)
noncomputable def eb_1372 := gb_0xb8 0x00 0x58 (n := 88) rfl
noncomputable def eb_1373 := gb_0xb8 0x00 0x5c (n := 92) rfl
noncomputable def eb_1374 := gb_0xb8 0x00 0x26 (n := 38) rfl
noncomputable def eb_1375 := gb_0xb8 0x00 0x5f (n := 95) rfl
noncomputable def eb_1396 := gb_0xa2 0x00 0x0d (sgp (n := nat_lit 13) rfl rfl)
noncomputable def eb_1397 := gb_0xa7 0xff 0xf4 (sgn (n := nat_lit 12) rfl rfl)
theorem eb_1399 : opK [0x4d] = true ∧ decode ⟨⟨[0x4d]⟩⟩ 0 = .ok (.astore_n 2, 1) := by decide +kernel
noncomputable def eb_1400 := gb_0xb8 0x01 0x30 (n := 304) rfl
noncomputable def eb_1401 := gb_0xb8 0x00 0x96 (n := 150) rfl
noncomputable def eb_1402 := gb_0x9b 0x00 0x08 (sgp (n := nat_lit 8) rfl rfl)
noncomputable def eb_1403 := gb_0xa1 0x00 0x0a (sgp (n := nat_lit 10) rfl rfl)
noncomputable def eb_1407 := gb_0xbb 0x00 0x08 (n := 8) rfl
noncomputable def eb_1408 := gb_0xb7 0x00 0x0f (n := 15) rfl
theorem eb_1409 : opK [0x4c] = true ∧ decode ⟨⟨[0x4c]⟩⟩ 0 = .ok (.astore_n 1, 1) := by decide +kernel
noncomputable def eb_1410 := gb_0xa3 0x09 0x4e (sgp (n := nat_lit 2382) rfl rfl)
noncomputable def eb_1411 := gb_0xb6 0x00 0x13 (n := 19) rfl
noncomputable def eb_1412 := gb_0xb6 0x00 0x17 (n := 23) rfl
noncomputable def eb_1413 := gb_0xa7 0x08 0x1c (sgp (n := nat_lit 2076) rfl rfl)
noncomputable def eb_1414 := gb_0xb6 0x00 0x18 (n := 24) rfl
noncomputable def eb_1415 := gb_0xb6 0x00 0x1b (n := 27) rfl
noncomputable def eb_1416 := gb_0xa7 0x07 0xf7 (sgp (n := nat_lit 2039) rfl rfl)
noncomputable def eb_1417 := gb_0xb6 0x00 0x1c (n := 28) rfl
noncomputable def eb_1418 := gb_0xb6 0x00 0x1f (n := 31) rfl
noncomputable def eb_1419 := gb_0xa7 0x07 0xc6 (sgp (n := nat_lit 1990) rfl rfl)
noncomputable def eb_1420 := gb_0xb6 0x00 0x20 (n := 32) rfl
noncomputable def eb_1421 := gb_0xb6 0x00 0x24 (n := 36) rfl
noncomputable def eb_1422 := gb_0xa7 0x07 0x7d (sgp (n := nat_lit 1917) rfl rfl)
noncomputable def eb_1423 := gb_0xb6 0x00 0x25 (n := 37) rfl
noncomputable def eb_1424 := gb_0xb6 0x00 0x29 (n := 41) rfl
noncomputable def eb_1425 := gb_0xa7 0x07 0x64 (sgp (n := nat_lit 1892) rfl rfl)
noncomputable def eb_1426 := gb_0xb6 0x00 0x2a (n := 42) rfl
noncomputable def eb_1427 := gb_0xa7 0x07 0x4b (sgp (n := nat_lit 1867) rfl rfl)
noncomputable def eb_1428 := gb_0xb6 0x00 0x2f (n := 47) rfl
noncomputable def eb_1429 := gb_0xa7 0x07 0x3e (sgp (n := nat_lit 1854) rfl rfl)
noncomputable def eb_1430 := gb_0xb6 0x00 0x34 (n := 52) rfl
noncomputable def eb_1431 := gb_0xb6 0x00 0x37 (n := 55) rfl
noncomputable def eb_1432 := gb_0xa7 0x07 0x19 (sgp (n := nat_lit 1817) rfl rfl)
noncomputable def eb_1433 := gb_0xb6 0x00 0x38 (n := 56) rfl
noncomputable def eb_1434 := gb_0xa7 0x06 0xf4 (sgp (n := nat_lit 1780) rfl rfl)
noncomputable def eb_1435 := gb_0xb6 0x00 0x41 (n := 65) rfl
noncomputable def eb_1436 := gb_0xa7 0x06 0xc3 (sgp (n := nat_lit 1731) rfl rfl)
noncomputable def eb_1437 := gb_0xa7 0x06 0x8e (sgp (n := nat_lit 1678) rfl rfl)
noncomputable def eb_1438 := gb_0xb6 0x00 0x47 (n := 71) rfl
noncomputable def eb_1439 := gb_0xb6 0x00 0x4a (n := 74) rfl
noncomputable def eb_1440 := gb_0xa7 0x06 0x75 (sgp (n := nat_lit 1653) rfl rfl)
noncomputable def eb_1441 := gb_0xb8 0x00 0x4b (n := 75) rfl
noncomputable def eb_1442 := gb_0xb6 0x00 0x50 (n := 80) rfl
noncomputable def eb_1443 := gb_0xa7 0x06 0x4d (sgp (n := nat_lit 1613) rfl rfl)
noncomputable def eb_1444 := gb_0xb6 0x00 0x51 (n := 81) rfl
noncomputable def eb_1445 := gb_0xa7 0x06 0x28 (sgp (n := nat_lit 1576) rfl rfl)
noncomputable def eb_1446 := gb_0xb6 0x00 0x58 (n := 88) rfl
noncomputable def eb_1447 := gb_0xa7 0x05 0xf7 (sgp (n := nat_lit 1527) rfl rfl)
noncomputable def eb_1448 := gb_0xa7 0x05 0xd2 (sgp (n := nat_lit 1490) rfl rfl)
noncomputable def eb_1449 := gb_0xa7 0x05 0xad (sgp (n := nat_lit 1453) rfl rfl)
noncomputable def eb_1450 := gb_0xb6 0x00 0x61 (n := 97) rfl
noncomputable def eb_1451 := gb_0xa7 0x05 0x64 (sgp (n := nat_lit 1380) rfl rfl)
noncomputable def eb_1452 := gb_0xb6 0x00 0x68 (n := 104) rfl
noncomputable def eb_1453 := gb_0xa7 0x05 0x4b (sgp (n := nat_lit 1355) rfl rfl)
noncomputable def eb_1454 := gb_0xb6 0x00 0x69 (n := 105) rfl
noncomputable def eb_1455 := gb_0xb6 0x00 0x6c (n := 108) rfl
noncomputable def eb_1456 := gb_0xa7 0x05 0x26 (sgp (n := nat_lit 1318) rfl rfl)
noncomputable def eb_1457 := gb_0xb6 0x00 0x6d (n := 109) rfl
noncomputable def eb_1458 := gb_0xa7 0x05 0x01 (sgp (n := nat_lit 1281) rfl rfl)
noncomputable def eb_1459 := gb_0xb6 0x00 0x71 (n := 113) rfl
noncomputable def eb_1460 := gb_0xb6 0x00 0x74 (n := 116) rfl
noncomputable def eb_1461 := gb_0xa7 0x04 0xdc (sgp (n := nat_lit 1244) rfl rfl)
noncomputable def eb_1462 := gb_0xb6 0x00 0x75 (n := 117) rfl
noncomputable def eb_1463 := gb_0xb6 0x00 0x78 (n := 120) rfl
noncomputable def eb_1464 := gb_0x9f 0x04 0xc5 (sgp (n := nat_lit 1221) rfl rfl)
noncomputable def eb_1465 := gb_0xb6 0x00 0x7c (n := 124) rfl
noncomputable def eb_1466 := gb_0xa7 0x04 0xaa (sgp (n := nat_lit 1194) rfl rfl)
noncomputable def eb_1467 := gb_0xb6 0x00 0x7d (n := 125) rfl
noncomputable def eb_1468 := gb_0xb6 0x00 0x80 (n := 128) rfl
noncomputable def eb_1469 := gb_0xa7 0x04 0x85 (sgp (n := nat_lit 1157) rfl rfl)
noncomputable def eb_1470 := gb_0xb6 0x00 0x84 (n := 132) rfl
noncomputable def eb_1471 := gb_0xa7 0x04 0x60 (sgp (n := nat_lit 1120) rfl rfl)
noncomputable def eb_1472 := gb_0xa7 0x04 0x13 (sgp (n := nat_lit 1043) rfl rfl)
noncomputable def eb_1473 := gb_0xb6 0x00 0x8a (n := 138) rfl
noncomputable def eb_1474 := gb_0xb6 0x00 0x8d (n := 141) rfl
noncomputable def eb_1475 := gb_0xa7 0x03 0xfa (sgp (n := nat_lit 1018) rfl rfl)
noncomputable def eb_1476 := gb_0xb6 0x00 0x8e (n := 142) rfl
noncomputable def eb_1477 := gb_0xb6 0x00 0x91 (n := 145) rfl
noncomputable def eb_1478 := gb_0xa7 0x03 0xc9 (sgp (n := nat_lit 969) rfl rfl)
noncomputable def eb_1479 := gb_0xb6 0x00 0x95 (n := 149) rfl
noncomputable def eb_1480 := gb_0xa7 0x03 0x98 (sgp (n := nat_lit 920) rfl rfl)
noncomputable def eb_1481 := gb_0xb6 0x00 0x96 (n := 150) rfl
noncomputable def eb_1482 := gb_0xb6 0x00 0x99 (n := 153) rfl
noncomputable def eb_1483 := gb_0xa7 0x03 0x67 (sgp (n := nat_lit 871) rfl rfl)
noncomputable def eb_1484 := gb_0xa7 0x03 0x4e (sgp (n := nat_lit 846) rfl rfl)
noncomputable def eb_1485 := gb_0xb6 0x00 0x9e (n := 158) rfl
noncomputable def eb_1486 := gb_0xb6 0x00 0xa2 (n := 162) rfl
noncomputable def eb_1487 := gb_0xa7 0x03 0x19 (sgp (n := nat_lit 793) rfl rfl)
noncomputable def eb_1488 := gb_0xb6 0x00 0xa3 (n := 163) rfl
noncomputable def eb_1489 := gb_0xb6 0x00 0xa6 (n := 166) rfl
noncomputable def eb_1490 := gb_0xa7 0x03 0x00 (sgp (n := nat_lit 768) rfl rfl)
noncomputable def eb_1491 := gb_0xb6 0x00 0xa7 (n := 167) rfl
noncomputable def eb_1492 := gb_0xb6 0x00 0xaa (n := 170) rfl
noncomputable def eb_1493 := gb_0xa7 0x02 0xf3 (sgp (n := nat_lit 755) rfl rfl)
noncomputable def eb_1494 := gb_0xb6 0x00 0xab (n := 171) rfl
noncomputable def eb_1495 := gb_0xb6 0x00 0xae (n := 174) rfl
noncomputable def eb_1496 := gb_0xa7 0x02 0xda (sgp (n := nat_lit 730) rfl rfl)
noncomputable def eb_1497 := gb_0xb6 0x00 0xaf (n := 175) rfl
noncomputable def eb_1498 := gb_0xb6 0x00 0xb2 (n := 178) rfl
noncomputable def eb_1499 := gb_0xa7 0x02 0xc1 (sgp (n := nat_lit 705) rfl rfl)
noncomputable def eb_1500 := gb_0xb6 0x00 0xb6 (n := 182) rfl
noncomputable def eb_1501 := gb_0xa7 0x02 0xa8 (sgp (n := nat_lit 680) rfl rfl)
noncomputable def eb_1502 := gb_0xb6 0x00 0xb7 (n := 183) rfl
noncomputable def eb_1503 := gb_0xa7 0x02 0x77 (sgp (n := nat_lit 631) rfl rfl)
noncomputable def eb_1504 := gb_0xb6 0x00 0xbb (n := 187) rfl
noncomputable def eb_1505 := gb_0xb6 0x00 0xbe (n := 190) rfl
noncomputable def eb_1506 := gb_0xa7 0x02 0x52 (sgp (n := nat_lit 594) rfl rfl)
noncomputable def eb_1507 := gb_0xb6 0x00 0xbf (n := 191) rfl
noncomputable def eb_1508 := gb_0xb6 0x00 0xc2 (n := 194) rfl
noncomputable def eb_1509 := gb_0xa7 0x02 0x39 (sgp (n := nat_lit 569) rfl rfl)
noncomputable def eb_1510 := gb_0xb6 0x00 0xc3 (n := 195) rfl
noncomputable def eb_1511 := gb_0xb6 0x00 0xc6 (n := 198) rfl
noncomputable def eb_1512 := gb_0xa7 0x02 0x14 (sgp (n := nat_lit 532) rfl rfl)
noncomputable def eb_1513 := gb_0xb6 0x00 0xc7 (n := 199) rfl
noncomputable def eb_1514 := gb_0xb6 0x00 0xca (n := 202) rfl
noncomputable def eb_1515 := gb_0xa7 0x01 0xe3 (sgp (n := nat_lit 483) rfl rfl)
noncomputable def eb_1516 := gb_0xb6 0x00 0xcb (n := 203) rfl
noncomputable def eb_1517 := gb_0xb6 0x00 0xce (n := 206) rfl
noncomputable def eb_1518 := gb_0xa7 0x01 0xca (sgp (n := nat_lit 458) rfl rfl)
noncomputable def eb_1519 := gb_0xb6 0x00 0xd2 (n := 210) rfl
noncomputable def eb_1520 := gb_0xa7 0x01 0xb1 (sgp (n := nat_lit 433) rfl rfl)
noncomputable def eb_1521 := gb_0xb6 0x00 0xd3 (n := 211) rfl
noncomputable def eb_1522 := gb_0xb6 0x00 0xd6 (n := 214) rfl
noncomputable def eb_1523 := gb_0xa7 0x01 0xa6 (sgp (n := nat_lit 422) rfl rfl)
noncomputable def eb_1524 := gb_0xb6 0x00 0xd7 (n := 215) rfl
noncomputable def eb_1525 := gb_0xb6 0x00 0xda (n := 218) rfl
noncomputable def eb_1526 := gb_0xa7 0x01 0x8d (sgp (n := nat_lit 397) rfl rfl)
noncomputable def eb_1527 := gb_0xb6 0x00 0xdb (n := 219) rfl
noncomputable def eb_1528 := gb_0xa7 0x01 0x5c (sgp (n := nat_lit 348) rfl rfl)
noncomputable def eb_1529 := gb_0xb6 0x00 0xdf (n := 223) rfl
noncomputable def eb_1530 := gb_0xb6 0x00 0xe2 (n := 226) rfl
noncomputable def eb_1531 := gb_0xa7 0x01 0x2b (sgp (n := nat_lit 299) rfl rfl)
noncomputable def eb_1532 := gb_0xb6 0x00 0xe3 (n := 227) rfl
noncomputable def eb_1533 := gb_0xb6 0x00 0xe6 (n := 230) rfl
noncomputable def eb_1534 := gb_0xa7 0x00 0xfa (sgp (n := nat_lit 250) rfl rfl)
noncomputable def eb_1535 := gb_0xb6 0x00 0xe7 (n := 231) rfl
noncomputable def eb_1536 := gb_0xb6 0x00 0xea (n := 234) rfl
noncomputable def eb_1537 := gb_0xa7 0x00 0xed (sgp (n := nat_lit 237) rfl rfl)
noncomputable def eb_1538 := gb_0xb6 0x00 0xeb (n := 235) rfl
noncomputable def eb_1539 := gb_0xb6 0x00 0xee (n := 238) rfl
noncomputable def eb_1540 := gb_0xa7 0x00 0xc8 (sgp (n := nat_lit 200) rfl rfl)
noncomputable def eb_1541 := gb_0xb6 0x00 0xef (n := 239) rfl
noncomputable def eb_1542 := gb_0xb6 0x00 0xf2 (n := 242) rfl
noncomputable def eb_1543 := gb_0xa7 0x00 0x97 (sgp (n := nat_lit 151) rfl rfl)
noncomputable def eb_1544 := gb_0xb6 0x00 0xf3 (n := 243) rfl
noncomputable def eb_1545 := gb_0xb6 0x00 0xf6 (n := 246) rfl
noncomputable def eb_1546 := gb_0xa7 0x00 0x7e (sgp (n := nat_lit 126) rfl rfl)
noncomputable def eb_1547 := gb_0xb6 0x00 0xf7 (n := 247) rfl
noncomputable def eb_1548 := gb_0xb6 0x00 0xfa (n := 250) rfl
noncomputable def eb_1549 := gb_0xa7 0x00 0x59 (sgp (n := nat_lit 89) rfl rfl)
noncomputable def eb_1550 := gb_0xb6 0x00 0xfb (n := 251) rfl
noncomputable def eb_1551 := gb_0xb6 0x00 0xff (n := 255) rfl
noncomputable def eb_1552 := gb_0xa7 0x00 0x1c (sgp (n := nat_lit 28) rfl rfl)
noncomputable def eb_1553 := gb_0xb6 0x01 0x00 (n := 256) rfl
noncomputable def eb_1554 := gb_0xb6 0x01 0x03 (n := 259) rfl
noncomputable def eb_1555 := gb_0xa7 0x00 0x03 (sgp (n := nat_lit 3) rfl rfl)
theorem eb_1556 : opK [0x84, 0x04, 0x06] = true ∧ decode ⟨⟨[0x84, 0x04, 0x06]⟩⟩ 0 = .ok (.iinc 4 6, 3) := by decide +kernel
noncomputable def eb_1557 := gb_0xa7 0xf6 0xae (sgn (n := nat_lit 2386) rfl rfl)
end
section
theorem db00a_0 : Pf_ prog_2_method_1_code [(0, [0x2a]), (1, [0xb7, 0x00, 0x03]), (4, [0x2a]), (5, [0x11, 0x07, 0x08]), (8, [0xbc, 0x0a]), (10, [0xb5, 0x00, 0x0b]), (13, [0x2a]), (14, [0x10, 0x0c]), (16, [0xbc, 0x0a]), (18, [0xb5, 0x00, 0x0f]), (21, [0x2a]), (22, [0x10, 0x0c]), (24, [0xbc, 0x0a]), (26, [0xb5, 0x00, 0x12]), (29, [0xb1])] := pf_ok prog_2_method_1_code _ 0 (by decide +kernel)
noncomputable def d_X0_init_0 := gq_0 db00a_0 eb_0
noncomputable def d_X0_init_1 := gq_1 db00a_0 eb_1
noncomputable def d_X0_init_4 := gq_2 db00a_0 eb_0
noncomputable def d_X0_init_5 := gq_3 db00a_0 eb_2
noncomputable def d_X0_init_8 := gq_4 db00a_0 eb_3
noncomputable def d_X0_init_10 := gq_5 db00a_0 eb_4
noncomputable def d_X0_init_13 := gq_6 db00a_0 eb_0
noncomputable def d_X0_init_14 := gq_7 db00a_0 eb_5
noncomputable def d_X0_init_16 := gq_8 db00a_0 eb_3
noncomputable def d_X0_init_18 := gq_9 db00a_0 eb_6
noncomputable def d_X0_init_21 := gq_10 db00a_0 eb_0
noncomputable def d_X0_init_22 := gq_11 db00a_0 eb_5
noncomputable def d_X0_init_24 := gq_12 db00a_0 eb_3
noncomputable def d_X0_init_26 := gq_13 db00a_0 eb_7
noncomputable def d_X0_init_29 := gq_14 db00a_0 eb_8
theorem db00a_1 : Pf_ prog_2_method_2_code [(0, [0x1a]), (1, [0x1b]), (2, [0x05]), (3, [0x78]), (4, [0x80]), (5, [0x1c]), (6, [0x10, 0x06]), (8, [0x78]), (9, [0x80]), (10, [0xac])] := pf_ok prog_2_method_2_code _ 0 (by decide +kernel)
noncomputable def d_X0_pack_0 := gq_0 db00a_1 eb_9
noncomputable def d_X0_pack_1 := gq_1 db00a_1 eb_10
noncomputable def d_X0_pack_2 := gq_2 db00a_1 eb_11
noncomputable def d_X0_pack_3 := gq_3 db00a_1 eb_12
noncomputable def d_X0_pack_4 := gq_4 db00a_1 eb_13
noncomputable def d_X0_pack_5 := gq_5 db00a_1 eb_14
noncomputable def d_X0_pack_6 := gq_6 db00a_1 eb_15
noncomputable def d_X0_pack_8 := gq_7 db00a_1 eb_12
noncomputable def d_X0_pack_9 := gq_8 db00a_1 eb_13
noncomputable def d_X0_pack_10 := gq_9 db00a_1 eb_16
theorem db00a_2 : Pf_ prog_2_method_3_code [(0, [0x1b]), (1, [0x9b, 0x00, 0x0f]), (4, [0x1b]), (5, [0x2a]), (6, [0xb4, 0x00, 0x15]), (9, [0xa2, 0x00, 0x07]), (12, [0x04]), (13, [0xa7, 0x00, 0x04]), (16, [0x03]), (17, [0xac])] := pf_ok prog_2_method_3_code _ 0 (by decide +kernel)
noncomputable def d_X0_has_0 := gq_0 db00a_2 eb_10
noncomputable def d_X0_has_1 := gq_1 db00a_2 eb_17
noncomputable def d_X0_has_4 := gq_2 db00a_2 eb_10
noncomputable def d_X0_has_5 := gq_3 db00a_2 eb_0
noncomputable def d_X0_has_6 := gq_4 db00a_2 eb_18
noncomputable def d_X0_has_9 := gq_5 db00a_2 eb_19
noncomputable def d_X0_has_12 := gq_6 db00a_2 eb_20
noncomputable def d_X0_has_13 := gq_7 db00a_2 eb_21
noncomputable def d_X0_has_16 := gq_8 db00a_2 eb_22
noncomputable def d_X0_has_17 := gq_9 db00a_2 eb_16
theorem db00a_3 : Pf_ prog_2_method_4_code [(0, [0x2a]), (1, [0xb4, 0x00, 0x15]), (4, [0x10, 0x0c]), (6, [0xa2, 0x00, 0x0a]), (9, [0x2b]), (10, [0xb4, 0x00, 0x19]), (13, [0x99, 0x00, 0x05]), (16, [0x02]), (17, [0xac]), (18, [0x03]), (19, [0x3d]), (20, [0x03]), (21, [0x3e]), (22, [0x1d]), (23, [0x2b]), (24, [0xb4, 0x00, 0x1f]), (27, [0xa2, 0x00, 0x2e]), (30, [0x2a]), (31, [0xb4, 0x00, 0x0b]), (34, [0x2a]), (35, [0xb4, 0x00, 0x15]), (38, [0x11, 0x00, 0x96]), (41, [0x68]), (42, [0x1d])] := pf_ok prog_2_method_4_code _ 0 (by decide +kernel)
noncomputable def d_X0_keep_0 := gq_0 db00a_3 eb_0
noncomputable def d_X0_keep_1 := gq_1 db00a_3 eb_18
noncomputable def d_X0_keep_4 := gq_2 db00a_3 eb_5
noncomputable def d_X0_keep_6 := gq_3 db00a_3 eb_23
noncomputable def d_X0_keep_9 := gq_4 db00a_3 eb_24
noncomputable def d_X0_keep_10 := gq_5 db00a_3 eb_25
noncomputable def d_X0_keep_13 := gq_6 db00a_3 eb_26
noncomputable def d_X0_keep_16 := gq_7 db00a_3 eb_27
noncomputable def d_X0_keep_17 := gq_8 db00a_3 eb_16
noncomputable def d_X0_keep_18 := gq_9 db00a_3 eb_22
noncomputable def d_X0_keep_19 := gq_10 db00a_3 eb_28
noncomputable def d_X0_keep_20 := gq_11 db00a_3 eb_22
noncomputable def d_X0_keep_21 := gq_12 db00a_3 eb_29
noncomputable def d_X0_keep_22 := gq_13 db00a_3 eb_30
noncomputable def d_X0_keep_23 := gq_14 db00a_3 eb_24
noncomputable def d_X0_keep_24 := gq_15 db00a_3 eb_31
noncomputable def d_X0_keep_27 := gq_16 db00a_3 eb_32
noncomputable def d_X0_keep_30 := gq_17 db00a_3 eb_0
noncomputable def d_X0_keep_31 := gq_18 db00a_3 eb_33
noncomputable def d_X0_keep_34 := gq_19 db00a_3 eb_0
noncomputable def d_X0_keep_35 := gq_20 db00a_3 eb_18
noncomputable def d_X0_keep_38 := gq_21 db00a_3 eb_34
noncomputable def d_X0_keep_41 := gq_22 db00a_3 eb_35
noncomputable def d_X0_keep_42 := gq_23 db00a_3 eb_30
theorem db00a_4 : Pf_ prog_2_method_4_code [(43, [0x60]), (44, [0x2b]), (45, [0xb4, 0x00, 0x22]), (48, [0x1d]), (49, [0x2e]), (50, [0x4f]), (51, [0x2b]), (52, [0xb4, 0x00, 0x22]), (55, [0x1d]), (56, [0x2e]), (57, [0xb8, 0x00, 0x23]), (60, [0x05]), (61, [0xa0, 0x00, 0x06]), (64, [0x84, 0x02, 0x01]), (67, [0x84, 0x03, 0x01]), (70, [0xa7, 0xff, 0xd0]), (73, [0x2a]), (74, [0xb4, 0x00, 0x0f]), (77, [0x2a]), (78, [0xb4, 0x00, 0x15]), (81, [0x2b]), (82, [0xb4, 0x00, 0x1f]), (85, [0x4f]), (86, [0x2a])] := pf_ok prog_2_method_4_code _ 43 (by decide +kernel)
noncomputable def d_X0_keep_43 := gq_0 db00a_4 eb_36
noncomputable def d_X0_keep_44 := gq_1 db00a_4 eb_24
noncomputable def d_X0_keep_45 := gq_2 db00a_4 eb_37
noncomputable def d_X0_keep_48 := gq_3 db00a_4 eb_30
noncomputable def d_X0_keep_49 := gq_4 db00a_4 eb_38
noncomputable def d_X0_keep_50 := gq_5 db00a_4 eb_39
noncomputable def d_X0_keep_51 := gq_6 db00a_4 eb_24
noncomputable def d_X0_keep_52 := gq_7 db00a_4 eb_37
noncomputable def d_X0_keep_55 := gq_8 db00a_4 eb_30
noncomputable def d_X0_keep_56 := gq_9 db00a_4 eb_38
noncomputable def d_X0_keep_57 := gq_10 db00a_4 eb_40
noncomputable def d_X0_keep_60 := gq_11 db00a_4 eb_11
noncomputable def d_X0_keep_61 := gq_12 db00a_4 eb_41
noncomputable def d_X0_keep_64 := gq_13 db00a_4 eb_42
noncomputable def d_X0_keep_67 := gq_14 db00a_4 eb_43
noncomputable def d_X0_keep_70 := gq_15 db00a_4 eb_44
noncomputable def d_X0_keep_73 := gq_16 db00a_4 eb_0
noncomputable def d_X0_keep_74 := gq_17 db00a_4 eb_45
noncomputable def d_X0_keep_77 := gq_18 db00a_4 eb_0
noncomputable def d_X0_keep_78 := gq_19 db00a_4 eb_18
noncomputable def d_X0_keep_81 := gq_20 db00a_4 eb_24
noncomputable def d_X0_keep_82 := gq_21 db00a_4 eb_31
noncomputable def d_X0_keep_85 := gq_22 db00a_4 eb_39
noncomputable def d_X0_keep_86 := gq_23 db00a_4 eb_0
theorem db00a_5 : Pf_ prog_2_method_4_code [(87, [0xb4, 0x00, 0x12]), (90, [0x2a]), (91, [0xb4, 0x00, 0x15]), (94, [0x1c]), (95, [0x4f]), (96, [0x2a]), (97, [0x59]), (98, [0xb4, 0x00, 0x15]), (101, [0x04]), (102, [0x60]), (103, [0xb5, 0x00, 0x15]), (106, [0x2a]), (107, [0xb4, 0x00, 0x15]), (110, [0x04]), (111, [0x64]), (112, [0xac])] := pf_ok prog_2_method_4_code _ 87 (by decide +kernel)
noncomputable def d_X0_keep_87 := gq_0 db00a_5 eb_46
noncomputable def d_X0_keep_90 := gq_1 db00a_5 eb_0
noncomputable def d_X0_keep_91 := gq_2 db00a_5 eb_18
noncomputable def d_X0_keep_94 := gq_3 db00a_5 eb_14
noncomputable def d_X0_keep_95 := gq_4 db00a_5 eb_39
noncomputable def d_X0_keep_96 := gq_5 db00a_5 eb_0
noncomputable def d_X0_keep_97 := gq_6 db00a_5 eb_47
noncomputable def d_X0_keep_98 := gq_7 db00a_5 eb_18
noncomputable def d_X0_keep_101 := gq_8 db00a_5 eb_20
noncomputable def d_X0_keep_102 := gq_9 db00a_5 eb_36
noncomputable def d_X0_keep_103 := gq_10 db00a_5 eb_48
noncomputable def d_X0_keep_106 := gq_11 db00a_5 eb_0
noncomputable def d_X0_keep_107 := gq_12 db00a_5 eb_18
noncomputable def d_X0_keep_110 := gq_13 db00a_5 eb_20
noncomputable def d_X0_keep_111 := gq_14 db00a_5 eb_49
noncomputable def d_X0_keep_112 := gq_15 db00a_5 eb_16
theorem db00a_6 : Pf_ prog_2_method_5_code [(0, [0x2a]), (1, [0x1b]), (2, [0xb6, 0x00, 0x27]), (5, [0x99, 0x00, 0x0c]), (8, [0x2a]), (9, [0xb4, 0x00, 0x0f]), (12, [0x1b]), (13, [0x2e]), (14, [0xa7, 0x00, 0x04]), (17, [0x03]), (18, [0xac])] := pf_ok prog_2_method_5_code _ 0 (by decide +kernel)
noncomputable def d_X0_stepsOf_0 := gq_0 db00a_6 eb_0
noncomputable def d_X0_stepsOf_1 := gq_1 db00a_6 eb_10
noncomputable def d_X0_stepsOf_2 := gq_2 db00a_6 eb_50
noncomputable def d_X0_stepsOf_5 := gq_3 db00a_6 eb_51
noncomputable def d_X0_stepsOf_8 := gq_4 db00a_6 eb_0
noncomputable def d_X0_stepsOf_9 := gq_5 db00a_6 eb_45
noncomputable def d_X0_stepsOf_12 := gq_6 db00a_6 eb_10
noncomputable def d_X0_stepsOf_13 := gq_7 db00a_6 eb_38
noncomputable def d_X0_stepsOf_14 := gq_8 db00a_6 eb_21
noncomputable def d_X0_stepsOf_17 := gq_9 db00a_6 eb_22
noncomputable def d_X0_stepsOf_18 := gq_10 db00a_6 eb_16
theorem db00a_7 : Pf_ prog_2_method_6_code [(0, [0x2a]), (1, [0x1b]), (2, [0xb6, 0x00, 0x27]), (5, [0x99, 0x00, 0x0c]), (8, [0x2a]), (9, [0xb4, 0x00, 0x12]), (12, [0x1b]), (13, [0x2e]), (14, [0xa7, 0x00, 0x04]), (17, [0x03]), (18, [0xac])] := pf_ok prog_2_method_6_code _ 0 (by decide +kernel)
noncomputable def d_X0_pointsOf_0 := gq_0 db00a_7 eb_0
noncomputable def d_X0_pointsOf_1 := gq_1 db00a_7 eb_10
noncomputable def d_X0_pointsOf_2 := gq_2 db00a_7 eb_50
noncomputable def d_X0_pointsOf_5 := gq_3 db00a_7 eb_51
noncomputable def d_X0_pointsOf_8 := gq_4 db00a_7 eb_0
noncomputable def d_X0_pointsOf_9 := gq_5 db00a_7 eb_46
noncomputable def d_X0_pointsOf_12 := gq_6 db00a_7 eb_10
noncomputable def d_X0_pointsOf_13 := gq_7 db00a_7 eb_38
noncomputable def d_X0_pointsOf_14 := gq_8 db00a_7 eb_21
noncomputable def d_X0_pointsOf_17 := gq_9 db00a_7 eb_22
noncomputable def d_X0_pointsOf_18 := gq_10 db00a_7 eb_16
theorem db00a_8 : Pf_ prog_2_method_7_code [(0, [0x1b]), (1, [0x11, 0x00, 0x96]), (4, [0x68]), (5, [0x1c]), (6, [0x60]), (7, [0x3e]), (8, [0x1d]), (9, [0x9b, 0x00, 0x15]), (12, [0x1d]), (13, [0x2a]), (14, [0xb4, 0x00, 0x0b]), (17, [0xbe]), (18, [0xa2, 0x00, 0x0c]), (21, [0x2a]), (22, [0xb4, 0x00, 0x0b]), (25, [0x1d]), (26, [0x2e]), (27, [0xa7, 0x00, 0x04]), (30, [0x03]), (31, [0xac])] := pf_ok prog_2_method_7_code _ 0 (by decide +kernel)
noncomputable def d_X0_stepAt_0 := gq_0 db00a_8 eb_10
noncomputable def d_X0_stepAt_1 := gq_1 db00a_8 eb_34
noncomputable def d_X0_stepAt_4 := gq_2 db00a_8 eb_35
noncomputable def d_X0_stepAt_5 := gq_3 db00a_8 eb_14
noncomputable def d_X0_stepAt_6 := gq_4 db00a_8 eb_36
noncomputable def d_X0_stepAt_7 := gq_5 db00a_8 eb_29
noncomputable def d_X0_stepAt_8 := gq_6 db00a_8 eb_30
noncomputable def d_X0_stepAt_9 := gq_7 db00a_8 eb_52
noncomputable def d_X0_stepAt_12 := gq_8 db00a_8 eb_30
noncomputable def d_X0_stepAt_13 := gq_9 db00a_8 eb_0
noncomputable def d_X0_stepAt_14 := gq_10 db00a_8 eb_33
noncomputable def d_X0_stepAt_17 := gq_11 db00a_8 eb_53
noncomputable def d_X0_stepAt_18 := gq_12 db00a_8 eb_54
noncomputable def d_X0_stepAt_21 := gq_13 db00a_8 eb_0
noncomputable def d_X0_stepAt_22 := gq_14 db00a_8 eb_33
noncomputable def d_X0_stepAt_25 := gq_15 db00a_8 eb_30
noncomputable def d_X0_stepAt_26 := gq_16 db00a_8 eb_38
noncomputable def d_X0_stepAt_27 := gq_17 db00a_8 eb_21
noncomputable def d_X0_stepAt_30 := gq_18 db00a_8 eb_22
noncomputable def d_X0_stepAt_31 := gq_19 db00a_8 eb_16
theorem db00a_9 : Pf_ prog_2_method_8_code [(0, [0x1a]), (1, [0x06]), (2, [0x7e]), (3, [0xac])] := pf_ok prog_2_method_8_code _ 0 (by decide +kernel)
noncomputable def d_X0_kindOf_0 := gq_0 db00a_9 eb_9
noncomputable def d_X0_kindOf_1 := gq_1 db00a_9 eb_55
noncomputable def d_X0_kindOf_2 := gq_2 db00a_9 eb_56
noncomputable def d_X0_kindOf_3 := gq_3 db00a_9 eb_16
theorem db00a_10 : Pf_ prog_2_method_9_code [(0, [0x1a]), (1, [0x05]), (2, [0x7a]), (3, [0x10, 0x0f]), (5, [0x7e]), (6, [0xac])] := pf_ok prog_2_method_9_code _ 0 (by decide +kernel)
noncomputable def d_X0_placeOf_0 := gq_0 db00a_10 eb_9
noncomputable def d_X0_placeOf_1 := gq_1 db00a_10 eb_11
noncomputable def d_X0_placeOf_2 := gq_2 db00a_10 eb_57
noncomputable def d_X0_placeOf_3 := gq_3 db00a_10 eb_58
noncomputable def d_X0_placeOf_5 := gq_4 db00a_10 eb_56
noncomputable def d_X0_placeOf_6 := gq_5 db00a_10 eb_16
theorem db00a_11 : Pf_ prog_2_method_10_code [(0, [0x1a]), (1, [0x10, 0x06]), (3, [0x7a]), (4, [0xac])] := pf_ok prog_2_method_10_code _ 0 (by decide +kernel)
noncomputable def d_X0_amountOf_0 := gq_0 db00a_11 eb_9
noncomputable def d_X0_amountOf_1 := gq_1 db00a_11 eb_15
noncomputable def d_X0_amountOf_3 := gq_2 db00a_11 eb_57
noncomputable def d_X0_amountOf_4 := gq_3 db00a_11 eb_16
theorem db00a_12 : Pf_ prog_2_method_11_code [(0, [0x03]), (1, [0x36, 0x06]), (3, [0x03]), (4, [0x36, 0x07]), (6, [0x2a]), (7, [0x1b]), (8, [0xb6, 0x00, 0x2b]), (11, [0x36, 0x08]), (13, [0x03]), (14, [0x36, 0x09]), (16, [0x15, 0x09]), (18, [0x15, 0x08]), (20, [0xa2, 0x00, 0x81]), (23, [0x2a]), (24, [0x1b]), (25, [0x15, 0x09]), (27, [0xb6, 0x00, 0x2e]), (30, [0x36, 0x0a]), (32, [0x15, 0x0a]), (34, [0xb8, 0x00, 0x23]), (37, [0x36, 0x0b]), (39, [0x15, 0x0b]), (41, [0x06]), (42, [0xa0, 0x00, 0x19])] := pf_ok prog_2_method_11_code _ 0 (by decide +kernel)
noncomputable def d_X0_looksAt_0 := gq_0 db00a_12 eb_22
noncomputable def d_X0_looksAt_1 := gq_1 db00a_12 eb_59
noncomputable def d_X0_looksAt_3 := gq_2 db00a_12 eb_22
noncomputable def d_X0_looksAt_4 := gq_3 db00a_12 eb_60
noncomputable def d_X0_looksAt_6 := gq_4 db00a_12 eb_0
noncomputable def d_X0_looksAt_7 := gq_5 db00a_12 eb_10
noncomputable def d_X0_looksAt_8 := gq_6 db00a_12 eb_61
noncomputable def d_X0_looksAt_11 := gq_7 db00a_12 eb_62
noncomputable def d_X0_looksAt_13 := gq_8 db00a_12 eb_22
noncomputable def d_X0_looksAt_14 := gq_9 db00a_12 eb_63
noncomputable def d_X0_looksAt_16 := gq_10 db00a_12 eb_64
noncomputable def d_X0_looksAt_18 := gq_11 db00a_12 eb_65
noncomputable def d_X0_looksAt_20 := gq_12 db00a_12 eb_66
noncomputable def d_X0_looksAt_23 := gq_13 db00a_12 eb_0
noncomputable def d_X0_looksAt_24 := gq_14 db00a_12 eb_10
noncomputable def d_X0_looksAt_25 := gq_15 db00a_12 eb_64
noncomputable def d_X0_looksAt_27 := gq_16 db00a_12 eb_67
noncomputable def d_X0_looksAt_30 := gq_17 db00a_12 eb_68
noncomputable def d_X0_looksAt_32 := gq_18 db00a_12 eb_69
noncomputable def d_X0_looksAt_34 := gq_19 db00a_12 eb_40
noncomputable def d_X0_looksAt_37 := gq_20 db00a_12 eb_70
noncomputable def d_X0_looksAt_39 := gq_21 db00a_12 eb_71
noncomputable def d_X0_looksAt_41 := gq_22 db00a_12 eb_55
noncomputable def d_X0_looksAt_42 := gq_23 db00a_12 eb_72
theorem db00a_13 : Pf_ prog_2_method_11_code [(45, [0x84, 0x06, 0x01]), (48, [0x15, 0x07]), (50, [0x1c]), (51, [0xa0, 0x00, 0x5c]), (54, [0x15, 0x06]), (56, [0x1d]), (57, [0x15, 0x04]), (59, [0xb8, 0x00, 0x32]), (62, [0x99, 0x00, 0x51]), (65, [0x04]), (66, [0xac]), (67, [0x15, 0x0b]), (69, [0x04]), (70, [0xa0, 0x00, 0x10]), (73, [0x15, 0x06]), (75, [0x15, 0x0a]), (77, [0xb8, 0x00, 0x36]), (80, [0x60]), (81, [0x36, 0x06]), (83, [0xa7, 0x00, 0x3c]), (86, [0x19, 0x05]), (88, [0x15, 0x07]), (90, [0x15, 0x0a]), (92, [0xb8, 0x00, 0x39])] := pf_ok prog_2_method_11_code _ 45 (by decide +kernel)
noncomputable def d_X0_looksAt_45 := gq_0 db00a_13 eb_73
noncomputable def d_X0_looksAt_48 := gq_1 db00a_13 eb_74
noncomputable def d_X0_looksAt_50 := gq_2 db00a_13 eb_14
noncomputable def d_X0_looksAt_51 := gq_3 db00a_13 eb_75
noncomputable def d_X0_looksAt_54 := gq_4 db00a_13 eb_76
noncomputable def d_X0_looksAt_56 := gq_5 db00a_13 eb_30
noncomputable def d_X0_looksAt_57 := gq_6 db00a_13 eb_77
noncomputable def d_X0_looksAt_59 := gq_7 db00a_13 eb_78
noncomputable def d_X0_looksAt_62 := gq_8 db00a_13 eb_79
noncomputable def d_X0_looksAt_65 := gq_9 db00a_13 eb_20
noncomputable def d_X0_looksAt_66 := gq_10 db00a_13 eb_16
noncomputable def d_X0_looksAt_67 := gq_11 db00a_13 eb_71
noncomputable def d_X0_looksAt_69 := gq_12 db00a_13 eb_20
noncomputable def d_X0_looksAt_70 := gq_13 db00a_13 eb_80
noncomputable def d_X0_looksAt_73 := gq_14 db00a_13 eb_76
noncomputable def d_X0_looksAt_75 := gq_15 db00a_13 eb_69
noncomputable def d_X0_looksAt_77 := gq_16 db00a_13 eb_81
noncomputable def d_X0_looksAt_80 := gq_17 db00a_13 eb_36
noncomputable def d_X0_looksAt_81 := gq_18 db00a_13 eb_59
noncomputable def d_X0_looksAt_83 := gq_19 db00a_13 eb_82
noncomputable def d_X0_looksAt_86 := gq_20 db00a_13 eb_83
noncomputable def d_X0_looksAt_88 := gq_21 db00a_13 eb_74
noncomputable def d_X0_looksAt_90 := gq_22 db00a_13 eb_69
noncomputable def d_X0_looksAt_92 := gq_23 db00a_13 eb_84
theorem db00a_14 : Pf_ prog_2_method_11_code [(95, [0xb6, 0x00, 0x3c]), (98, [0x36, 0x0c]), (100, [0x15, 0x0c]), (102, [0x02]), (103, [0x9f, 0x00, 0x28]), (106, [0x15, 0x0a]), (108, [0xb8, 0x00, 0x39]), (111, [0x36, 0x07]), (113, [0x15, 0x06]), (115, [0x15, 0x0c]), (117, [0x60]), (118, [0x36, 0x06]), (120, [0x15, 0x0b]), (122, [0x05]), (123, [0xa0, 0x00, 0x10]), (126, [0x15, 0x06]), (128, [0x15, 0x0a]), (130, [0xb8, 0x00, 0x36]), (133, [0xb8, 0x00, 0x41]), (136, [0xa7, 0x00, 0x05]), (139, [0x15, 0x06]), (141, [0x36, 0x06]), (143, [0x84, 0x09, 0x01]), (146, [0xa7, 0xff, 0x7e])] := pf_ok prog_2_method_11_code _ 95 (by decide +kernel)
noncomputable def d_X0_looksAt_95 := gq_0 db00a_14 eb_85
noncomputable def d_X0_looksAt_98 := gq_1 db00a_14 eb_86
noncomputable def d_X0_looksAt_100 := gq_2 db00a_14 eb_87
noncomputable def d_X0_looksAt_102 := gq_3 db00a_14 eb_27
noncomputable def d_X0_looksAt_103 := gq_4 db00a_14 eb_88
noncomputable def d_X0_looksAt_106 := gq_5 db00a_14 eb_69
noncomputable def d_X0_looksAt_108 := gq_6 db00a_14 eb_84
noncomputable def d_X0_looksAt_111 := gq_7 db00a_14 eb_60
noncomputable def d_X0_looksAt_113 := gq_8 db00a_14 eb_76
noncomputable def d_X0_looksAt_115 := gq_9 db00a_14 eb_87
noncomputable def d_X0_looksAt_117 := gq_10 db00a_14 eb_36
noncomputable def d_X0_looksAt_118 := gq_11 db00a_14 eb_59
noncomputable def d_X0_looksAt_120 := gq_12 db00a_14 eb_71
noncomputable def d_X0_looksAt_122 := gq_13 db00a_14 eb_11
noncomputable def d_X0_looksAt_123 := gq_14 db00a_14 eb_80
noncomputable def d_X0_looksAt_126 := gq_15 db00a_14 eb_76
noncomputable def d_X0_looksAt_128 := gq_16 db00a_14 eb_69
noncomputable def d_X0_looksAt_130 := gq_17 db00a_14 eb_81
noncomputable def d_X0_looksAt_133 := gq_18 db00a_14 eb_89
noncomputable def d_X0_looksAt_136 := gq_19 db00a_14 eb_90
noncomputable def d_X0_looksAt_139 := gq_20 db00a_14 eb_76
noncomputable def d_X0_looksAt_141 := gq_21 db00a_14 eb_59
noncomputable def d_X0_looksAt_143 := gq_22 db00a_14 eb_91
noncomputable def d_X0_looksAt_146 := gq_23 db00a_14 eb_92
theorem db00a_15 : Pf_ prog_2_method_11_code [(149, [0x03]), (150, [0xac])] := pf_ok prog_2_method_11_code _ 149 (by decide +kernel)
noncomputable def d_X0_looksAt_149 := gq_0 db00a_15 eb_22
noncomputable def d_X0_looksAt_150 := gq_1 db00a_15 eb_16
theorem db00a_16 : Pf_ prog_3_method_1_code [(0, [0x2a]), (1, [0xb7, 0x00, 0x03]), (4, [0x2a]), (5, [0x10, 0x1e]), (7, [0xbc, 0x0a]), (9, [0xb5, 0x00, 0x0b]), (12, [0x2a]), (13, [0x10, 0x1e]), (15, [0xbc, 0x0a]), (17, [0xb5, 0x00, 0x0f]), (20, [0x2a]), (21, [0x10, 0x1e]), (23, [0xbc, 0x0a]), (25, [0xb5, 0x00, 0x12]), (28, [0x2a]), (29, [0x10, 0x0a]), (31, [0xbc, 0x0a]), (33, [0xb5, 0x00, 0x15]), (36, [0x2a]), (37, [0x10, 0x08]), (39, [0xbc, 0x0a]), (41, [0xb5, 0x00, 0x18]), (44, [0x2a]), (45, [0x11, 0x00, 0xc8])] := pf_ok prog_3_method_1_code _ 0 (by decide +kernel)
noncomputable def d_X1_init_0 := gq_0 db00a_16 eb_0
noncomputable def d_X1_init_1 := gq_1 db00a_16 eb_1
noncomputable def d_X1_init_4 := gq_2 db00a_16 eb_0
noncomputable def d_X1_init_5 := gq_3 db00a_16 eb_93
noncomputable def d_X1_init_7 := gq_4 db00a_16 eb_3
noncomputable def d_X1_init_9 := gq_5 db00a_16 eb_4
noncomputable def d_X1_init_12 := gq_6 db00a_16 eb_0
noncomputable def d_X1_init_13 := gq_7 db00a_16 eb_93
noncomputable def d_X1_init_15 := gq_8 db00a_16 eb_3
noncomputable def d_X1_init_17 := gq_9 db00a_16 eb_6
noncomputable def d_X1_init_20 := gq_10 db00a_16 eb_0
noncomputable def d_X1_init_21 := gq_11 db00a_16 eb_93
noncomputable def d_X1_init_23 := gq_12 db00a_16 eb_3
noncomputable def d_X1_init_25 := gq_13 db00a_16 eb_7
noncomputable def d_X1_init_28 := gq_14 db00a_16 eb_0
noncomputable def d_X1_init_29 := gq_15 db00a_16 eb_94
noncomputable def d_X1_init_31 := gq_16 db00a_16 eb_3
noncomputable def d_X1_init_33 := gq_17 db00a_16 eb_48
noncomputable def d_X1_init_36 := gq_18 db00a_16 eb_0
noncomputable def d_X1_init_37 := gq_19 db00a_16 eb_95
noncomputable def d_X1_init_39 := gq_20 db00a_16 eb_3
noncomputable def d_X1_init_41 := gq_21 db00a_16 eb_96
noncomputable def d_X1_init_44 := gq_22 db00a_16 eb_0
noncomputable def d_X1_init_45 := gq_23 db00a_16 eb_97
theorem db00a_17 : Pf_ prog_3_method_1_code [(48, [0xbc, 0x0a]), (50, [0xb5, 0x00, 0x1b]), (53, [0x2a]), (54, [0x11, 0x00, 0xc8]), (57, [0xbc, 0x0a]), (59, [0xb5, 0x00, 0x1e]), (62, [0x2a]), (63, [0x10, 0x10]), (65, [0xbc, 0x0a]), (67, [0xb5, 0x00, 0x21]), (70, [0x2a]), (71, [0x11, 0x00, 0xb4]), (74, [0xbc, 0x0a]), (76, [0xb5, 0x00, 0x24]), (79, [0x2a]), (80, [0x11, 0x00, 0xb4]), (83, [0xbc, 0x0a]), (85, [0xb5, 0x00, 0x27]), (88, [0x2a]), (89, [0x11, 0x00, 0xb4]), (92, [0xbc, 0x0a]), (94, [0xb5, 0x00, 0x2a]), (97, [0x2a]), (98, [0x10, 0x08])] := pf_ok prog_3_method_1_code _ 48 (by decide +kernel)
noncomputable def d_X1_init_48 := gq_0 db00a_17 eb_3
noncomputable def d_X1_init_50 := gq_1 db00a_17 eb_98
noncomputable def d_X1_init_53 := gq_2 db00a_17 eb_0
noncomputable def d_X1_init_54 := gq_3 db00a_17 eb_97
noncomputable def d_X1_init_57 := gq_4 db00a_17 eb_3
noncomputable def d_X1_init_59 := gq_5 db00a_17 eb_99
noncomputable def d_X1_init_62 := gq_6 db00a_17 eb_0
noncomputable def d_X1_init_63 := gq_7 db00a_17 eb_100
noncomputable def d_X1_init_65 := gq_8 db00a_17 eb_3
noncomputable def d_X1_init_67 := gq_9 db00a_17 eb_101
noncomputable def d_X1_init_70 := gq_10 db00a_17 eb_0
noncomputable def d_X1_init_71 := gq_11 db00a_17 eb_102
noncomputable def d_X1_init_74 := gq_12 db00a_17 eb_3
noncomputable def d_X1_init_76 := gq_13 db00a_17 eb_103
noncomputable def d_X1_init_79 := gq_14 db00a_17 eb_0
noncomputable def d_X1_init_80 := gq_15 db00a_17 eb_102
noncomputable def d_X1_init_83 := gq_16 db00a_17 eb_3
noncomputable def d_X1_init_85 := gq_17 db00a_17 eb_104
noncomputable def d_X1_init_88 := gq_18 db00a_17 eb_0
noncomputable def d_X1_init_89 := gq_19 db00a_17 eb_102
noncomputable def d_X1_init_92 := gq_20 db00a_17 eb_3
noncomputable def d_X1_init_94 := gq_21 db00a_17 eb_105
noncomputable def d_X1_init_97 := gq_22 db00a_17 eb_0
noncomputable def d_X1_init_98 := gq_23 db00a_17 eb_95
theorem db00a_18 : Pf_ prog_3_method_1_code [(100, [0xbc, 0x0a]), (102, [0xb5, 0x00, 0x2d]), (105, [0x2a]), (106, [0x10, 0x08]), (108, [0xbc, 0x0a]), (110, [0xb5, 0x00, 0x30]), (113, [0x2a]), (114, [0x10, 0x1e]), (116, [0xbc, 0x0a]), (118, [0xb5, 0x00, 0x33]), (121, [0x2a]), (122, [0xb4, 0x00, 0x18]), (125, [0x04]), (126, [0xb8, 0x00, 0x36]), (129, [0x2a]), (130, [0xb4, 0x00, 0x21]), (133, [0x02]), (134, [0xb8, 0x00, 0x36]), (137, [0xb1])] := pf_ok prog_3_method_1_code _ 100 (by decide +kernel)
noncomputable def d_X1_init_100 := gq_0 db00a_18 eb_3
noncomputable def d_X1_init_102 := gq_1 db00a_18 eb_106
noncomputable def d_X1_init_105 := gq_2 db00a_18 eb_0
noncomputable def d_X1_init_106 := gq_3 db00a_18 eb_95
noncomputable def d_X1_init_108 := gq_4 db00a_18 eb_3
noncomputable def d_X1_init_110 := gq_5 db00a_18 eb_107
noncomputable def d_X1_init_113 := gq_6 db00a_18 eb_0
noncomputable def d_X1_init_114 := gq_7 db00a_18 eb_93
noncomputable def d_X1_init_116 := gq_8 db00a_18 eb_3
noncomputable def d_X1_init_118 := gq_9 db00a_18 eb_108
noncomputable def d_X1_init_121 := gq_10 db00a_18 eb_0
noncomputable def d_X1_init_122 := gq_11 db00a_18 eb_109
noncomputable def d_X1_init_125 := gq_12 db00a_18 eb_20
noncomputable def d_X1_init_126 := gq_13 db00a_18 eb_81
noncomputable def d_X1_init_129 := gq_14 db00a_18 eb_0
noncomputable def d_X1_init_130 := gq_15 db00a_18 eb_110
noncomputable def d_X1_init_133 := gq_16 db00a_18 eb_27
noncomputable def d_X1_init_134 := gq_17 db00a_18 eb_81
noncomputable def d_X1_init_137 := gq_18 db00a_18 eb_8
theorem db00a_19 : Pf_ prog_3_method_2_code [(0, [0x1b]), (1, [0x9b, 0x00, 0x0f]), (4, [0x1b]), (5, [0x2a]), (6, [0xb4, 0x00, 0x3c]), (9, [0xa2, 0x00, 0x07]), (12, [0x04]), (13, [0xa7, 0x00, 0x04]), (16, [0x03]), (17, [0xac])] := pf_ok prog_3_method_2_code _ 0 (by decide +kernel)
noncomputable def d_X1_has_0 := gq_0 db00a_19 eb_10
noncomputable def d_X1_has_1 := gq_1 db00a_19 eb_17
noncomputable def d_X1_has_4 := gq_2 db00a_19 eb_10
noncomputable def d_X1_has_5 := gq_3 db00a_19 eb_0
noncomputable def d_X1_has_6 := gq_4 db00a_19 eb_111
noncomputable def d_X1_has_9 := gq_5 db00a_19 eb_19
noncomputable def d_X1_has_12 := gq_6 db00a_19 eb_20
noncomputable def d_X1_has_13 := gq_7 db00a_19 eb_21
noncomputable def d_X1_has_16 := gq_8 db00a_19 eb_22
noncomputable def d_X1_has_17 := gq_9 db00a_19 eb_16
theorem db00a_20 : Pf_ prog_3_method_3_code [(0, [0x2a]), (1, [0x1b]), (2, [0xb6, 0x00, 0x40]), (5, [0x99, 0x00, 0x11]), (8, [0x2a]), (9, [0xb4, 0x00, 0x0f]), (12, [0x1b]), (13, [0x2e]), (14, [0x1c]), (15, [0xa3, 0x00, 0x07]), (18, [0x04]), (19, [0xa7, 0x00, 0x04]), (22, [0x03]), (23, [0xac])] := pf_ok prog_3_method_3_code _ 0 (by decide +kernel)
noncomputable def d_X1_wasOpen_0 := gq_0 db00a_20 eb_0
noncomputable def d_X1_wasOpen_1 := gq_1 db00a_20 eb_10
noncomputable def d_X1_wasOpen_2 := gq_2 db00a_20 eb_112
noncomputable def d_X1_wasOpen_5 := gq_3 db00a_20 eb_113
noncomputable def d_X1_wasOpen_8 := gq_4 db00a_20 eb_0
noncomputable def d_X1_wasOpen_9 := gq_5 db00a_20 eb_45
noncomputable def d_X1_wasOpen_12 := gq_6 db00a_20 eb_10
noncomputable def d_X1_wasOpen_13 := gq_7 db00a_20 eb_38
noncomputable def d_X1_wasOpen_14 := gq_8 db00a_20 eb_14
noncomputable def d_X1_wasOpen_15 := gq_9 db00a_20 eb_114
noncomputable def d_X1_wasOpen_18 := gq_10 db00a_20 eb_20
noncomputable def d_X1_wasOpen_19 := gq_11 db00a_20 eb_21
noncomputable def d_X1_wasOpen_22 := gq_12 db00a_20 eb_22
noncomputable def d_X1_wasOpen_23 := gq_13 db00a_20 eb_16
theorem db00a_21 : Pf_ prog_3_method_4_code [(0, [0x2a]), (1, [0xb4, 0x00, 0x3c]), (4, [0x10, 0x1e]), (6, [0xa1, 0x00, 0x05]), (9, [0x02]), (10, [0xac]), (11, [0x2a]), (12, [0xb4, 0x00, 0x0b]), (15, [0x2a]), (16, [0xb4, 0x00, 0x3c]), (19, [0x1b]), (20, [0x4f]), (21, [0x2a]), (22, [0xb4, 0x00, 0x0f]), (25, [0x2a]), (26, [0xb4, 0x00, 0x3c]), (29, [0x1c]), (30, [0x4f]), (31, [0x2a]), (32, [0x59]), (33, [0xb4, 0x00, 0x3c]), (36, [0x04]), (37, [0x60]), (38, [0xb5, 0x00, 0x3c])] := pf_ok prog_3_method_4_code _ 0 (by decide +kernel)
noncomputable def d_X1_start_0 := gq_0 db00a_21 eb_0
noncomputable def d_X1_start_1 := gq_1 db00a_21 eb_111
noncomputable def d_X1_start_4 := gq_2 db00a_21 eb_93
noncomputable def d_X1_start_6 := gq_3 db00a_21 eb_115
noncomputable def d_X1_start_9 := gq_4 db00a_21 eb_27
noncomputable def d_X1_start_10 := gq_5 db00a_21 eb_16
noncomputable def d_X1_start_11 := gq_6 db00a_21 eb_0
noncomputable def d_X1_start_12 := gq_7 db00a_21 eb_33
noncomputable def d_X1_start_15 := gq_8 db00a_21 eb_0
noncomputable def d_X1_start_16 := gq_9 db00a_21 eb_111
noncomputable def d_X1_start_19 := gq_10 db00a_21 eb_10
noncomputable def d_X1_start_20 := gq_11 db00a_21 eb_39
noncomputable def d_X1_start_21 := gq_12 db00a_21 eb_0
noncomputable def d_X1_start_22 := gq_13 db00a_21 eb_45
noncomputable def d_X1_start_25 := gq_14 db00a_21 eb_0
noncomputable def d_X1_start_26 := gq_15 db00a_21 eb_111
noncomputable def d_X1_start_29 := gq_16 db00a_21 eb_14
noncomputable def d_X1_start_30 := gq_17 db00a_21 eb_39
noncomputable def d_X1_start_31 := gq_18 db00a_21 eb_0
noncomputable def d_X1_start_32 := gq_19 db00a_21 eb_47
noncomputable def d_X1_start_33 := gq_20 db00a_21 eb_111
noncomputable def d_X1_start_36 := gq_21 db00a_21 eb_20
noncomputable def d_X1_start_37 := gq_22 db00a_21 eb_36
noncomputable def d_X1_start_38 := gq_23 db00a_21 eb_116
theorem db00a_22 : Pf_ prog_3_method_4_code [(41, [0x2a]), (42, [0xb4, 0x00, 0x3c]), (45, [0x04]), (46, [0x64]), (47, [0xac])] := pf_ok prog_3_method_4_code _ 41 (by decide +kernel)
noncomputable def d_X1_start_41 := gq_0 db00a_22 eb_0
noncomputable def d_X1_start_42 := gq_1 db00a_22 eb_111
noncomputable def d_X1_start_45 := gq_2 db00a_22 eb_20
noncomputable def d_X1_start_46 := gq_3 db00a_22 eb_49
noncomputable def d_X1_start_47 := gq_4 db00a_22 eb_16
theorem db00a_23 : Pf_ prog_3_method_5_code [(0, [0x2a]), (1, [0xb4, 0x00, 0x44]), (4, [0x11, 0x00, 0xc8]), (7, [0xa2, 0x00, 0x17]), (10, [0x1d]), (11, [0x03]), (12, [0x10, 0x0f]), (14, [0xb8, 0x00, 0x47]), (17, [0x99, 0x00, 0x0d]), (20, [0x2a]), (21, [0xb4, 0x00, 0x21]), (24, [0x1d]), (25, [0x2e]), (26, [0x02]), (27, [0x9f, 0x00, 0x05]), (30, [0x02]), (31, [0xac]), (32, [0x2a]), (33, [0xb4, 0x00, 0x1b]), (36, [0x2a]), (37, [0xb4, 0x00, 0x44]), (40, [0x1b]), (41, [0x10, 0x08]), (43, [0x78])] := pf_ok prog_3_method_5_code _ 0 (by decide +kernel)
noncomputable def d_X1_addStatement_0 := gq_0 db00a_23 eb_0
noncomputable def d_X1_addStatement_1 := gq_1 db00a_23 eb_117
noncomputable def d_X1_addStatement_4 := gq_2 db00a_23 eb_97
noncomputable def d_X1_addStatement_7 := gq_3 db00a_23 eb_118
noncomputable def d_X1_addStatement_10 := gq_4 db00a_23 eb_30
noncomputable def d_X1_addStatement_11 := gq_5 db00a_23 eb_22
noncomputable def d_X1_addStatement_12 := gq_6 db00a_23 eb_58
noncomputable def d_X1_addStatement_14 := gq_7 db00a_23 eb_119
noncomputable def d_X1_addStatement_17 := gq_8 db00a_23 eb_120
noncomputable def d_X1_addStatement_20 := gq_9 db00a_23 eb_0
noncomputable def d_X1_addStatement_21 := gq_10 db00a_23 eb_110
noncomputable def d_X1_addStatement_24 := gq_11 db00a_23 eb_30
noncomputable def d_X1_addStatement_25 := gq_12 db00a_23 eb_38
noncomputable def d_X1_addStatement_26 := gq_13 db00a_23 eb_27
noncomputable def d_X1_addStatement_27 := gq_14 db00a_23 eb_121
noncomputable def d_X1_addStatement_30 := gq_15 db00a_23 eb_27
noncomputable def d_X1_addStatement_31 := gq_16 db00a_23 eb_16
noncomputable def d_X1_addStatement_32 := gq_17 db00a_23 eb_0
noncomputable def d_X1_addStatement_33 := gq_18 db00a_23 eb_122
noncomputable def d_X1_addStatement_36 := gq_19 db00a_23 eb_0
noncomputable def d_X1_addStatement_37 := gq_20 db00a_23 eb_117
noncomputable def d_X1_addStatement_40 := gq_21 db00a_23 eb_10
noncomputable def d_X1_addStatement_41 := gq_22 db00a_23 eb_95
noncomputable def d_X1_addStatement_43 := gq_23 db00a_23 eb_12
theorem db00a_24 : Pf_ prog_3_method_5_code [(44, [0x1c]), (45, [0x08]), (46, [0x78]), (47, [0x80]), (48, [0x1d]), (49, [0x04]), (50, [0x78]), (51, [0x80]), (52, [0x15, 0x04]), (54, [0x99, 0x00, 0x07]), (57, [0x04]), (58, [0xa7, 0x00, 0x04]), (61, [0x03]), (62, [0x80]), (63, [0x4f]), (64, [0x2a]), (65, [0xb4, 0x00, 0x1e]), (68, [0x2a]), (69, [0xb4, 0x00, 0x44]), (72, [0x15, 0x05]), (74, [0x4f]), (75, [0x2a]), (76, [0x59]), (77, [0xb4, 0x00, 0x44])] := pf_ok prog_3_method_5_code _ 44 (by decide +kernel)
noncomputable def d_X1_addStatement_44 := gq_0 db00a_24 eb_14
noncomputable def d_X1_addStatement_45 := gq_1 db00a_24 eb_123
noncomputable def d_X1_addStatement_46 := gq_2 db00a_24 eb_12
noncomputable def d_X1_addStatement_47 := gq_3 db00a_24 eb_13
noncomputable def d_X1_addStatement_48 := gq_4 db00a_24 eb_30
noncomputable def d_X1_addStatement_49 := gq_5 db00a_24 eb_20
noncomputable def d_X1_addStatement_50 := gq_6 db00a_24 eb_12
noncomputable def d_X1_addStatement_51 := gq_7 db00a_24 eb_13
noncomputable def d_X1_addStatement_52 := gq_8 db00a_24 eb_77
noncomputable def d_X1_addStatement_54 := gq_9 db00a_24 eb_124
noncomputable def d_X1_addStatement_57 := gq_10 db00a_24 eb_20
noncomputable def d_X1_addStatement_58 := gq_11 db00a_24 eb_21
noncomputable def d_X1_addStatement_61 := gq_12 db00a_24 eb_22
noncomputable def d_X1_addStatement_62 := gq_13 db00a_24 eb_13
noncomputable def d_X1_addStatement_63 := gq_14 db00a_24 eb_39
noncomputable def d_X1_addStatement_64 := gq_15 db00a_24 eb_0
noncomputable def d_X1_addStatement_65 := gq_16 db00a_24 eb_125
noncomputable def d_X1_addStatement_68 := gq_17 db00a_24 eb_0
noncomputable def d_X1_addStatement_69 := gq_18 db00a_24 eb_117
noncomputable def d_X1_addStatement_72 := gq_19 db00a_24 eb_126
noncomputable def d_X1_addStatement_74 := gq_20 db00a_24 eb_39
noncomputable def d_X1_addStatement_75 := gq_21 db00a_24 eb_0
noncomputable def d_X1_addStatement_76 := gq_22 db00a_24 eb_47
noncomputable def d_X1_addStatement_77 := gq_23 db00a_24 eb_117
theorem db00a_25 : Pf_ prog_3_method_5_code [(80, [0x04]), (81, [0x60]), (82, [0xb5, 0x00, 0x44]), (85, [0x2a]), (86, [0xb4, 0x00, 0x44]), (89, [0x04]), (90, [0x64]), (91, [0xac])] := pf_ok prog_3_method_5_code _ 80 (by decide +kernel)
noncomputable def d_X1_addStatement_80 := gq_0 db00a_25 eb_20
noncomputable def d_X1_addStatement_81 := gq_1 db00a_25 eb_36
noncomputable def d_X1_addStatement_82 := gq_2 db00a_25 eb_127
noncomputable def d_X1_addStatement_85 := gq_3 db00a_25 eb_0
noncomputable def d_X1_addStatement_86 := gq_4 db00a_25 eb_117
noncomputable def d_X1_addStatement_89 := gq_5 db00a_25 eb_20
noncomputable def d_X1_addStatement_90 := gq_6 db00a_25 eb_49
noncomputable def d_X1_addStatement_91 := gq_7 db00a_25 eb_16
theorem db00a_26 : Pf_ prog_3_method_6_code [(0, [0x2a]), (1, [0xb4, 0x00, 0x2d]), (4, [0x03]), (5, [0xb8, 0x00, 0x36]), (8, [0x2a]), (9, [0xb4, 0x00, 0x30]), (12, [0x03]), (13, [0xb8, 0x00, 0x36]), (16, [0x03]), (17, [0x3e]), (18, [0x1d]), (19, [0x2a]), (20, [0xb4, 0x00, 0x44]), (23, [0xa2, 0x00, 0x99]), (26, [0x2a]), (27, [0xb4, 0x00, 0x1b]), (30, [0x1d]), (31, [0x2e]), (32, [0x10, 0x08]), (34, [0x7a]), (35, [0x1b]), (36, [0xa0, 0x00, 0x86]), (39, [0x2a]), (40, [0xb4, 0x00, 0x1e])] := pf_ok prog_3_method_6_code _ 0 (by decide +kernel)
noncomputable def d_X1_weigh_0 := gq_0 db00a_26 eb_0
noncomputable def d_X1_weigh_1 := gq_1 db00a_26 eb_128
noncomputable def d_X1_weigh_4 := gq_2 db00a_26 eb_22
noncomputable def d_X1_weigh_5 := gq_3 db00a_26 eb_81
noncomputable def d_X1_weigh_8 := gq_4 db00a_26 eb_0
noncomputable def d_X1_weigh_9 := gq_5 db00a_26 eb_129
noncomputable def d_X1_weigh_12 := gq_6 db00a_26 eb_22
noncomputable def d_X1_weigh_13 := gq_7 db00a_26 eb_81
noncomputable def d_X1_weigh_16 := gq_8 db00a_26 eb_22
noncomputable def d_X1_weigh_17 := gq_9 db00a_26 eb_29
noncomputable def d_X1_weigh_18 := gq_10 db00a_26 eb_30
noncomputable def d_X1_weigh_19 := gq_11 db00a_26 eb_0
noncomputable def d_X1_weigh_20 := gq_12 db00a_26 eb_117
noncomputable def d_X1_weigh_23 := gq_13 db00a_26 eb_130
noncomputable def d_X1_weigh_26 := gq_14 db00a_26 eb_0
noncomputable def d_X1_weigh_27 := gq_15 db00a_26 eb_122
noncomputable def d_X1_weigh_30 := gq_16 db00a_26 eb_30
noncomputable def d_X1_weigh_31 := gq_17 db00a_26 eb_38
noncomputable def d_X1_weigh_32 := gq_18 db00a_26 eb_95
noncomputable def d_X1_weigh_34 := gq_19 db00a_26 eb_57
noncomputable def d_X1_weigh_35 := gq_20 db00a_26 eb_10
noncomputable def d_X1_weigh_36 := gq_21 db00a_26 eb_131
noncomputable def d_X1_weigh_39 := gq_22 db00a_26 eb_0
noncomputable def d_X1_weigh_40 := gq_23 db00a_26 eb_125
theorem db00a_27 : Pf_ prog_3_method_6_code [(43, [0x1d]), (44, [0x2e]), (45, [0x1c]), (46, [0xa3, 0x00, 0x7c]), (49, [0x2a]), (50, [0xb4, 0x00, 0x1b]), (53, [0x1d]), (54, [0x2e]), (55, [0x08]), (56, [0x7a]), (57, [0x10, 0x07]), (59, [0x7e]), (60, [0x36, 0x04]), (62, [0x04]), (63, [0x2a]), (64, [0xb4, 0x00, 0x1b]), (67, [0x1d]), (68, [0x2e]), (69, [0x04]), (70, [0x7a]), (71, [0x10, 0x0f]), (73, [0x7e]), (74, [0x78]), (75, [0x36, 0x05])] := pf_ok prog_3_method_6_code _ 43 (by decide +kernel)
noncomputable def d_X1_weigh_43 := gq_0 db00a_27 eb_30
noncomputable def d_X1_weigh_44 := gq_1 db00a_27 eb_38
noncomputable def d_X1_weigh_45 := gq_2 db00a_27 eb_14
noncomputable def d_X1_weigh_46 := gq_3 db00a_27 eb_132
noncomputable def d_X1_weigh_49 := gq_4 db00a_27 eb_0
noncomputable def d_X1_weigh_50 := gq_5 db00a_27 eb_122
noncomputable def d_X1_weigh_53 := gq_6 db00a_27 eb_30
noncomputable def d_X1_weigh_54 := gq_7 db00a_27 eb_38
noncomputable def d_X1_weigh_55 := gq_8 db00a_27 eb_123
noncomputable def d_X1_weigh_56 := gq_9 db00a_27 eb_57
noncomputable def d_X1_weigh_57 := gq_10 db00a_27 eb_133
noncomputable def d_X1_weigh_59 := gq_11 db00a_27 eb_56
noncomputable def d_X1_weigh_60 := gq_12 db00a_27 eb_134
noncomputable def d_X1_weigh_62 := gq_13 db00a_27 eb_20
noncomputable def d_X1_weigh_63 := gq_14 db00a_27 eb_0
noncomputable def d_X1_weigh_64 := gq_15 db00a_27 eb_122
noncomputable def d_X1_weigh_67 := gq_16 db00a_27 eb_30
noncomputable def d_X1_weigh_68 := gq_17 db00a_27 eb_38
noncomputable def d_X1_weigh_69 := gq_18 db00a_27 eb_20
noncomputable def d_X1_weigh_70 := gq_19 db00a_27 eb_57
noncomputable def d_X1_weigh_71 := gq_20 db00a_27 eb_58
noncomputable def d_X1_weigh_73 := gq_21 db00a_27 eb_56
noncomputable def d_X1_weigh_74 := gq_22 db00a_27 eb_12
noncomputable def d_X1_weigh_75 := gq_23 db00a_27 eb_135
theorem db00a_28 : Pf_ prog_3_method_6_code [(77, [0x2a]), (78, [0xb4, 0x00, 0x1b]), (81, [0x1d]), (82, [0x2e]), (83, [0x04]), (84, [0x7e]), (85, [0x04]), (86, [0xa0, 0x00, 0x07]), (89, [0x04]), (90, [0xa7, 0x00, 0x04]), (93, [0x03]), (94, [0x36, 0x06]), (96, [0x2a]), (97, [0xb4, 0x00, 0x2d]), (100, [0x15, 0x04]), (102, [0x15, 0x06]), (104, [0x99, 0x00, 0x10]), (107, [0x2a]), (108, [0xb4, 0x00, 0x2d]), (111, [0x15, 0x04]), (113, [0x2e]), (114, [0x15, 0x05]), (116, [0x80]), (117, [0xa7, 0x00, 0x0f])] := pf_ok prog_3_method_6_code _ 77 (by decide +kernel)
noncomputable def d_X1_weigh_77 := gq_0 db00a_28 eb_0
noncomputable def d_X1_weigh_78 := gq_1 db00a_28 eb_122
noncomputable def d_X1_weigh_81 := gq_2 db00a_28 eb_30
noncomputable def d_X1_weigh_82 := gq_3 db00a_28 eb_38
noncomputable def d_X1_weigh_83 := gq_4 db00a_28 eb_20
noncomputable def d_X1_weigh_84 := gq_5 db00a_28 eb_56
noncomputable def d_X1_weigh_85 := gq_6 db00a_28 eb_20
noncomputable def d_X1_weigh_86 := gq_7 db00a_28 eb_136
noncomputable def d_X1_weigh_89 := gq_8 db00a_28 eb_20
noncomputable def d_X1_weigh_90 := gq_9 db00a_28 eb_21
noncomputable def d_X1_weigh_93 := gq_10 db00a_28 eb_22
noncomputable def d_X1_weigh_94 := gq_11 db00a_28 eb_59
noncomputable def d_X1_weigh_96 := gq_12 db00a_28 eb_0
noncomputable def d_X1_weigh_97 := gq_13 db00a_28 eb_128
noncomputable def d_X1_weigh_100 := gq_14 db00a_28 eb_77
noncomputable def d_X1_weigh_102 := gq_15 db00a_28 eb_76
noncomputable def d_X1_weigh_104 := gq_16 db00a_28 eb_137
noncomputable def d_X1_weigh_107 := gq_17 db00a_28 eb_0
noncomputable def d_X1_weigh_108 := gq_18 db00a_28 eb_128
noncomputable def d_X1_weigh_111 := gq_19 db00a_28 eb_77
noncomputable def d_X1_weigh_113 := gq_20 db00a_28 eb_38
noncomputable def d_X1_weigh_114 := gq_21 db00a_28 eb_126
noncomputable def d_X1_weigh_116 := gq_22 db00a_28 eb_13
noncomputable def d_X1_weigh_117 := gq_23 db00a_28 eb_138
theorem db00a_29 : Pf_ prog_3_method_6_code [(120, [0x2a]), (121, [0xb4, 0x00, 0x2d]), (124, [0x15, 0x04]), (126, [0x2e]), (127, [0x15, 0x05]), (129, [0x02]), (130, [0x82]), (131, [0x7e]), (132, [0x4f]), (133, [0x2a]), (134, [0xb4, 0x00, 0x30]), (137, [0x15, 0x04]), (139, [0x15, 0x06]), (141, [0x99, 0x00, 0x12]), (144, [0x2a]), (145, [0xb4, 0x00, 0x30]), (148, [0x15, 0x04]), (150, [0x2e]), (151, [0x15, 0x05]), (153, [0x02]), (154, [0x82]), (155, [0x7e]), (156, [0xa7, 0x00, 0x0d]), (159, [0x2a])] := pf_ok prog_3_method_6_code _ 120 (by decide +kernel)
noncomputable def d_X1_weigh_120 := gq_0 db00a_29 eb_0
noncomputable def d_X1_weigh_121 := gq_1 db00a_29 eb_128
noncomputable def d_X1_weigh_124 := gq_2 db00a_29 eb_77
noncomputable def d_X1_weigh_126 := gq_3 db00a_29 eb_38
noncomputable def d_X1_weigh_127 := gq_4 db00a_29 eb_126
noncomputable def d_X1_weigh_129 := gq_5 db00a_29 eb_27
noncomputable def d_X1_weigh_130 := gq_6 db00a_29 eb_139
noncomputable def d_X1_weigh_131 := gq_7 db00a_29 eb_56
noncomputable def d_X1_weigh_132 := gq_8 db00a_29 eb_39
noncomputable def d_X1_weigh_133 := gq_9 db00a_29 eb_0
noncomputable def d_X1_weigh_134 := gq_10 db00a_29 eb_129
noncomputable def d_X1_weigh_137 := gq_11 db00a_29 eb_77
noncomputable def d_X1_weigh_139 := gq_12 db00a_29 eb_76
noncomputable def d_X1_weigh_141 := gq_13 db00a_29 eb_140
noncomputable def d_X1_weigh_144 := gq_14 db00a_29 eb_0
noncomputable def d_X1_weigh_145 := gq_15 db00a_29 eb_129
noncomputable def d_X1_weigh_148 := gq_16 db00a_29 eb_77
noncomputable def d_X1_weigh_150 := gq_17 db00a_29 eb_38
noncomputable def d_X1_weigh_151 := gq_18 db00a_29 eb_126
noncomputable def d_X1_weigh_153 := gq_19 db00a_29 eb_27
noncomputable def d_X1_weigh_154 := gq_20 db00a_29 eb_139
noncomputable def d_X1_weigh_155 := gq_21 db00a_29 eb_56
noncomputable def d_X1_weigh_156 := gq_22 db00a_29 eb_141
noncomputable def d_X1_weigh_159 := gq_23 db00a_29 eb_0
theorem db00a_30 : Pf_ prog_3_method_6_code [(160, [0xb4, 0x00, 0x30]), (163, [0x15, 0x04]), (165, [0x2e]), (166, [0x15, 0x05]), (168, [0x80]), (169, [0x4f]), (170, [0x84, 0x03, 0x01]), (173, [0xa7, 0xff, 0x65]), (176, [0x2a]), (177, [0x1c]), (178, [0xb6, 0x00, 0x4b]), (181, [0x3e]), (182, [0x03]), (183, [0x36, 0x04]), (185, [0x15, 0x04]), (187, [0x10, 0x08]), (189, [0xa2, 0x00, 0x1f]), (192, [0x2a]), (193, [0xb4, 0x00, 0x2d]), (196, [0x15, 0x04]), (198, [0x5c]), (199, [0x2e]), (200, [0x1d]), (201, [0x7e])] := pf_ok prog_3_method_6_code _ 160 (by decide +kernel)
noncomputable def d_X1_weigh_160 := gq_0 db00a_30 eb_129
noncomputable def d_X1_weigh_163 := gq_1 db00a_30 eb_77
noncomputable def d_X1_weigh_165 := gq_2 db00a_30 eb_38
noncomputable def d_X1_weigh_166 := gq_3 db00a_30 eb_126
noncomputable def d_X1_weigh_168 := gq_4 db00a_30 eb_13
noncomputable def d_X1_weigh_169 := gq_5 db00a_30 eb_39
noncomputable def d_X1_weigh_170 := gq_6 db00a_30 eb_43
noncomputable def d_X1_weigh_173 := gq_7 db00a_30 eb_142
noncomputable def d_X1_weigh_176 := gq_8 db00a_30 eb_0
noncomputable def d_X1_weigh_177 := gq_9 db00a_30 eb_14
noncomputable def d_X1_weigh_178 := gq_10 db00a_30 eb_143
noncomputable def d_X1_weigh_181 := gq_11 db00a_30 eb_29
noncomputable def d_X1_weigh_182 := gq_12 db00a_30 eb_22
noncomputable def d_X1_weigh_183 := gq_13 db00a_30 eb_134
noncomputable def d_X1_weigh_185 := gq_14 db00a_30 eb_77
noncomputable def d_X1_weigh_187 := gq_15 db00a_30 eb_95
noncomputable def d_X1_weigh_189 := gq_16 db00a_30 eb_144
noncomputable def d_X1_weigh_192 := gq_17 db00a_30 eb_0
noncomputable def d_X1_weigh_193 := gq_18 db00a_30 eb_128
noncomputable def d_X1_weigh_196 := gq_19 db00a_30 eb_77
noncomputable def d_X1_weigh_198 := gq_20 db00a_30 eb_145
noncomputable def d_X1_weigh_199 := gq_21 db00a_30 eb_38
noncomputable def d_X1_weigh_200 := gq_22 db00a_30 eb_30
noncomputable def d_X1_weigh_201 := gq_23 db00a_30 eb_56
theorem db00a_31 : Pf_ prog_3_method_6_code [(202, [0x4f]), (203, [0x2a]), (204, [0xb4, 0x00, 0x30]), (207, [0x15, 0x04]), (209, [0x5c]), (210, [0x2e]), (211, [0x1d]), (212, [0x7e]), (213, [0x4f]), (214, [0x84, 0x04, 0x01]), (217, [0xa7, 0xff, 0xe0]), (220, [0xb1])] := pf_ok prog_3_method_6_code _ 202 (by decide +kernel)
noncomputable def d_X1_weigh_202 := gq_0 db00a_31 eb_39
noncomputable def d_X1_weigh_203 := gq_1 db00a_31 eb_0
noncomputable def d_X1_weigh_204 := gq_2 db00a_31 eb_129
noncomputable def d_X1_weigh_207 := gq_3 db00a_31 eb_77
noncomputable def d_X1_weigh_209 := gq_4 db00a_31 eb_145
noncomputable def d_X1_weigh_210 := gq_5 db00a_31 eb_38
noncomputable def d_X1_weigh_211 := gq_6 db00a_31 eb_30
noncomputable def d_X1_weigh_212 := gq_7 db00a_31 eb_56
noncomputable def d_X1_weigh_213 := gq_8 db00a_31 eb_39
noncomputable def d_X1_weigh_214 := gq_9 db00a_31 eb_146
noncomputable def d_X1_weigh_217 := gq_10 db00a_31 eb_147
noncomputable def d_X1_weigh_220 := gq_11 db00a_31 eb_8
theorem db00a_32 : Pf_ prog_3_method_7_code [(0, [0x03]), (1, [0x3d]), (2, [0x03]), (3, [0x3e]), (4, [0x1d]), (5, [0x10, 0x10]), (7, [0xa2, 0x00, 0x23]), (10, [0x2a]), (11, [0xb4, 0x00, 0x21]), (14, [0x1d]), (15, [0x2e]), (16, [0x02]), (17, [0x9f, 0x00, 0x0d]), (20, [0x2a]), (21, [0xb4, 0x00, 0x21]), (24, [0x1d]), (25, [0x2e]), (26, [0x1b]), (27, [0xa4, 0x00, 0x09]), (30, [0x1c]), (31, [0x04]), (32, [0x1d]), (33, [0x78]), (34, [0x80])] := pf_ok prog_3_method_7_code _ 0 (by decide +kernel)
noncomputable def d_X1_stillHeard_0 := gq_0 db00a_32 eb_22
noncomputable def d_X1_stillHeard_1 := gq_1 db00a_32 eb_28
noncomputable def d_X1_stillHeard_2 := gq_2 db00a_32 eb_22
noncomputable def d_X1_stillHeard_3 := gq_3 db00a_32 eb_29
noncomputable def d_X1_stillHeard_4 := gq_4 db00a_32 eb_30
noncomputable def d_X1_stillHeard_5 := gq_5 db00a_32 eb_100
noncomputable def d_X1_stillHeard_7 := gq_6 db00a_32 eb_148
noncomputable def d_X1_stillHeard_10 := gq_7 db00a_32 eb_0
noncomputable def d_X1_stillHeard_11 := gq_8 db00a_32 eb_110
noncomputable def d_X1_stillHeard_14 := gq_9 db00a_32 eb_30
noncomputable def d_X1_stillHeard_15 := gq_10 db00a_32 eb_38
noncomputable def d_X1_stillHeard_16 := gq_11 db00a_32 eb_27
noncomputable def d_X1_stillHeard_17 := gq_12 db00a_32 eb_149
noncomputable def d_X1_stillHeard_20 := gq_13 db00a_32 eb_0
noncomputable def d_X1_stillHeard_21 := gq_14 db00a_32 eb_110
noncomputable def d_X1_stillHeard_24 := gq_15 db00a_32 eb_30
noncomputable def d_X1_stillHeard_25 := gq_16 db00a_32 eb_38
noncomputable def d_X1_stillHeard_26 := gq_17 db00a_32 eb_10
noncomputable def d_X1_stillHeard_27 := gq_18 db00a_32 eb_150
noncomputable def d_X1_stillHeard_30 := gq_19 db00a_32 eb_14
noncomputable def d_X1_stillHeard_31 := gq_20 db00a_32 eb_20
noncomputable def d_X1_stillHeard_32 := gq_21 db00a_32 eb_30
noncomputable def d_X1_stillHeard_33 := gq_22 db00a_32 eb_12
noncomputable def d_X1_stillHeard_34 := gq_23 db00a_32 eb_13
theorem db00a_33 : Pf_ prog_3_method_7_code [(35, [0x3d]), (36, [0x84, 0x03, 0x01]), (39, [0xa7, 0xff, 0xdd]), (42, [0x1c]), (43, [0xac])] := pf_ok prog_3_method_7_code _ 35 (by decide +kernel)
noncomputable def d_X1_stillHeard_35 := gq_0 db00a_33 eb_28
noncomputable def d_X1_stillHeard_36 := gq_1 db00a_33 eb_43
noncomputable def d_X1_stillHeard_39 := gq_2 db00a_33 eb_151
noncomputable def d_X1_stillHeard_42 := gq_3 db00a_33 eb_14
noncomputable def d_X1_stillHeard_43 := gq_4 db00a_33 eb_16
theorem db00a_34 : Pf_ prog_3_method_8_code [(0, [0x1b]), (1, [0x03]), (2, [0x10, 0x07]), (4, [0xb8, 0x00, 0x47]), (7, [0x9a, 0x00, 0x05]), (10, [0x02]), (11, [0xac]), (12, [0x2a]), (13, [0xb4, 0x00, 0x2d]), (16, [0x1b]), (17, [0x2e]), (18, [0xb8, 0x00, 0x4f]), (21, [0x3d]), (22, [0x2a]), (23, [0xb4, 0x00, 0x30]), (26, [0x1b]), (27, [0x2e]), (28, [0xb8, 0x00, 0x4f]), (31, [0x3e]), (32, [0x1c]), (33, [0x9e, 0x00, 0x09]), (36, [0x1d]), (37, [0x9e, 0x00, 0x05]), (40, [0x06])] := pf_ok prog_3_method_8_code _ 0 (by decide +kernel)
noncomputable def d_X1_verdictOn_0 := gq_0 db00a_34 eb_10
noncomputable def d_X1_verdictOn_1 := gq_1 db00a_34 eb_22
noncomputable def d_X1_verdictOn_2 := gq_2 db00a_34 eb_133
noncomputable def d_X1_verdictOn_4 := gq_3 db00a_34 eb_119
noncomputable def d_X1_verdictOn_7 := gq_4 db00a_34 eb_152
noncomputable def d_X1_verdictOn_10 := gq_5 db00a_34 eb_27
noncomputable def d_X1_verdictOn_11 := gq_6 db00a_34 eb_16
noncomputable def d_X1_verdictOn_12 := gq_7 db00a_34 eb_0
noncomputable def d_X1_verdictOn_13 := gq_8 db00a_34 eb_128
noncomputable def d_X1_verdictOn_16 := gq_9 db00a_34 eb_10
noncomputable def d_X1_verdictOn_17 := gq_10 db00a_34 eb_38
noncomputable def d_X1_verdictOn_18 := gq_11 db00a_34 eb_153
noncomputable def d_X1_verdictOn_21 := gq_12 db00a_34 eb_28
noncomputable def d_X1_verdictOn_22 := gq_13 db00a_34 eb_0
noncomputable def d_X1_verdictOn_23 := gq_14 db00a_34 eb_129
noncomputable def d_X1_verdictOn_26 := gq_15 db00a_34 eb_10
noncomputable def d_X1_verdictOn_27 := gq_16 db00a_34 eb_38
noncomputable def d_X1_verdictOn_28 := gq_17 db00a_34 eb_153
noncomputable def d_X1_verdictOn_31 := gq_18 db00a_34 eb_29
noncomputable def d_X1_verdictOn_32 := gq_19 db00a_34 eb_14
noncomputable def d_X1_verdictOn_33 := gq_20 db00a_34 eb_154
noncomputable def d_X1_verdictOn_36 := gq_21 db00a_34 eb_30
noncomputable def d_X1_verdictOn_37 := gq_22 db00a_34 eb_155
noncomputable def d_X1_verdictOn_40 := gq_23 db00a_34 eb_55
theorem db00a_35 : Pf_ prog_3_method_8_code [(41, [0xac]), (42, [0x1c]), (43, [0x2a]), (44, [0xb4, 0x00, 0x18]), (47, [0x1b]), (48, [0x2e]), (49, [0xa1, 0x00, 0x07]), (52, [0x04]), (53, [0xa7, 0x00, 0x12]), (56, [0x1d]), (57, [0x2a]), (58, [0xb4, 0x00, 0x18]), (61, [0x1b]), (62, [0x2e]), (63, [0xa1, 0x00, 0x07]), (66, [0x05]), (67, [0xa7, 0x00, 0x04]), (70, [0x03]), (71, [0xac])] := pf_ok prog_3_method_8_code _ 41 (by decide +kernel)
noncomputable def d_X1_verdictOn_41 := gq_0 db00a_35 eb_16
noncomputable def d_X1_verdictOn_42 := gq_1 db00a_35 eb_14
noncomputable def d_X1_verdictOn_43 := gq_2 db00a_35 eb_0
noncomputable def d_X1_verdictOn_44 := gq_3 db00a_35 eb_109
noncomputable def d_X1_verdictOn_47 := gq_4 db00a_35 eb_10
noncomputable def d_X1_verdictOn_48 := gq_5 db00a_35 eb_38
noncomputable def d_X1_verdictOn_49 := gq_6 db00a_35 eb_156
noncomputable def d_X1_verdictOn_52 := gq_7 db00a_35 eb_20
noncomputable def d_X1_verdictOn_53 := gq_8 db00a_35 eb_157
noncomputable def d_X1_verdictOn_56 := gq_9 db00a_35 eb_30
noncomputable def d_X1_verdictOn_57 := gq_10 db00a_35 eb_0
noncomputable def d_X1_verdictOn_58 := gq_11 db00a_35 eb_109
noncomputable def d_X1_verdictOn_61 := gq_12 db00a_35 eb_10
noncomputable def d_X1_verdictOn_62 := gq_13 db00a_35 eb_38
noncomputable def d_X1_verdictOn_63 := gq_14 db00a_35 eb_156
noncomputable def d_X1_verdictOn_66 := gq_15 db00a_35 eb_11
noncomputable def d_X1_verdictOn_67 := gq_16 db00a_35 eb_21
noncomputable def d_X1_verdictOn_70 := gq_17 db00a_35 eb_22
noncomputable def d_X1_verdictOn_71 := gq_18 db00a_35 eb_16
theorem db00a_36 : Pf_ prog_3_method_9_code [(0, [0x03]), (1, [0x3d]), (2, [0x03]), (3, [0x3e]), (4, [0x1d]), (5, [0x10, 0x08]), (7, [0xa2, 0x00, 0x18]), (10, [0x2a]), (11, [0x1d]), (12, [0xb6, 0x00, 0x54]), (15, [0x1b]), (16, [0xa0, 0x00, 0x09]), (19, [0x1c]), (20, [0x04]), (21, [0x1d]), (22, [0x78]), (23, [0x80]), (24, [0x3d]), (25, [0x84, 0x03, 0x01]), (28, [0xa7, 0xff, 0xe8]), (31, [0x1c]), (32, [0xac])] := pf_ok prog_3_method_9_code _ 0 (by decide +kernel)
noncomputable def d_X1_factsThatAre_0 := gq_0 db00a_36 eb_22
noncomputable def d_X1_factsThatAre_1 := gq_1 db00a_36 eb_28
noncomputable def d_X1_factsThatAre_2 := gq_2 db00a_36 eb_22
noncomputable def d_X1_factsThatAre_3 := gq_3 db00a_36 eb_29
noncomputable def d_X1_factsThatAre_4 := gq_4 db00a_36 eb_30
noncomputable def d_X1_factsThatAre_5 := gq_5 db00a_36 eb_95
noncomputable def d_X1_factsThatAre_7 := gq_6 db00a_36 eb_158
noncomputable def d_X1_factsThatAre_10 := gq_7 db00a_36 eb_0
noncomputable def d_X1_factsThatAre_11 := gq_8 db00a_36 eb_30
noncomputable def d_X1_factsThatAre_12 := gq_9 db00a_36 eb_159
noncomputable def d_X1_factsThatAre_15 := gq_10 db00a_36 eb_10
noncomputable def d_X1_factsThatAre_16 := gq_11 db00a_36 eb_160
noncomputable def d_X1_factsThatAre_19 := gq_12 db00a_36 eb_14
noncomputable def d_X1_factsThatAre_20 := gq_13 db00a_36 eb_20
noncomputable def d_X1_factsThatAre_21 := gq_14 db00a_36 eb_30
noncomputable def d_X1_factsThatAre_22 := gq_15 db00a_36 eb_12
noncomputable def d_X1_factsThatAre_23 := gq_16 db00a_36 eb_13
noncomputable def d_X1_factsThatAre_24 := gq_17 db00a_36 eb_28
noncomputable def d_X1_factsThatAre_25 := gq_18 db00a_36 eb_43
noncomputable def d_X1_factsThatAre_28 := gq_19 db00a_36 eb_161
noncomputable def d_X1_factsThatAre_31 := gq_20 db00a_36 eb_14
noncomputable def d_X1_factsThatAre_32 := gq_21 db00a_36 eb_16
theorem db00a_37 : Pf_ prog_3_method_10_code [(0, [0x2a]), (1, [0x1b]), (2, [0xb6, 0x00, 0x40]), (5, [0x99, 0x00, 0x25]), (8, [0x2a]), (9, [0xb4, 0x00, 0x0b]), (12, [0x1b]), (13, [0x2e]), (14, [0x03]), (15, [0x2a]), (16, [0xb4, 0x00, 0x15]), (19, [0xbe]), (20, [0x04]), (21, [0x64]), (22, [0xb8, 0x00, 0x47]), (25, [0x99, 0x00, 0x11]), (28, [0x2a]), (29, [0xb4, 0x00, 0x15]), (32, [0x2a]), (33, [0xb4, 0x00, 0x0b]), (36, [0x1b]), (37, [0x2e]), (38, [0x2e]), (39, [0xa7, 0x00, 0x04])] := pf_ok prog_3_method_10_code _ 0 (by decide +kernel)
noncomputable def d_X1_needsOf_0 := gq_0 db00a_37 eb_0
noncomputable def d_X1_needsOf_1 := gq_1 db00a_37 eb_10
noncomputable def d_X1_needsOf_2 := gq_2 db00a_37 eb_112
noncomputable def d_X1_needsOf_5 := gq_3 db00a_37 eb_162
noncomputable def d_X1_needsOf_8 := gq_4 db00a_37 eb_0
noncomputable def d_X1_needsOf_9 := gq_5 db00a_37 eb_33
noncomputable def d_X1_needsOf_12 := gq_6 db00a_37 eb_10
noncomputable def d_X1_needsOf_13 := gq_7 db00a_37 eb_38
noncomputable def d_X1_needsOf_14 := gq_8 db00a_37 eb_22
noncomputable def d_X1_needsOf_15 := gq_9 db00a_37 eb_0
noncomputable def d_X1_needsOf_16 := gq_10 db00a_37 eb_18
noncomputable def d_X1_needsOf_19 := gq_11 db00a_37 eb_53
noncomputable def d_X1_needsOf_20 := gq_12 db00a_37 eb_20
noncomputable def d_X1_needsOf_21 := gq_13 db00a_37 eb_49
noncomputable def d_X1_needsOf_22 := gq_14 db00a_37 eb_119
noncomputable def d_X1_needsOf_25 := gq_15 db00a_37 eb_113
noncomputable def d_X1_needsOf_28 := gq_16 db00a_37 eb_0
noncomputable def d_X1_needsOf_29 := gq_17 db00a_37 eb_18
noncomputable def d_X1_needsOf_32 := gq_18 db00a_37 eb_0
noncomputable def d_X1_needsOf_33 := gq_19 db00a_37 eb_33
noncomputable def d_X1_needsOf_36 := gq_20 db00a_37 eb_10
noncomputable def d_X1_needsOf_37 := gq_21 db00a_37 eb_38
noncomputable def d_X1_needsOf_38 := gq_22 db00a_37 eb_38
noncomputable def d_X1_needsOf_39 := gq_23 db00a_37 eb_21
theorem db00a_38 : Pf_ prog_3_method_10_code [(42, [0x03]), (43, [0xac])] := pf_ok prog_3_method_10_code _ 42 (by decide +kernel)
noncomputable def d_X1_needsOf_42 := gq_0 db00a_38 eb_22
noncomputable def d_X1_needsOf_43 := gq_1 db00a_38 eb_16
theorem db00a_39 : Pf_ prog_3_method_11_code [(0, [0x2a]), (1, [0x1b]), (2, [0xb6, 0x00, 0x57]), (5, [0x2a]), (6, [0x04]), (7, [0xb6, 0x00, 0x5a]), (10, [0x02]), (11, [0x82]), (12, [0x7e]), (13, [0xac])] := pf_ok prog_3_method_11_code _ 0 (by decide +kernel)
noncomputable def d_X1_lacks_0 := gq_0 db00a_39 eb_0
noncomputable def d_X1_lacks_1 := gq_1 db00a_39 eb_10
noncomputable def d_X1_lacks_2 := gq_2 db00a_39 eb_163
noncomputable def d_X1_lacks_5 := gq_3 db00a_39 eb_0
noncomputable def d_X1_lacks_6 := gq_4 db00a_39 eb_20
noncomputable def d_X1_lacks_7 := gq_5 db00a_39 eb_164
noncomputable def d_X1_lacks_10 := gq_6 db00a_39 eb_27
noncomputable def d_X1_lacks_11 := gq_7 db00a_39 eb_139
noncomputable def d_X1_lacks_12 := gq_8 db00a_39 eb_56
noncomputable def d_X1_lacks_13 := gq_9 db00a_39 eb_16
theorem db00a_40 : Pf_ prog_3_method_12_code [(0, [0x2a]), (1, [0x1b]), (2, [0xb6, 0x00, 0x57]), (5, [0x2a]), (6, [0x05]), (7, [0xb6, 0x00, 0x5a]), (10, [0x7e]), (11, [0x99, 0x00, 0x05]), (14, [0x05]), (15, [0xac]), (16, [0x2a]), (17, [0x1b]), (18, [0xb6, 0x00, 0x5d]), (21, [0x9a, 0x00, 0x07]), (24, [0x04]), (25, [0xa7, 0x00, 0x04]), (28, [0x03]), (29, [0xac])] := pf_ok prog_3_method_12_code _ 0 (by decide +kernel)
noncomputable def d_X1_standing_0 := gq_0 db00a_40 eb_0
noncomputable def d_X1_standing_1 := gq_1 db00a_40 eb_10
noncomputable def d_X1_standing_2 := gq_2 db00a_40 eb_163
noncomputable def d_X1_standing_5 := gq_3 db00a_40 eb_0
noncomputable def d_X1_standing_6 := gq_4 db00a_40 eb_11
noncomputable def d_X1_standing_7 := gq_5 db00a_40 eb_164
noncomputable def d_X1_standing_10 := gq_6 db00a_40 eb_56
noncomputable def d_X1_standing_11 := gq_7 db00a_40 eb_26
noncomputable def d_X1_standing_14 := gq_8 db00a_40 eb_11
noncomputable def d_X1_standing_15 := gq_9 db00a_40 eb_16
noncomputable def d_X1_standing_16 := gq_10 db00a_40 eb_0
noncomputable def d_X1_standing_17 := gq_11 db00a_40 eb_10
noncomputable def d_X1_standing_18 := gq_12 db00a_40 eb_165
noncomputable def d_X1_standing_21 := gq_13 db00a_40 eb_166
noncomputable def d_X1_standing_24 := gq_14 db00a_40 eb_20
noncomputable def d_X1_standing_25 := gq_15 db00a_40 eb_21
noncomputable def d_X1_standing_28 := gq_16 db00a_40 eb_22
noncomputable def d_X1_standing_29 := gq_17 db00a_40 eb_16
theorem d_X1_tell_17 : decode prog_3_method_13_code 17 = .ok (.tableswitch 70 0 4 #[35, 41, 47, 54, 61], 35) := by decide +kernel
theorem db00a_41 : Pf_ prog_3_method_13_code [(0, [0x2a]), (1, [0x1b]), (2, [0xb6, 0x00, 0x40]), (5, [0x9a, 0x00, 0x05]), (8, [0x02]), (9, [0xac]), (10, [0x2a]), (11, [0x1b]), (12, [0x1c]), (13, [0xb6, 0x00, 0x60]), (16, [0x1d]), (52, [0x2a]), (53, [0x1b]), (54, [0xb6, 0x00, 0x64]), (57, [0xac]), (58, [0x2a]), (59, [0x1b]), (60, [0xb6, 0x00, 0x5d]), (63, [0xac]), (64, [0x2a]), (65, [0xb4, 0x00, 0x0b]), (68, [0x1b]), (69, [0x2e]), (70, [0xac])] := pf_ok prog_3_method_13_code _ 0 (by decide +kernel)
noncomputable def d_X1_tell_0 := gq_0 db00a_41 eb_0
noncomputable def d_X1_tell_1 := gq_1 db00a_41 eb_10
noncomputable def d_X1_tell_2 := gq_2 db00a_41 eb_112
noncomputable def d_X1_tell_5 := gq_3 db00a_41 eb_152
noncomputable def d_X1_tell_8 := gq_4 db00a_41 eb_27
noncomputable def d_X1_tell_9 := gq_5 db00a_41 eb_16
noncomputable def d_X1_tell_10 := gq_6 db00a_41 eb_0
noncomputable def d_X1_tell_11 := gq_7 db00a_41 eb_10
noncomputable def d_X1_tell_12 := gq_8 db00a_41 eb_14
noncomputable def d_X1_tell_13 := gq_9 db00a_41 eb_167
noncomputable def d_X1_tell_16 := gq_10 db00a_41 eb_30
noncomputable def d_X1_tell_52 := gq_11 db00a_41 eb_0
noncomputable def d_X1_tell_53 := gq_12 db00a_41 eb_10
noncomputable def d_X1_tell_54 := gq_13 db00a_41 eb_168
noncomputable def d_X1_tell_57 := gq_14 db00a_41 eb_16
noncomputable def d_X1_tell_58 := gq_15 db00a_41 eb_0
noncomputable def d_X1_tell_59 := gq_16 db00a_41 eb_10
noncomputable def d_X1_tell_60 := gq_17 db00a_41 eb_165
noncomputable def d_X1_tell_63 := gq_18 db00a_41 eb_16
noncomputable def d_X1_tell_64 := gq_19 db00a_41 eb_0
noncomputable def d_X1_tell_65 := gq_20 db00a_41 eb_33
noncomputable def d_X1_tell_68 := gq_21 db00a_41 eb_10
noncomputable def d_X1_tell_69 := gq_22 db00a_41 eb_38
noncomputable def d_X1_tell_70 := gq_23 db00a_41 eb_16
theorem db00a_42 : Pf_ prog_3_method_13_code [(71, [0x2a]), (72, [0xb4, 0x00, 0x0f]), (75, [0x1b]), (76, [0x2e]), (77, [0xac]), (78, [0x2a]), (79, [0x1b]), (80, [0x1c]), (81, [0x03]), (82, [0x03]), (83, [0xb6, 0x00, 0x67]), (86, [0xac]), (87, [0x02]), (88, [0xac])] := pf_ok prog_3_method_13_code _ 71 (by decide +kernel)
noncomputable def d_X1_tell_71 := gq_0 db00a_42 eb_0
noncomputable def d_X1_tell_72 := gq_1 db00a_42 eb_45
noncomputable def d_X1_tell_75 := gq_2 db00a_42 eb_10
noncomputable def d_X1_tell_76 := gq_3 db00a_42 eb_38
noncomputable def d_X1_tell_77 := gq_4 db00a_42 eb_16
noncomputable def d_X1_tell_78 := gq_5 db00a_42 eb_0
noncomputable def d_X1_tell_79 := gq_6 db00a_42 eb_10
noncomputable def d_X1_tell_80 := gq_7 db00a_42 eb_14
noncomputable def d_X1_tell_81 := gq_8 db00a_42 eb_22
noncomputable def d_X1_tell_82 := gq_9 db00a_42 eb_22
noncomputable def d_X1_tell_83 := gq_10 db00a_42 eb_169
noncomputable def d_X1_tell_86 := gq_11 db00a_42 eb_16
noncomputable def d_X1_tell_87 := gq_12 db00a_42 eb_27
noncomputable def d_X1_tell_88 := gq_13 db00a_42 eb_16
theorem db00a_43 : Pf_ prog_3_method_14_code [(0, [0x1b]), (1, [0x03]), (2, [0x10, 0x0f]), (4, [0xb8, 0x00, 0x47]), (7, [0x99, 0x00, 0x0d]), (10, [0x2a]), (11, [0xb4, 0x00, 0x21]), (14, [0x1b]), (15, [0x2e]), (16, [0x02]), (17, [0x9f, 0x00, 0x05]), (20, [0x02]), (21, [0xac]), (22, [0x03]), (23, [0x3e]), (24, [0x1d]), (25, [0x2a]), (26, [0xb4, 0x00, 0x3c]), (29, [0xa2, 0x00, 0x15]), (32, [0x2a]), (33, [0xb4, 0x00, 0x33]), (36, [0x1d]), (37, [0x2a]), (38, [0x1d])] := pf_ok prog_3_method_14_code _ 0 (by decide +kernel)
noncomputable def d_X1_strike_0 := gq_0 db00a_43 eb_10
noncomputable def d_X1_strike_1 := gq_1 db00a_43 eb_22
noncomputable def d_X1_strike_2 := gq_2 db00a_43 eb_58
noncomputable def d_X1_strike_4 := gq_3 db00a_43 eb_119
noncomputable def d_X1_strike_7 := gq_4 db00a_43 eb_120
noncomputable def d_X1_strike_10 := gq_5 db00a_43 eb_0
noncomputable def d_X1_strike_11 := gq_6 db00a_43 eb_110
noncomputable def d_X1_strike_14 := gq_7 db00a_43 eb_10
noncomputable def d_X1_strike_15 := gq_8 db00a_43 eb_38
noncomputable def d_X1_strike_16 := gq_9 db00a_43 eb_27
noncomputable def d_X1_strike_17 := gq_10 db00a_43 eb_121
noncomputable def d_X1_strike_20 := gq_11 db00a_43 eb_27
noncomputable def d_X1_strike_21 := gq_12 db00a_43 eb_16
noncomputable def d_X1_strike_22 := gq_13 db00a_43 eb_22
noncomputable def d_X1_strike_23 := gq_14 db00a_43 eb_29
noncomputable def d_X1_strike_24 := gq_15 db00a_43 eb_30
noncomputable def d_X1_strike_25 := gq_16 db00a_43 eb_0
noncomputable def d_X1_strike_26 := gq_17 db00a_43 eb_111
noncomputable def d_X1_strike_29 := gq_18 db00a_43 eb_170
noncomputable def d_X1_strike_32 := gq_19 db00a_43 eb_0
noncomputable def d_X1_strike_33 := gq_20 db00a_43 eb_171
noncomputable def d_X1_strike_36 := gq_21 db00a_43 eb_30
noncomputable def d_X1_strike_37 := gq_22 db00a_43 eb_0
noncomputable def d_X1_strike_38 := gq_23 db00a_43 eb_30
theorem db00a_44 : Pf_ prog_3_method_14_code [(39, [0x1c]), (40, [0xb6, 0x00, 0x6b]), (43, [0x4f]), (44, [0x84, 0x03, 0x01]), (47, [0xa7, 0xff, 0xe9]), (50, [0x2a]), (51, [0xb4, 0x00, 0x21]), (54, [0x1b]), (55, [0x1c]), (56, [0x4f]), (57, [0x03]), (58, [0x3e]), (59, [0x03]), (60, [0x36, 0x04]), (62, [0x15, 0x04]), (64, [0x2a]), (65, [0xb4, 0x00, 0x3c]), (68, [0xa2, 0x00, 0x1d]), (71, [0x2a]), (72, [0xb4, 0x00, 0x33]), (75, [0x15, 0x04]), (77, [0x2e]), (78, [0x2a]), (79, [0x15, 0x04])] := pf_ok prog_3_method_14_code _ 39 (by decide +kernel)
noncomputable def d_X1_strike_39 := gq_0 db00a_44 eb_14
noncomputable def d_X1_strike_40 := gq_1 db00a_44 eb_172
noncomputable def d_X1_strike_43 := gq_2 db00a_44 eb_39
noncomputable def d_X1_strike_44 := gq_3 db00a_44 eb_43
noncomputable def d_X1_strike_47 := gq_4 db00a_44 eb_173
noncomputable def d_X1_strike_50 := gq_5 db00a_44 eb_0
noncomputable def d_X1_strike_51 := gq_6 db00a_44 eb_110
noncomputable def d_X1_strike_54 := gq_7 db00a_44 eb_10
noncomputable def d_X1_strike_55 := gq_8 db00a_44 eb_14
noncomputable def d_X1_strike_56 := gq_9 db00a_44 eb_39
noncomputable def d_X1_strike_57 := gq_10 db00a_44 eb_22
noncomputable def d_X1_strike_58 := gq_11 db00a_44 eb_29
noncomputable def d_X1_strike_59 := gq_12 db00a_44 eb_22
noncomputable def d_X1_strike_60 := gq_13 db00a_44 eb_134
noncomputable def d_X1_strike_62 := gq_14 db00a_44 eb_77
noncomputable def d_X1_strike_64 := gq_15 db00a_44 eb_0
noncomputable def d_X1_strike_65 := gq_16 db00a_44 eb_111
noncomputable def d_X1_strike_68 := gq_17 db00a_44 eb_174
noncomputable def d_X1_strike_71 := gq_18 db00a_44 eb_0
noncomputable def d_X1_strike_72 := gq_19 db00a_44 eb_171
noncomputable def d_X1_strike_75 := gq_20 db00a_44 eb_77
noncomputable def d_X1_strike_77 := gq_21 db00a_44 eb_38
noncomputable def d_X1_strike_78 := gq_22 db00a_44 eb_0
noncomputable def d_X1_strike_79 := gq_23 db00a_44 eb_77
theorem db00a_45 : Pf_ prog_3_method_14_code [(81, [0x1c]), (82, [0xb6, 0x00, 0x6b]), (85, [0x9f, 0x00, 0x06]), (88, [0x84, 0x03, 0x01]), (91, [0x84, 0x04, 0x01]), (94, [0xa7, 0xff, 0xe0]), (97, [0x1d]), (98, [0xac])] := pf_ok prog_3_method_14_code _ 81 (by decide +kernel)
noncomputable def d_X1_strike_81 := gq_0 db00a_45 eb_14
noncomputable def d_X1_strike_82 := gq_1 db00a_45 eb_172
noncomputable def d_X1_strike_85 := gq_2 db00a_45 eb_175
noncomputable def d_X1_strike_88 := gq_3 db00a_45 eb_43
noncomputable def d_X1_strike_91 := gq_4 db00a_45 eb_146
noncomputable def d_X1_strike_94 := gq_5 db00a_45 eb_147
noncomputable def d_X1_strike_97 := gq_6 db00a_45 eb_30
noncomputable def d_X1_strike_98 := gq_7 db00a_45 eb_16
theorem db00a_46 : Pf_ prog_3_method_15_code [(0, [0x2a]), (1, [0x1b]), (2, [0x1c]), (3, [0xb6, 0x00, 0x60]), (6, [0x2a]), (7, [0x1b]), (8, [0xb6, 0x00, 0x64]), (11, [0x10, 0x08]), (13, [0x78]), (14, [0x2a]), (15, [0x1b]), (16, [0xb6, 0x00, 0x5d]), (19, [0x80]), (20, [0xac])] := pf_ok prog_3_method_15_code _ 0 (by decide +kernel)
noncomputable def d_X1_wholeStanding_0 := gq_0 db00a_46 eb_0
noncomputable def d_X1_wholeStanding_1 := gq_1 db00a_46 eb_10
noncomputable def d_X1_wholeStanding_2 := gq_2 db00a_46 eb_14
noncomputable def d_X1_wholeStanding_3 := gq_3 db00a_46 eb_167
noncomputable def d_X1_wholeStanding_6 := gq_4 db00a_46 eb_0
noncomputable def d_X1_wholeStanding_7 := gq_5 db00a_46 eb_10
noncomputable def d_X1_wholeStanding_8 := gq_6 db00a_46 eb_168
noncomputable def d_X1_wholeStanding_11 := gq_7 db00a_46 eb_95
noncomputable def d_X1_wholeStanding_13 := gq_8 db00a_46 eb_12
noncomputable def d_X1_wholeStanding_14 := gq_9 db00a_46 eb_0
noncomputable def d_X1_wholeStanding_15 := gq_10 db00a_46 eb_10
noncomputable def d_X1_wholeStanding_16 := gq_11 db00a_46 eb_165
noncomputable def d_X1_wholeStanding_19 := gq_12 db00a_46 eb_13
noncomputable def d_X1_wholeStanding_20 := gq_13 db00a_46 eb_16
theorem db00a_47 : Pf_ prog_3_method_16_code [(0, [0x2a]), (1, [0x1b]), (2, [0xb6, 0x00, 0x40]), (5, [0x99, 0x00, 0x0e]), (8, [0x2a]), (9, [0xb4, 0x00, 0x12]), (12, [0x1b]), (13, [0x2e]), (14, [0x10, 0x06]), (16, [0xa1, 0x00, 0x05]), (19, [0x02]), (20, [0xac]), (21, [0x1b]), (22, [0x10, 0x06]), (24, [0x68]), (25, [0x2a]), (26, [0xb4, 0x00, 0x12]), (29, [0x1b]), (30, [0x2e]), (31, [0x60]), (32, [0x36, 0x05]), (34, [0x2a]), (35, [0xb4, 0x00, 0x24]), (38, [0x15, 0x05])] := pf_ok prog_3_method_16_code _ 0 (by decide +kernel)
noncomputable def d_X1_addStory_0 := gq_0 db00a_47 eb_0
noncomputable def d_X1_addStory_1 := gq_1 db00a_47 eb_10
noncomputable def d_X1_addStory_2 := gq_2 db00a_47 eb_112
noncomputable def d_X1_addStory_5 := gq_3 db00a_47 eb_176
noncomputable def d_X1_addStory_8 := gq_4 db00a_47 eb_0
noncomputable def d_X1_addStory_9 := gq_5 db00a_47 eb_46
noncomputable def d_X1_addStory_12 := gq_6 db00a_47 eb_10
noncomputable def d_X1_addStory_13 := gq_7 db00a_47 eb_38
noncomputable def d_X1_addStory_14 := gq_8 db00a_47 eb_15
noncomputable def d_X1_addStory_16 := gq_9 db00a_47 eb_115
noncomputable def d_X1_addStory_19 := gq_10 db00a_47 eb_27
noncomputable def d_X1_addStory_20 := gq_11 db00a_47 eb_16
noncomputable def d_X1_addStory_21 := gq_12 db00a_47 eb_10
noncomputable def d_X1_addStory_22 := gq_13 db00a_47 eb_15
noncomputable def d_X1_addStory_24 := gq_14 db00a_47 eb_35
noncomputable def d_X1_addStory_25 := gq_15 db00a_47 eb_0
noncomputable def d_X1_addStory_26 := gq_16 db00a_47 eb_46
noncomputable def d_X1_addStory_29 := gq_17 db00a_47 eb_10
noncomputable def d_X1_addStory_30 := gq_18 db00a_47 eb_38
noncomputable def d_X1_addStory_31 := gq_19 db00a_47 eb_36
noncomputable def d_X1_addStory_32 := gq_20 db00a_47 eb_135
noncomputable def d_X1_addStory_34 := gq_21 db00a_47 eb_0
noncomputable def d_X1_addStory_35 := gq_22 db00a_47 eb_177
noncomputable def d_X1_addStory_38 := gq_23 db00a_47 eb_126
theorem db00a_48 : Pf_ prog_3_method_16_code [(40, [0x1c]), (41, [0x4f]), (42, [0x2a]), (43, [0xb4, 0x00, 0x27]), (46, [0x15, 0x05]), (48, [0x1d]), (49, [0x4f]), (50, [0x2a]), (51, [0xb4, 0x00, 0x2a]), (54, [0x15, 0x05]), (56, [0x15, 0x04]), (58, [0x4f]), (59, [0x2a]), (60, [0xb4, 0x00, 0x12]), (63, [0x1b]), (64, [0x5c]), (65, [0x2e]), (66, [0x04]), (67, [0x60]), (68, [0x4f]), (69, [0x2a]), (70, [0xb4, 0x00, 0x12]), (73, [0x1b]), (74, [0x2e])] := pf_ok prog_3_method_16_code _ 40 (by decide +kernel)
noncomputable def d_X1_addStory_40 := gq_0 db00a_48 eb_14
noncomputable def d_X1_addStory_41 := gq_1 db00a_48 eb_39
noncomputable def d_X1_addStory_42 := gq_2 db00a_48 eb_0
noncomputable def d_X1_addStory_43 := gq_3 db00a_48 eb_178
noncomputable def d_X1_addStory_46 := gq_4 db00a_48 eb_126
noncomputable def d_X1_addStory_48 := gq_5 db00a_48 eb_30
noncomputable def d_X1_addStory_49 := gq_6 db00a_48 eb_39
noncomputable def d_X1_addStory_50 := gq_7 db00a_48 eb_0
noncomputable def d_X1_addStory_51 := gq_8 db00a_48 eb_179
noncomputable def d_X1_addStory_54 := gq_9 db00a_48 eb_126
noncomputable def d_X1_addStory_56 := gq_10 db00a_48 eb_77
noncomputable def d_X1_addStory_58 := gq_11 db00a_48 eb_39
noncomputable def d_X1_addStory_59 := gq_12 db00a_48 eb_0
noncomputable def d_X1_addStory_60 := gq_13 db00a_48 eb_46
noncomputable def d_X1_addStory_63 := gq_14 db00a_48 eb_10
noncomputable def d_X1_addStory_64 := gq_15 db00a_48 eb_145
noncomputable def d_X1_addStory_65 := gq_16 db00a_48 eb_38
noncomputable def d_X1_addStory_66 := gq_17 db00a_48 eb_20
noncomputable def d_X1_addStory_67 := gq_18 db00a_48 eb_36
noncomputable def d_X1_addStory_68 := gq_19 db00a_48 eb_39
noncomputable def d_X1_addStory_69 := gq_20 db00a_48 eb_0
noncomputable def d_X1_addStory_70 := gq_21 db00a_48 eb_46
noncomputable def d_X1_addStory_73 := gq_22 db00a_48 eb_10
noncomputable def d_X1_addStory_74 := gq_23 db00a_48 eb_38
theorem db00a_49 : Pf_ prog_3_method_16_code [(75, [0x04]), (76, [0x64]), (77, [0xac])] := pf_ok prog_3_method_16_code _ 75 (by decide +kernel)
noncomputable def d_X1_addStory_75 := gq_0 db00a_49 eb_20
noncomputable def d_X1_addStory_76 := gq_1 db00a_49 eb_49
noncomputable def d_X1_addStory_77 := gq_2 db00a_49 eb_16
theorem db00a_50 : Pf_ prog_3_method_17_code [(0, [0x2a]), (1, [0x05]), (2, [0xb6, 0x00, 0x5a]), (5, [0x36, 0x05]), (7, [0x2a]), (8, [0x04]), (9, [0xb6, 0x00, 0x5a]), (12, [0x36, 0x06]), (14, [0x03]), (15, [0x36, 0x07]), (17, [0x03]), (18, [0x36, 0x08]), (20, [0x15, 0x08]), (22, [0x2a]), (23, [0xb4, 0x00, 0x12]), (26, [0x1b]), (27, [0x2e]), (28, [0xa2, 0x00, 0x66]), (31, [0x1b]), (32, [0x10, 0x06]), (34, [0x68]), (35, [0x15, 0x08]), (37, [0x60]), (38, [0x36, 0x09])] := pf_ok prog_3_method_17_code _ 0 (by decide +kernel)
noncomputable def d_X1_countStories_0 := gq_0 db00a_50 eb_0
noncomputable def d_X1_countStories_1 := gq_1 db00a_50 eb_11
noncomputable def d_X1_countStories_2 := gq_2 db00a_50 eb_164
noncomputable def d_X1_countStories_5 := gq_3 db00a_50 eb_135
noncomputable def d_X1_countStories_7 := gq_4 db00a_50 eb_0
noncomputable def d_X1_countStories_8 := gq_5 db00a_50 eb_20
noncomputable def d_X1_countStories_9 := gq_6 db00a_50 eb_164
noncomputable def d_X1_countStories_12 := gq_7 db00a_50 eb_59
noncomputable def d_X1_countStories_14 := gq_8 db00a_50 eb_22
noncomputable def d_X1_countStories_15 := gq_9 db00a_50 eb_60
noncomputable def d_X1_countStories_17 := gq_10 db00a_50 eb_22
noncomputable def d_X1_countStories_18 := gq_11 db00a_50 eb_62
noncomputable def d_X1_countStories_20 := gq_12 db00a_50 eb_65
noncomputable def d_X1_countStories_22 := gq_13 db00a_50 eb_0
noncomputable def d_X1_countStories_23 := gq_14 db00a_50 eb_46
noncomputable def d_X1_countStories_26 := gq_15 db00a_50 eb_10
noncomputable def d_X1_countStories_27 := gq_16 db00a_50 eb_38
noncomputable def d_X1_countStories_28 := gq_17 db00a_50 eb_180
noncomputable def d_X1_countStories_31 := gq_18 db00a_50 eb_10
noncomputable def d_X1_countStories_32 := gq_19 db00a_50 eb_15
noncomputable def d_X1_countStories_34 := gq_20 db00a_50 eb_35
noncomputable def d_X1_countStories_35 := gq_21 db00a_50 eb_65
noncomputable def d_X1_countStories_37 := gq_22 db00a_50 eb_36
noncomputable def d_X1_countStories_38 := gq_23 db00a_50 eb_63
theorem db00a_51 : Pf_ prog_3_method_17_code [(40, [0x2a]), (41, [0xb4, 0x00, 0x24]), (44, [0x15, 0x09]), (46, [0x2e]), (47, [0x15, 0x05]), (49, [0x7e]), (50, [0x9a, 0x00, 0x14]), (53, [0x2a]), (54, [0xb4, 0x00, 0x27]), (57, [0x15, 0x09]), (59, [0x2e]), (60, [0x15, 0x06]), (62, [0x7e]), (63, [0x9a, 0x00, 0x07]), (66, [0x04]), (67, [0xa7, 0x00, 0x04]), (70, [0x03]), (71, [0x36, 0x0a]), (73, [0x15, 0x04]), (75, [0x99, 0x00, 0x0d]), (78, [0x2a]), (79, [0xb4, 0x00, 0x24]), (82, [0x15, 0x09]), (84, [0x2e])] := pf_ok prog_3_method_17_code _ 40 (by decide +kernel)
noncomputable def d_X1_countStories_40 := gq_0 db00a_51 eb_0
noncomputable def d_X1_countStories_41 := gq_1 db00a_51 eb_177
noncomputable def d_X1_countStories_44 := gq_2 db00a_51 eb_64
noncomputable def d_X1_countStories_46 := gq_3 db00a_51 eb_38
noncomputable def d_X1_countStories_47 := gq_4 db00a_51 eb_126
noncomputable def d_X1_countStories_49 := gq_5 db00a_51 eb_56
noncomputable def d_X1_countStories_50 := gq_6 db00a_51 eb_181
noncomputable def d_X1_countStories_53 := gq_7 db00a_51 eb_0
noncomputable def d_X1_countStories_54 := gq_8 db00a_51 eb_178
noncomputable def d_X1_countStories_57 := gq_9 db00a_51 eb_64
noncomputable def d_X1_countStories_59 := gq_10 db00a_51 eb_38
noncomputable def d_X1_countStories_60 := gq_11 db00a_51 eb_76
noncomputable def d_X1_countStories_62 := gq_12 db00a_51 eb_56
noncomputable def d_X1_countStories_63 := gq_13 db00a_51 eb_166
noncomputable def d_X1_countStories_66 := gq_14 db00a_51 eb_20
noncomputable def d_X1_countStories_67 := gq_15 db00a_51 eb_21
noncomputable def d_X1_countStories_70 := gq_16 db00a_51 eb_22
noncomputable def d_X1_countStories_71 := gq_17 db00a_51 eb_68
noncomputable def d_X1_countStories_73 := gq_18 db00a_51 eb_77
noncomputable def d_X1_countStories_75 := gq_19 db00a_51 eb_120
noncomputable def d_X1_countStories_78 := gq_20 db00a_51 eb_0
noncomputable def d_X1_countStories_79 := gq_21 db00a_51 eb_177
noncomputable def d_X1_countStories_82 := gq_22 db00a_51 eb_64
noncomputable def d_X1_countStories_84 := gq_23 db00a_51 eb_38
theorem db00a_52 : Pf_ prog_3_method_17_code [(85, [0xa7, 0x00, 0x0a]), (88, [0x2a]), (89, [0xb4, 0x00, 0x27]), (92, [0x15, 0x09]), (94, [0x2e]), (95, [0x36, 0x0b]), (97, [0x2a]), (98, [0xb4, 0x00, 0x2a]), (101, [0x15, 0x09]), (103, [0x2e]), (104, [0x1c]), (105, [0xa3, 0x00, 0x13]), (108, [0x15, 0x0a]), (110, [0x99, 0x00, 0x0e]), (113, [0x15, 0x0b]), (115, [0x1d]), (116, [0x7e]), (117, [0x1d]), (118, [0xa0, 0x00, 0x06]), (121, [0x84, 0x07, 0x01]), (124, [0x84, 0x08, 0x01]), (127, [0xa7, 0xff, 0x95]), (130, [0x15, 0x07]), (132, [0xac])] := pf_ok prog_3_method_17_code _ 85 (by decide +kernel)
noncomputable def d_X1_countStories_85 := gq_0 db00a_52 eb_182
noncomputable def d_X1_countStories_88 := gq_1 db00a_52 eb_0
noncomputable def d_X1_countStories_89 := gq_2 db00a_52 eb_178
noncomputable def d_X1_countStories_92 := gq_3 db00a_52 eb_64
noncomputable def d_X1_countStories_94 := gq_4 db00a_52 eb_38
noncomputable def d_X1_countStories_95 := gq_5 db00a_52 eb_70
noncomputable def d_X1_countStories_97 := gq_6 db00a_52 eb_0
noncomputable def d_X1_countStories_98 := gq_7 db00a_52 eb_179
noncomputable def d_X1_countStories_101 := gq_8 db00a_52 eb_64
noncomputable def d_X1_countStories_103 := gq_9 db00a_52 eb_38
noncomputable def d_X1_countStories_104 := gq_10 db00a_52 eb_14
noncomputable def d_X1_countStories_105 := gq_11 db00a_52 eb_183
noncomputable def d_X1_countStories_108 := gq_12 db00a_52 eb_69
noncomputable def d_X1_countStories_110 := gq_13 db00a_52 eb_176
noncomputable def d_X1_countStories_113 := gq_14 db00a_52 eb_71
noncomputable def d_X1_countStories_115 := gq_15 db00a_52 eb_30
noncomputable def d_X1_countStories_116 := gq_16 db00a_52 eb_56
noncomputable def d_X1_countStories_117 := gq_17 db00a_52 eb_30
noncomputable def d_X1_countStories_118 := gq_18 db00a_52 eb_41
noncomputable def d_X1_countStories_121 := gq_19 db00a_52 eb_184
noncomputable def d_X1_countStories_124 := gq_20 db00a_52 eb_185
noncomputable def d_X1_countStories_127 := gq_21 db00a_52 eb_186
noncomputable def d_X1_countStories_130 := gq_22 db00a_52 eb_74
noncomputable def d_X1_countStories_132 := gq_23 db00a_52 eb_16
theorem db00a_53 : Pf_ prog_3_method_18_code [(0, [0x2a]), (1, [0x1b]), (2, [0xb6, 0x00, 0x40]), (5, [0x9a, 0x00, 0x05]), (8, [0x02]), (9, [0xac]), (10, [0x2a]), (11, [0x1b]), (12, [0x1c]), (13, [0xb6, 0x00, 0x60]), (16, [0x02]), (17, [0x3e]), (18, [0x03]), (19, [0x36, 0x04]), (21, [0x03]), (22, [0x36, 0x05]), (24, [0x03]), (25, [0x36, 0x06]), (27, [0x15, 0x06]), (29, [0x10, 0x08]), (31, [0xa2, 0x00, 0x6e]), (34, [0x2a]), (35, [0x15, 0x06]), (37, [0xb6, 0x00, 0x54])] := pf_ok prog_3_method_18_code _ 0 (by decide +kernel)
noncomputable def d_X1_bestParting_0 := gq_0 db00a_53 eb_0
noncomputable def d_X1_bestParting_1 := gq_1 db00a_53 eb_10
noncomputable def d_X1_bestParting_2 := gq_2 db00a_53 eb_112
noncomputable def d_X1_bestParting_5 := gq_3 db00a_53 eb_152
noncomputable def d_X1_bestParting_8 := gq_4 db00a_53 eb_27
noncomputable def d_X1_bestParting_9 := gq_5 db00a_53 eb_16
noncomputable def d_X1_bestParting_10 := gq_6 db00a_53 eb_0
noncomputable def d_X1_bestParting_11 := gq_7 db00a_53 eb_10
noncomputable def d_X1_bestParting_12 := gq_8 db00a_53 eb_14
noncomputable def d_X1_bestParting_13 := gq_9 db00a_53 eb_167
noncomputable def d_X1_bestParting_16 := gq_10 db00a_53 eb_27
noncomputable def d_X1_bestParting_17 := gq_11 db00a_53 eb_29
noncomputable def d_X1_bestParting_18 := gq_12 db00a_53 eb_22
noncomputable def d_X1_bestParting_19 := gq_13 db00a_53 eb_134
noncomputable def d_X1_bestParting_21 := gq_14 db00a_53 eb_22
noncomputable def d_X1_bestParting_22 := gq_15 db00a_53 eb_135
noncomputable def d_X1_bestParting_24 := gq_16 db00a_53 eb_22
noncomputable def d_X1_bestParting_25 := gq_17 db00a_53 eb_59
noncomputable def d_X1_bestParting_27 := gq_18 db00a_53 eb_76
noncomputable def d_X1_bestParting_29 := gq_19 db00a_53 eb_95
noncomputable def d_X1_bestParting_31 := gq_20 db00a_53 eb_187
noncomputable def d_X1_bestParting_34 := gq_21 db00a_53 eb_0
noncomputable def d_X1_bestParting_35 := gq_22 db00a_53 eb_76
noncomputable def d_X1_bestParting_37 := gq_23 db00a_53 eb_159
theorem db00a_54 : Pf_ prog_3_method_18_code [(40, [0x36, 0x07]), (42, [0x15, 0x07]), (44, [0x04]), (45, [0x9f, 0x00, 0x5a]), (48, [0x15, 0x07]), (50, [0x05]), (51, [0xa0, 0x00, 0x06]), (54, [0xa7, 0x00, 0x51]), (57, [0x2a]), (58, [0x1b]), (59, [0x1c]), (60, [0x04]), (61, [0x15, 0x06]), (63, [0x78]), (64, [0x04]), (65, [0xb6, 0x00, 0x67]), (68, [0x36, 0x08]), (70, [0x2a]), (71, [0x1b]), (72, [0x1c]), (73, [0x04]), (74, [0x15, 0x06]), (76, [0x78]), (77, [0x03])] := pf_ok prog_3_method_18_code _ 40 (by decide +kernel)
noncomputable def d_X1_bestParting_40 := gq_0 db00a_54 eb_60
noncomputable def d_X1_bestParting_42 := gq_1 db00a_54 eb_74
noncomputable def d_X1_bestParting_44 := gq_2 db00a_54 eb_20
noncomputable def d_X1_bestParting_45 := gq_3 db00a_54 eb_188
noncomputable def d_X1_bestParting_48 := gq_4 db00a_54 eb_74
noncomputable def d_X1_bestParting_50 := gq_5 db00a_54 eb_11
noncomputable def d_X1_bestParting_51 := gq_6 db00a_54 eb_41
noncomputable def d_X1_bestParting_54 := gq_7 db00a_54 eb_189
noncomputable def d_X1_bestParting_57 := gq_8 db00a_54 eb_0
noncomputable def d_X1_bestParting_58 := gq_9 db00a_54 eb_10
noncomputable def d_X1_bestParting_59 := gq_10 db00a_54 eb_14
noncomputable def d_X1_bestParting_60 := gq_11 db00a_54 eb_20
noncomputable def d_X1_bestParting_61 := gq_12 db00a_54 eb_76
noncomputable def d_X1_bestParting_63 := gq_13 db00a_54 eb_12
noncomputable def d_X1_bestParting_64 := gq_14 db00a_54 eb_20
noncomputable def d_X1_bestParting_65 := gq_15 db00a_54 eb_169
noncomputable def d_X1_bestParting_68 := gq_16 db00a_54 eb_62
noncomputable def d_X1_bestParting_70 := gq_17 db00a_54 eb_0
noncomputable def d_X1_bestParting_71 := gq_18 db00a_54 eb_10
noncomputable def d_X1_bestParting_72 := gq_19 db00a_54 eb_14
noncomputable def d_X1_bestParting_73 := gq_20 db00a_54 eb_20
noncomputable def d_X1_bestParting_74 := gq_21 db00a_54 eb_76
noncomputable def d_X1_bestParting_76 := gq_22 db00a_54 eb_12
noncomputable def d_X1_bestParting_77 := gq_23 db00a_54 eb_22
theorem db00a_55 : Pf_ prog_3_method_18_code [(78, [0xb6, 0x00, 0x67]), (81, [0x36, 0x09]), (83, [0x15, 0x08]), (85, [0x15, 0x09]), (87, [0xb8, 0x00, 0x6f]), (90, [0x36, 0x0a]), (92, [0x15, 0x0a]), (94, [0x15, 0x04]), (96, [0xa3, 0x00, 0x19]), (99, [0x15, 0x0a]), (101, [0x9e, 0x00, 0x22]), (104, [0x15, 0x0a]), (106, [0x15, 0x04]), (108, [0xa0, 0x00, 0x1b]), (111, [0x15, 0x08]), (113, [0x15, 0x09]), (115, [0x60]), (116, [0x15, 0x05]), (118, [0xa4, 0x00, 0x11]), (121, [0x15, 0x06]), (123, [0x3e]), (124, [0x15, 0x0a]), (126, [0x36, 0x04]), (128, [0x15, 0x08])] := pf_ok prog_3_method_18_code _ 78 (by decide +kernel)
noncomputable def d_X1_bestParting_78 := gq_0 db00a_55 eb_169
noncomputable def d_X1_bestParting_81 := gq_1 db00a_55 eb_63
noncomputable def d_X1_bestParting_83 := gq_2 db00a_55 eb_65
noncomputable def d_X1_bestParting_85 := gq_3 db00a_55 eb_64
noncomputable def d_X1_bestParting_87 := gq_4 db00a_55 eb_190
noncomputable def d_X1_bestParting_90 := gq_5 db00a_55 eb_68
noncomputable def d_X1_bestParting_92 := gq_6 db00a_55 eb_69
noncomputable def d_X1_bestParting_94 := gq_7 db00a_55 eb_77
noncomputable def d_X1_bestParting_96 := gq_8 db00a_55 eb_191
noncomputable def d_X1_bestParting_99 := gq_9 db00a_55 eb_69
noncomputable def d_X1_bestParting_101 := gq_10 db00a_55 eb_192
noncomputable def d_X1_bestParting_104 := gq_11 db00a_55 eb_69
noncomputable def d_X1_bestParting_106 := gq_12 db00a_55 eb_77
noncomputable def d_X1_bestParting_108 := gq_13 db00a_55 eb_193
noncomputable def d_X1_bestParting_111 := gq_14 db00a_55 eb_65
noncomputable def d_X1_bestParting_113 := gq_15 db00a_55 eb_64
noncomputable def d_X1_bestParting_115 := gq_16 db00a_55 eb_36
noncomputable def d_X1_bestParting_116 := gq_17 db00a_55 eb_126
noncomputable def d_X1_bestParting_118 := gq_18 db00a_55 eb_194
noncomputable def d_X1_bestParting_121 := gq_19 db00a_55 eb_76
noncomputable def d_X1_bestParting_123 := gq_20 db00a_55 eb_29
noncomputable def d_X1_bestParting_124 := gq_21 db00a_55 eb_69
noncomputable def d_X1_bestParting_126 := gq_22 db00a_55 eb_134
noncomputable def d_X1_bestParting_128 := gq_23 db00a_55 eb_65
theorem db00a_56 : Pf_ prog_3_method_18_code [(130, [0x15, 0x09]), (132, [0x60]), (133, [0x36, 0x05]), (135, [0x84, 0x06, 0x01]), (138, [0xa7, 0xff, 0x91]), (141, [0x1d]), (142, [0xac])] := pf_ok prog_3_method_18_code _ 130 (by decide +kernel)
noncomputable def d_X1_bestParting_130 := gq_0 db00a_56 eb_64
noncomputable def d_X1_bestParting_132 := gq_1 db00a_56 eb_36
noncomputable def d_X1_bestParting_133 := gq_2 db00a_56 eb_135
noncomputable def d_X1_bestParting_135 := gq_3 db00a_56 eb_73
noncomputable def d_X1_bestParting_138 := gq_4 db00a_56 eb_195
noncomputable def d_X1_bestParting_141 := gq_5 db00a_56 eb_30
noncomputable def d_X1_bestParting_142 := gq_6 db00a_56 eb_16
theorem db00a_57 : Pf_ prog_4_method_1_code [(0, [0x2a]), (1, [0xb7, 0x00, 0x03]), (4, [0x2a]), (5, [0x03]), (6, [0xb5, 0x00, 0x09]), (9, [0x2a]), (10, [0x02]), (11, [0xb5, 0x00, 0x0f]), (14, [0x2a]), (15, [0x02]), (16, [0xb5, 0x00, 0x12]), (19, [0x2a]), (20, [0x02]), (21, [0xb5, 0x00, 0x15]), (24, [0x2a]), (25, [0x1b]), (26, [0xb5, 0x00, 0x18]), (29, [0x2a]), (30, [0x1c]), (31, [0xb5, 0x00, 0x1b]), (34, [0x2a]), (35, [0x1d]), (36, [0xb5, 0x00, 0x1e]), (39, [0x2a])] := pf_ok prog_4_method_1_code _ 0 (by decide +kernel)
noncomputable def d_X2_init_0 := gq_0 db00a_57 eb_0
noncomputable def d_X2_init_1 := gq_1 db00a_57 eb_1
noncomputable def d_X2_init_4 := gq_2 db00a_57 eb_0
noncomputable def d_X2_init_5 := gq_3 db00a_57 eb_22
noncomputable def d_X2_init_6 := gq_4 db00a_57 eb_196
noncomputable def d_X2_init_9 := gq_5 db00a_57 eb_0
noncomputable def d_X2_init_10 := gq_6 db00a_57 eb_27
noncomputable def d_X2_init_11 := gq_7 db00a_57 eb_6
noncomputable def d_X2_init_14 := gq_8 db00a_57 eb_0
noncomputable def d_X2_init_15 := gq_9 db00a_57 eb_27
noncomputable def d_X2_init_16 := gq_10 db00a_57 eb_7
noncomputable def d_X2_init_19 := gq_11 db00a_57 eb_0
noncomputable def d_X2_init_20 := gq_12 db00a_57 eb_27
noncomputable def d_X2_init_21 := gq_13 db00a_57 eb_48
noncomputable def d_X2_init_24 := gq_14 db00a_57 eb_0
noncomputable def d_X2_init_25 := gq_15 db00a_57 eb_10
noncomputable def d_X2_init_26 := gq_16 db00a_57 eb_96
noncomputable def d_X2_init_29 := gq_17 db00a_57 eb_0
noncomputable def d_X2_init_30 := gq_18 db00a_57 eb_14
noncomputable def d_X2_init_31 := gq_19 db00a_57 eb_98
noncomputable def d_X2_init_34 := gq_20 db00a_57 eb_0
noncomputable def d_X2_init_35 := gq_21 db00a_57 eb_30
noncomputable def d_X2_init_36 := gq_22 db00a_57 eb_99
noncomputable def d_X2_init_39 := gq_23 db00a_57 eb_0
theorem db00a_58 : Pf_ prog_4_method_1_code [(40, [0x15, 0x04]), (42, [0xb5, 0x00, 0x21]), (45, [0xb1])] := pf_ok prog_4_method_1_code _ 40 (by decide +kernel)
noncomputable def d_X2_init_40 := gq_0 db00a_58 eb_77
noncomputable def d_X2_init_42 := gq_1 db00a_58 eb_101
noncomputable def d_X2_init_45 := gq_2 db00a_58 eb_8
theorem db00a_59 : Pf_ prog_4_method_2_code [(0, [0x2a]), (1, [0xb4, 0x00, 0x24]), (4, [0x2a]), (5, [0xb4, 0x00, 0x27]), (8, [0x64]), (9, [0xac])] := pf_ok prog_4_method_2_code _ 0 (by decide +kernel)
noncomputable def d_X2_openPoints_0 := gq_0 db00a_59 eb_0
noncomputable def d_X2_openPoints_1 := gq_1 db00a_59 eb_177
noncomputable def d_X2_openPoints_4 := gq_2 db00a_59 eb_0
noncomputable def d_X2_openPoints_5 := gq_3 db00a_59 eb_178
noncomputable def d_X2_openPoints_8 := gq_4 db00a_59 eb_49
noncomputable def d_X2_openPoints_9 := gq_5 db00a_59 eb_16
theorem db00a_60 : Pf_ prog_5_method_1_code [(0, [0x2a]), (1, [0xb7, 0x00, 0x05]), (4, [0x2a]), (5, [0x10, 0x08]), (7, [0xbc, 0x0a]), (9, [0xb5, 0x00, 0x0b]), (12, [0x2a]), (13, [0x10, 0x08]), (15, [0xbc, 0x0a]), (17, [0xb5, 0x00, 0x0f]), (20, [0x2a]), (21, [0x06]), (22, [0xb5, 0x00, 0x12]), (25, [0x2a]), (26, [0x04]), (27, [0xb5, 0x00, 0x16]), (30, [0x2a]), (31, [0x10, 0x40]), (33, [0xbc, 0x0a]), (35, [0xb5, 0x00, 0x1a]), (38, [0x2a]), (39, [0x11, 0x09, 0x00]), (42, [0xbc, 0x0a]), (44, [0xb5, 0x00, 0x1d])] := pf_ok prog_5_method_1_code _ 0 (by decide +kernel)
noncomputable def d_X3_init_0 := gq_0 db00a_60 eb_0
noncomputable def d_X3_init_1 := gq_1 db00a_60 eb_197
noncomputable def d_X3_init_4 := gq_2 db00a_60 eb_0
noncomputable def d_X3_init_5 := gq_3 db00a_60 eb_95
noncomputable def d_X3_init_7 := gq_4 db00a_60 eb_3
noncomputable def d_X3_init_9 := gq_5 db00a_60 eb_4
noncomputable def d_X3_init_12 := gq_6 db00a_60 eb_0
noncomputable def d_X3_init_13 := gq_7 db00a_60 eb_95
noncomputable def d_X3_init_15 := gq_8 db00a_60 eb_3
noncomputable def d_X3_init_17 := gq_9 db00a_60 eb_6
noncomputable def d_X3_init_20 := gq_10 db00a_60 eb_0
noncomputable def d_X3_init_21 := gq_11 db00a_60 eb_55
noncomputable def d_X3_init_22 := gq_12 db00a_60 eb_7
noncomputable def d_X3_init_25 := gq_13 db00a_60 eb_0
noncomputable def d_X3_init_26 := gq_14 db00a_60 eb_20
noncomputable def d_X3_init_27 := gq_15 db00a_60 eb_198
noncomputable def d_X3_init_30 := gq_16 db00a_60 eb_0
noncomputable def d_X3_init_31 := gq_17 db00a_60 eb_199
noncomputable def d_X3_init_33 := gq_18 db00a_60 eb_3
noncomputable def d_X3_init_35 := gq_19 db00a_60 eb_200
noncomputable def d_X3_init_38 := gq_20 db00a_60 eb_0
noncomputable def d_X3_init_39 := gq_21 db00a_60 eb_201
noncomputable def d_X3_init_42 := gq_22 db00a_60 eb_3
noncomputable def d_X3_init_44 := gq_23 db00a_60 eb_202
theorem db00a_61 : Pf_ prog_5_method_1_code [(47, [0x2a]), (48, [0x11, 0x09, 0x00]), (51, [0xbc, 0x04]), (53, [0xb5, 0x00, 0x20]), (56, [0x2a]), (57, [0x10, 0x08]), (59, [0xbc, 0x0a]), (61, [0xb5, 0x00, 0x24]), (64, [0x2a]), (65, [0x10, 0x08]), (67, [0xbc, 0x0a]), (69, [0xb5, 0x00, 0x27]), (72, [0xb1])] := pf_ok prog_5_method_1_code _ 47 (by decide +kernel)
noncomputable def d_X3_init_47 := gq_0 db00a_61 eb_0
noncomputable def d_X3_init_48 := gq_1 db00a_61 eb_201
noncomputable def d_X3_init_51 := gq_2 db00a_61 eb_203
noncomputable def d_X3_init_53 := gq_3 db00a_61 eb_204
noncomputable def d_X3_init_56 := gq_4 db00a_61 eb_0
noncomputable def d_X3_init_57 := gq_5 db00a_61 eb_95
noncomputable def d_X3_init_59 := gq_6 db00a_61 eb_3
noncomputable def d_X3_init_61 := gq_7 db00a_61 eb_103
noncomputable def d_X3_init_64 := gq_8 db00a_61 eb_0
noncomputable def d_X3_init_65 := gq_9 db00a_61 eb_95
noncomputable def d_X3_init_67 := gq_10 db00a_61 eb_3
noncomputable def d_X3_init_69 := gq_11 db00a_61 eb_104
noncomputable def d_X3_init_72 := gq_12 db00a_61 eb_8
theorem db00a_62 : Pf_ prog_5_method_2_code [(0, [0x1b]), (1, [0x99, 0x00, 0x0a]), (4, [0x2a]), (5, [0xb4, 0x00, 0x2a]), (8, [0xa7, 0x00, 0x07]), (11, [0x2a]), (12, [0xb4, 0x00, 0x2d]), (15, [0x3e]), (16, [0x1d]), (17, [0x10, 0x08]), (19, [0xa1, 0x00, 0x05]), (22, [0x02]), (23, [0xac]), (24, [0x2a]), (25, [0x04]), (26, [0xb5, 0x00, 0x16]), (29, [0x1b]), (30, [0x99, 0x00, 0x17]), (33, [0x2a]), (34, [0xb4, 0x00, 0x0b]), (37, [0x1d]), (38, [0x1c]), (39, [0x4f]), (40, [0x2a])] := pf_ok prog_5_method_2_code _ 0 (by decide +kernel)
noncomputable def d_X3_add_0 := gq_0 db00a_62 eb_10
noncomputable def d_X3_add_1 := gq_1 db00a_62 eb_205
noncomputable def d_X3_add_4 := gq_2 db00a_62 eb_0
noncomputable def d_X3_add_5 := gq_3 db00a_62 eb_179
noncomputable def d_X3_add_8 := gq_4 db00a_62 eb_206
noncomputable def d_X3_add_11 := gq_5 db00a_62 eb_0
noncomputable def d_X3_add_12 := gq_6 db00a_62 eb_128
noncomputable def d_X3_add_15 := gq_7 db00a_62 eb_29
noncomputable def d_X3_add_16 := gq_8 db00a_62 eb_30
noncomputable def d_X3_add_17 := gq_9 db00a_62 eb_95
noncomputable def d_X3_add_19 := gq_10 db00a_62 eb_115
noncomputable def d_X3_add_22 := gq_11 db00a_62 eb_27
noncomputable def d_X3_add_23 := gq_12 db00a_62 eb_16
noncomputable def d_X3_add_24 := gq_13 db00a_62 eb_0
noncomputable def d_X3_add_25 := gq_14 db00a_62 eb_20
noncomputable def d_X3_add_26 := gq_15 db00a_62 eb_198
noncomputable def d_X3_add_29 := gq_16 db00a_62 eb_10
noncomputable def d_X3_add_30 := gq_17 db00a_62 eb_207
noncomputable def d_X3_add_33 := gq_18 db00a_62 eb_0
noncomputable def d_X3_add_34 := gq_19 db00a_62 eb_33
noncomputable def d_X3_add_37 := gq_20 db00a_62 eb_30
noncomputable def d_X3_add_38 := gq_21 db00a_62 eb_14
noncomputable def d_X3_add_39 := gq_22 db00a_62 eb_39
noncomputable def d_X3_add_40 := gq_23 db00a_62 eb_0
theorem db00a_63 : Pf_ prog_5_method_2_code [(41, [0x59]), (42, [0xb4, 0x00, 0x2a]), (45, [0x04]), (46, [0x60]), (47, [0xb5, 0x00, 0x2a]), (50, [0xa7, 0x00, 0x14]), (53, [0x2a]), (54, [0xb4, 0x00, 0x0f]), (57, [0x1d]), (58, [0x1c]), (59, [0x4f]), (60, [0x2a]), (61, [0x59]), (62, [0xb4, 0x00, 0x2d]), (65, [0x04]), (66, [0x60]), (67, [0xb5, 0x00, 0x2d]), (70, [0x1d]), (71, [0xac])] := pf_ok prog_5_method_2_code _ 41 (by decide +kernel)
noncomputable def d_X3_add_41 := gq_0 db00a_63 eb_47
noncomputable def d_X3_add_42 := gq_1 db00a_63 eb_179
noncomputable def d_X3_add_45 := gq_2 db00a_63 eb_20
noncomputable def d_X3_add_46 := gq_3 db00a_63 eb_36
noncomputable def d_X3_add_47 := gq_4 db00a_63 eb_105
noncomputable def d_X3_add_50 := gq_5 db00a_63 eb_208
noncomputable def d_X3_add_53 := gq_6 db00a_63 eb_0
noncomputable def d_X3_add_54 := gq_7 db00a_63 eb_45
noncomputable def d_X3_add_57 := gq_8 db00a_63 eb_30
noncomputable def d_X3_add_58 := gq_9 db00a_63 eb_14
noncomputable def d_X3_add_59 := gq_10 db00a_63 eb_39
noncomputable def d_X3_add_60 := gq_11 db00a_63 eb_0
noncomputable def d_X3_add_61 := gq_12 db00a_63 eb_47
noncomputable def d_X3_add_62 := gq_13 db00a_63 eb_128
noncomputable def d_X3_add_65 := gq_14 db00a_63 eb_20
noncomputable def d_X3_add_66 := gq_15 db00a_63 eb_36
noncomputable def d_X3_add_67 := gq_16 db00a_63 eb_106
noncomputable def d_X3_add_70 := gq_17 db00a_63 eb_30
noncomputable def d_X3_add_71 := gq_18 db00a_63 eb_16
theorem db00a_64 : Pf_ prog_5_method_3_code [(0, [0x2a]), (1, [0x1b]), (2, [0xb5, 0x00, 0x12]), (5, [0x2a]), (6, [0x04]), (7, [0xb5, 0x00, 0x16]), (10, [0x04]), (11, [0xac])] := pf_ok prog_5_method_3_code _ 0 (by decide +kernel)
noncomputable def d_X3_setLeast_0 := gq_0 db00a_64 eb_0
noncomputable def d_X3_setLeast_1 := gq_1 db00a_64 eb_10
noncomputable def d_X3_setLeast_2 := gq_2 db00a_64 eb_7
noncomputable def d_X3_setLeast_5 := gq_3 db00a_64 eb_0
noncomputable def d_X3_setLeast_6 := gq_4 db00a_64 eb_20
noncomputable def d_X3_setLeast_7 := gq_5 db00a_64 eb_198
noncomputable def d_X3_setLeast_10 := gq_6 db00a_64 eb_20
noncomputable def d_X3_setLeast_11 := gq_7 db00a_64 eb_16
theorem db00a_65 : Pf_ prog_5_method_4_code [(0, [0x1b]), (1, [0x9b, 0x00, 0x0f]), (4, [0x1b]), (5, [0x2a]), (6, [0xb4, 0x00, 0x2a]), (9, [0xa2, 0x00, 0x07]), (12, [0x04]), (13, [0xa7, 0x00, 0x04]), (16, [0x03]), (17, [0xac])] := pf_ok prog_5_method_4_code _ 0 (by decide +kernel)
noncomputable def d_X3_hasLost_0 := gq_0 db00a_65 eb_10
noncomputable def d_X3_hasLost_1 := gq_1 db00a_65 eb_17
noncomputable def d_X3_hasLost_4 := gq_2 db00a_65 eb_10
noncomputable def d_X3_hasLost_5 := gq_3 db00a_65 eb_0
noncomputable def d_X3_hasLost_6 := gq_4 db00a_65 eb_179
noncomputable def d_X3_hasLost_9 := gq_5 db00a_65 eb_19
noncomputable def d_X3_hasLost_12 := gq_6 db00a_65 eb_20
noncomputable def d_X3_hasLost_13 := gq_7 db00a_65 eb_21
noncomputable def d_X3_hasLost_16 := gq_8 db00a_65 eb_22
noncomputable def d_X3_hasLost_17 := gq_9 db00a_65 eb_16
theorem db00a_66 : Pf_ prog_5_method_5_code [(0, [0x2a]), (1, [0xb6, 0x00, 0x30]), (4, [0x2a]), (5, [0xb4, 0x00, 0x1d]), (8, [0x03]), (9, [0x2e]), (10, [0xac])] := pf_ok prog_5_method_5_code _ 0 (by decide +kernel)
noncomputable def d_X3_bestSum_0 := gq_0 db00a_66 eb_0
noncomputable def d_X3_bestSum_1 := gq_1 db00a_66 eb_209
noncomputable def d_X3_bestSum_4 := gq_2 db00a_66 eb_0
noncomputable def d_X3_bestSum_5 := gq_3 db00a_66 eb_210
noncomputable def d_X3_bestSum_8 := gq_4 db00a_66 eb_22
noncomputable def d_X3_bestSum_9 := gq_5 db00a_66 eb_38
noncomputable def d_X3_bestSum_10 := gq_6 db00a_66 eb_16
theorem db00a_67 : Pf_ prog_5_method_6_code [(0, [0x2a]), (1, [0xb6, 0x00, 0x30]), (4, [0x2a]), (5, [0x1b]), (6, [0xb6, 0x00, 0x33]), (9, [0x99, 0x00, 0x0c]), (12, [0x2a]), (13, [0xb4, 0x00, 0x27]), (16, [0x1b]), (17, [0x2e]), (18, [0xa7, 0x00, 0x04]), (21, [0x02]), (22, [0xac])] := pf_ok prog_5_method_6_code _ 0 (by decide +kernel)
noncomputable def d_X3_firstOf_0 := gq_0 db00a_67 eb_0
noncomputable def d_X3_firstOf_1 := gq_1 db00a_67 eb_209
noncomputable def d_X3_firstOf_4 := gq_2 db00a_67 eb_0
noncomputable def d_X3_firstOf_5 := gq_3 db00a_67 eb_10
noncomputable def d_X3_firstOf_6 := gq_4 db00a_67 eb_211
noncomputable def d_X3_firstOf_9 := gq_5 db00a_67 eb_51
noncomputable def d_X3_firstOf_12 := gq_6 db00a_67 eb_0
noncomputable def d_X3_firstOf_13 := gq_7 db00a_67 eb_178
noncomputable def d_X3_firstOf_16 := gq_8 db00a_67 eb_10
noncomputable def d_X3_firstOf_17 := gq_9 db00a_67 eb_38
noncomputable def d_X3_firstOf_18 := gq_10 db00a_67 eb_21
noncomputable def d_X3_firstOf_21 := gq_11 db00a_67 eb_27
noncomputable def d_X3_firstOf_22 := gq_12 db00a_67 eb_16
theorem db00a_68 : Pf_ prog_5_method_7_code [(0, [0x2a]), (1, [0xb6, 0x00, 0x30]), (4, [0x2a]), (5, [0x1b]), (6, [0xb6, 0x00, 0x33]), (9, [0x99, 0x00, 0x10]), (12, [0x2a]), (13, [0xb4, 0x00, 0x24]), (16, [0x1b]), (17, [0x2e]), (18, [0x11, 0xfe, 0xff]), (21, [0x7e]), (22, [0xa7, 0x00, 0x04]), (25, [0x02]), (26, [0xac])] := pf_ok prog_5_method_7_code _ 0 (by decide +kernel)
noncomputable def d_X3_foundFor_0 := gq_0 db00a_68 eb_0
noncomputable def d_X3_foundFor_1 := gq_1 db00a_68 eb_209
noncomputable def d_X3_foundFor_4 := gq_2 db00a_68 eb_0
noncomputable def d_X3_foundFor_5 := gq_3 db00a_68 eb_10
noncomputable def d_X3_foundFor_6 := gq_4 db00a_68 eb_211
noncomputable def d_X3_foundFor_9 := gq_5 db00a_68 eb_137
noncomputable def d_X3_foundFor_12 := gq_6 db00a_68 eb_0
noncomputable def d_X3_foundFor_13 := gq_7 db00a_68 eb_177
noncomputable def d_X3_foundFor_16 := gq_8 db00a_68 eb_10
noncomputable def d_X3_foundFor_17 := gq_9 db00a_68 eb_38
noncomputable def d_X3_foundFor_18 := gq_10 db00a_68 eb_212
noncomputable def d_X3_foundFor_21 := gq_11 db00a_68 eb_56
noncomputable def d_X3_foundFor_22 := gq_12 db00a_68 eb_21
noncomputable def d_X3_foundFor_25 := gq_13 db00a_68 eb_27
noncomputable def d_X3_foundFor_26 := gq_14 db00a_68 eb_16
theorem db00a_69 : Pf_ prog_5_method_8_code [(0, [0x2a]), (1, [0xb6, 0x00, 0x30]), (4, [0x2a]), (5, [0x1b]), (6, [0xb6, 0x00, 0x33]), (9, [0x99, 0x00, 0x14]), (12, [0x2a]), (13, [0xb4, 0x00, 0x24]), (16, [0x1b]), (17, [0x2e]), (18, [0xb8, 0x00, 0x37]), (21, [0x04]), (22, [0xa0, 0x00, 0x07]), (25, [0x04]), (26, [0xa7, 0x00, 0x04]), (29, [0x03]), (30, [0xac])] := pf_ok prog_5_method_8_code _ 0 (by decide +kernel)
noncomputable def d_X3_isSure_0 := gq_0 db00a_69 eb_0
noncomputable def d_X3_isSure_1 := gq_1 db00a_69 eb_209
noncomputable def d_X3_isSure_4 := gq_2 db00a_69 eb_0
noncomputable def d_X3_isSure_5 := gq_3 db00a_69 eb_10
noncomputable def d_X3_isSure_6 := gq_4 db00a_69 eb_211
noncomputable def d_X3_isSure_9 := gq_5 db00a_69 eb_213
noncomputable def d_X3_isSure_12 := gq_6 db00a_69 eb_0
noncomputable def d_X3_isSure_13 := gq_7 db00a_69 eb_177
noncomputable def d_X3_isSure_16 := gq_8 db00a_69 eb_10
noncomputable def d_X3_isSure_17 := gq_9 db00a_69 eb_38
noncomputable def d_X3_isSure_18 := gq_10 db00a_69 eb_214
noncomputable def d_X3_isSure_21 := gq_11 db00a_69 eb_20
noncomputable def d_X3_isSure_22 := gq_12 db00a_69 eb_136
noncomputable def d_X3_isSure_25 := gq_13 db00a_69 eb_20
noncomputable def d_X3_isSure_26 := gq_14 db00a_69 eb_21
noncomputable def d_X3_isSure_29 := gq_15 db00a_69 eb_22
noncomputable def d_X3_isSure_30 := gq_16 db00a_69 eb_16
theorem db00a_70 : Pf_ prog_5_method_9_code [(0, [0x2a]), (1, [0xb4, 0x00, 0x16]), (4, [0x99, 0x00, 0x18]), (7, [0x2a]), (8, [0xb6, 0x00, 0x3d]), (11, [0x2a]), (12, [0xb6, 0x00, 0x40]), (15, [0x2a]), (16, [0xb6, 0x00, 0x43]), (19, [0x2a]), (20, [0xb6, 0x00, 0x46]), (23, [0x2a]), (24, [0x03]), (25, [0xb5, 0x00, 0x16]), (28, [0xb1])] := pf_ok prog_5_method_9_code _ 0 (by decide +kernel)
noncomputable def d_X3_solve_0 := gq_0 db00a_70 eb_0
noncomputable def d_X3_solve_1 := gq_1 db00a_70 eb_215
noncomputable def d_X3_solve_4 := gq_2 db00a_70 eb_216
noncomputable def d_X3_solve_7 := gq_3 db00a_70 eb_0
noncomputable def d_X3_solve_8 := gq_4 db00a_70 eb_217
noncomputable def d_X3_solve_11 := gq_5 db00a_70 eb_0
noncomputable def d_X3_solve_12 := gq_6 db00a_70 eb_112
noncomputable def d_X3_solve_15 := gq_7 db00a_70 eb_0
noncomputable def d_X3_solve_16 := gq_8 db00a_70 eb_218
noncomputable def d_X3_solve_19 := gq_9 db00a_70 eb_0
noncomputable def d_X3_solve_20 := gq_10 db00a_70 eb_219
noncomputable def d_X3_solve_23 := gq_11 db00a_70 eb_0
noncomputable def d_X3_solve_24 := gq_12 db00a_70 eb_22
noncomputable def d_X3_solve_25 := gq_13 db00a_70 eb_198
noncomputable def d_X3_solve_28 := gq_14 db00a_70 eb_8
theorem db00a_71 : Pf_ prog_5_method_10_code [(0, [0x03]), (1, [0x3d]), (2, [0x1a]), (3, [0x3e]), (4, [0x1b]), (5, [0x36, 0x04]), (7, [0x03]), (8, [0x36, 0x05]), (10, [0x15, 0x05]), (12, [0x08]), (13, [0xa2, 0x00, 0x24]), (16, [0x1d]), (17, [0x10, 0x0a]), (19, [0x70]), (20, [0x15, 0x04]), (22, [0x10, 0x0a]), (24, [0x70]), (25, [0xa0, 0x00, 0x06]), (28, [0x84, 0x02, 0x01]), (31, [0x1d]), (32, [0x10, 0x0a]), (34, [0x6c]), (35, [0x3e]), (36, [0x15, 0x04])] := pf_ok prog_5_method_10_code _ 0 (by decide +kernel)
noncomputable def d_X3_alike_0 := gq_0 db00a_71 eb_22
noncomputable def d_X3_alike_1 := gq_1 db00a_71 eb_28
noncomputable def d_X3_alike_2 := gq_2 db00a_71 eb_9
noncomputable def d_X3_alike_3 := gq_3 db00a_71 eb_29
noncomputable def d_X3_alike_4 := gq_4 db00a_71 eb_10
noncomputable def d_X3_alike_5 := gq_5 db00a_71 eb_134
noncomputable def d_X3_alike_7 := gq_6 db00a_71 eb_22
noncomputable def d_X3_alike_8 := gq_7 db00a_71 eb_135
noncomputable def d_X3_alike_10 := gq_8 db00a_71 eb_126
noncomputable def d_X3_alike_12 := gq_9 db00a_71 eb_123
noncomputable def d_X3_alike_13 := gq_10 db00a_71 eb_220
noncomputable def d_X3_alike_16 := gq_11 db00a_71 eb_30
noncomputable def d_X3_alike_17 := gq_12 db00a_71 eb_94
noncomputable def d_X3_alike_19 := gq_13 db00a_71 eb_221
noncomputable def d_X3_alike_20 := gq_14 db00a_71 eb_77
noncomputable def d_X3_alike_22 := gq_15 db00a_71 eb_94
noncomputable def d_X3_alike_24 := gq_16 db00a_71 eb_221
noncomputable def d_X3_alike_25 := gq_17 db00a_71 eb_41
noncomputable def d_X3_alike_28 := gq_18 db00a_71 eb_42
noncomputable def d_X3_alike_31 := gq_19 db00a_71 eb_30
noncomputable def d_X3_alike_32 := gq_20 db00a_71 eb_94
noncomputable def d_X3_alike_34 := gq_21 db00a_71 eb_222
noncomputable def d_X3_alike_35 := gq_22 db00a_71 eb_29
noncomputable def d_X3_alike_36 := gq_23 db00a_71 eb_77
theorem db00a_72 : Pf_ prog_5_method_10_code [(38, [0x10, 0x0a]), (40, [0x6c]), (41, [0x36, 0x04]), (43, [0x84, 0x05, 0x01]), (46, [0xa7, 0xff, 0xdc]), (49, [0x1c]), (50, [0xac])] := pf_ok prog_5_method_10_code _ 38 (by decide +kernel)
noncomputable def d_X3_alike_38 := gq_0 db00a_72 eb_94
noncomputable def d_X3_alike_40 := gq_1 db00a_72 eb_222
noncomputable def d_X3_alike_41 := gq_2 db00a_72 eb_134
noncomputable def d_X3_alike_43 := gq_3 db00a_72 eb_223
noncomputable def d_X3_alike_46 := gq_4 db00a_72 eb_224
noncomputable def d_X3_alike_49 := gq_5 db00a_72 eb_14
noncomputable def d_X3_alike_50 := gq_6 db00a_72 eb_16
theorem db00a_73 : Pf_ prog_5_method_11_code [(0, [0x03]), (1, [0x3c]), (2, [0x1b]), (3, [0x2a]), (4, [0xb4, 0x00, 0x2a]), (7, [0xa2, 0x00, 0x41]), (10, [0x03]), (11, [0x3d]), (12, [0x1c]), (13, [0x2a]), (14, [0xb4, 0x00, 0x2d]), (17, [0xa2, 0x00, 0x31]), (20, [0x2a]), (21, [0xb4, 0x00, 0x0b]), (24, [0x1b]), (25, [0x2e]), (26, [0x2a]), (27, [0xb4, 0x00, 0x0f]), (30, [0x1c]), (31, [0x2e]), (32, [0xb8, 0x00, 0x49]), (35, [0x3e]), (36, [0x2a]), (37, [0xb4, 0x00, 0x1a])] := pf_ok prog_5_method_11_code _ 0 (by decide +kernel)
noncomputable def d_X3_fillGains_0 := gq_0 db00a_73 eb_22
noncomputable def d_X3_fillGains_1 := gq_1 db00a_73 eb_225
noncomputable def d_X3_fillGains_2 := gq_2 db00a_73 eb_10
noncomputable def d_X3_fillGains_3 := gq_3 db00a_73 eb_0
noncomputable def d_X3_fillGains_4 := gq_4 db00a_73 eb_179
noncomputable def d_X3_fillGains_7 := gq_5 db00a_73 eb_226
noncomputable def d_X3_fillGains_10 := gq_6 db00a_73 eb_22
noncomputable def d_X3_fillGains_11 := gq_7 db00a_73 eb_28
noncomputable def d_X3_fillGains_12 := gq_8 db00a_73 eb_14
noncomputable def d_X3_fillGains_13 := gq_9 db00a_73 eb_0
noncomputable def d_X3_fillGains_14 := gq_10 db00a_73 eb_128
noncomputable def d_X3_fillGains_17 := gq_11 db00a_73 eb_227
noncomputable def d_X3_fillGains_20 := gq_12 db00a_73 eb_0
noncomputable def d_X3_fillGains_21 := gq_13 db00a_73 eb_33
noncomputable def d_X3_fillGains_24 := gq_14 db00a_73 eb_10
noncomputable def d_X3_fillGains_25 := gq_15 db00a_73 eb_38
noncomputable def d_X3_fillGains_26 := gq_16 db00a_73 eb_0
noncomputable def d_X3_fillGains_27 := gq_17 db00a_73 eb_45
noncomputable def d_X3_fillGains_30 := gq_18 db00a_73 eb_14
noncomputable def d_X3_fillGains_31 := gq_19 db00a_73 eb_38
noncomputable def d_X3_fillGains_32 := gq_20 db00a_73 eb_228
noncomputable def d_X3_fillGains_35 := gq_21 db00a_73 eb_29
noncomputable def d_X3_fillGains_36 := gq_22 db00a_73 eb_0
noncomputable def d_X3_fillGains_37 := gq_23 db00a_73 eb_229
theorem db00a_74 : Pf_ prog_5_method_11_code [(40, [0x1b]), (41, [0x10, 0x08]), (43, [0x68]), (44, [0x1c]), (45, [0x60]), (46, [0x1d]), (47, [0x2a]), (48, [0xb4, 0x00, 0x12]), (51, [0xa1, 0x00, 0x07]), (54, [0x1d]), (55, [0xa7, 0x00, 0x04]), (58, [0x03]), (59, [0x4f]), (60, [0x84, 0x02, 0x01]), (63, [0xa7, 0xff, 0xcd]), (66, [0x84, 0x01, 0x01]), (69, [0xa7, 0xff, 0xbd]), (72, [0xb1])] := pf_ok prog_5_method_11_code _ 40 (by decide +kernel)
noncomputable def d_X3_fillGains_40 := gq_0 db00a_74 eb_10
noncomputable def d_X3_fillGains_41 := gq_1 db00a_74 eb_95
noncomputable def d_X3_fillGains_43 := gq_2 db00a_74 eb_35
noncomputable def d_X3_fillGains_44 := gq_3 db00a_74 eb_14
noncomputable def d_X3_fillGains_45 := gq_4 db00a_74 eb_36
noncomputable def d_X3_fillGains_46 := gq_5 db00a_74 eb_30
noncomputable def d_X3_fillGains_47 := gq_6 db00a_74 eb_0
noncomputable def d_X3_fillGains_48 := gq_7 db00a_74 eb_46
noncomputable def d_X3_fillGains_51 := gq_8 db00a_74 eb_156
noncomputable def d_X3_fillGains_54 := gq_9 db00a_74 eb_30
noncomputable def d_X3_fillGains_55 := gq_10 db00a_74 eb_21
noncomputable def d_X3_fillGains_58 := gq_11 db00a_74 eb_22
noncomputable def d_X3_fillGains_59 := gq_12 db00a_74 eb_39
noncomputable def d_X3_fillGains_60 := gq_13 db00a_74 eb_42
noncomputable def d_X3_fillGains_63 := gq_14 db00a_74 eb_230
noncomputable def d_X3_fillGains_66 := gq_15 db00a_74 eb_231
noncomputable def d_X3_fillGains_69 := gq_16 db00a_74 eb_232
noncomputable def d_X3_fillGains_72 := gq_17 db00a_74 eb_8
theorem db00a_75 : Pf_ prog_5_method_12_code [(0, [0x1d]), (1, [0x1c]), (2, [0x7a]), (3, [0x04]), (4, [0x7e]), (5, [0x9a, 0x00, 0x15]), (8, [0x2a]), (9, [0xb4, 0x00, 0x1a]), (12, [0x1b]), (13, [0x10, 0x08]), (15, [0x68]), (16, [0x1c]), (17, [0x60]), (18, [0x2e]), (19, [0x9e, 0x00, 0x07]), (22, [0x04]), (23, [0xa7, 0x00, 0x04]), (26, [0x03]), (27, [0xac])] := pf_ok prog_5_method_12_code _ 0 (by decide +kernel)
noncomputable def d_X3_canJoin_0 := gq_0 db00a_75 eb_30
noncomputable def d_X3_canJoin_1 := gq_1 db00a_75 eb_14
noncomputable def d_X3_canJoin_2 := gq_2 db00a_75 eb_57
noncomputable def d_X3_canJoin_3 := gq_3 db00a_75 eb_20
noncomputable def d_X3_canJoin_4 := gq_4 db00a_75 eb_56
noncomputable def d_X3_canJoin_5 := gq_5 db00a_75 eb_233
noncomputable def d_X3_canJoin_8 := gq_6 db00a_75 eb_0
noncomputable def d_X3_canJoin_9 := gq_7 db00a_75 eb_229
noncomputable def d_X3_canJoin_12 := gq_8 db00a_75 eb_10
noncomputable def d_X3_canJoin_13 := gq_9 db00a_75 eb_95
noncomputable def d_X3_canJoin_15 := gq_10 db00a_75 eb_35
noncomputable def d_X3_canJoin_16 := gq_11 db00a_75 eb_14
noncomputable def d_X3_canJoin_17 := gq_12 db00a_75 eb_36
noncomputable def d_X3_canJoin_18 := gq_13 db00a_75 eb_38
noncomputable def d_X3_canJoin_19 := gq_14 db00a_75 eb_234
noncomputable def d_X3_canJoin_22 := gq_15 db00a_75 eb_20
noncomputable def d_X3_canJoin_23 := gq_16 db00a_75 eb_21
noncomputable def d_X3_canJoin_26 := gq_17 db00a_75 eb_22
noncomputable def d_X3_canJoin_27 := gq_18 db00a_75 eb_16
theorem db00a_76 : Pf_ prog_5_method_13_code [(0, [0x2a]), (1, [0xb4, 0x00, 0x1a]), (4, [0x1b]), (5, [0x10, 0x08]), (7, [0x68]), (8, [0x1c]), (9, [0x60]), (10, [0x2e]), (11, [0x2a]), (12, [0xb4, 0x00, 0x1d]), (15, [0x1b]), (16, [0x04]), (17, [0x60]), (18, [0x11, 0x01, 0x00]), (21, [0x68]), (22, [0x1d]), (23, [0x04]), (24, [0x1c]), (25, [0x78]), (26, [0x80]), (27, [0x60]), (28, [0x2e]), (29, [0x60]), (30, [0xac])] := pf_ok prog_5_method_13_code _ 0 (by decide +kernel)
noncomputable def d_X3_sumWith_0 := gq_0 db00a_76 eb_0
noncomputable def d_X3_sumWith_1 := gq_1 db00a_76 eb_229
noncomputable def d_X3_sumWith_4 := gq_2 db00a_76 eb_10
noncomputable def d_X3_sumWith_5 := gq_3 db00a_76 eb_95
noncomputable def d_X3_sumWith_7 := gq_4 db00a_76 eb_35
noncomputable def d_X3_sumWith_8 := gq_5 db00a_76 eb_14
noncomputable def d_X3_sumWith_9 := gq_6 db00a_76 eb_36
noncomputable def d_X3_sumWith_10 := gq_7 db00a_76 eb_38
noncomputable def d_X3_sumWith_11 := gq_8 db00a_76 eb_0
noncomputable def d_X3_sumWith_12 := gq_9 db00a_76 eb_210
noncomputable def d_X3_sumWith_15 := gq_10 db00a_76 eb_10
noncomputable def d_X3_sumWith_16 := gq_11 db00a_76 eb_20
noncomputable def d_X3_sumWith_17 := gq_12 db00a_76 eb_36
noncomputable def d_X3_sumWith_18 := gq_13 db00a_76 eb_235
noncomputable def d_X3_sumWith_21 := gq_14 db00a_76 eb_35
noncomputable def d_X3_sumWith_22 := gq_15 db00a_76 eb_30
noncomputable def d_X3_sumWith_23 := gq_16 db00a_76 eb_20
noncomputable def d_X3_sumWith_24 := gq_17 db00a_76 eb_14
noncomputable def d_X3_sumWith_25 := gq_18 db00a_76 eb_12
noncomputable def d_X3_sumWith_26 := gq_19 db00a_76 eb_13
noncomputable def d_X3_sumWith_27 := gq_20 db00a_76 eb_36
noncomputable def d_X3_sumWith_28 := gq_21 db00a_76 eb_38
noncomputable def d_X3_sumWith_29 := gq_22 db00a_76 eb_36
noncomputable def d_X3_sumWith_30 := gq_23 db00a_76 eb_16
theorem db00a_77 : Pf_ prog_5_method_14_code [(0, [0x2a]), (1, [0xb4, 0x00, 0x1d]), (4, [0x03]), (5, [0xb8, 0x00, 0x4d]), (8, [0x04]), (9, [0x2a]), (10, [0xb4, 0x00, 0x2d]), (13, [0x78]), (14, [0x3c]), (15, [0x2a]), (16, [0xb4, 0x00, 0x2a]), (19, [0x04]), (20, [0x64]), (21, [0x3d]), (22, [0x1c]), (23, [0x9b, 0x00, 0x60]), (26, [0x03]), (27, [0x3e]), (28, [0x1d]), (29, [0x1b]), (30, [0xa2, 0x00, 0x53]), (33, [0x2a]), (34, [0xb4, 0x00, 0x1d]), (37, [0x1c])] := pf_ok prog_5_method_14_code _ 0 (by decide +kernel)
noncomputable def d_X3_fillBest_0 := gq_0 db00a_77 eb_0
noncomputable def d_X3_fillBest_1 := gq_1 db00a_77 eb_210
noncomputable def d_X3_fillBest_4 := gq_2 db00a_77 eb_22
noncomputable def d_X3_fillBest_5 := gq_3 db00a_77 eb_236
noncomputable def d_X3_fillBest_8 := gq_4 db00a_77 eb_20
noncomputable def d_X3_fillBest_9 := gq_5 db00a_77 eb_0
noncomputable def d_X3_fillBest_10 := gq_6 db00a_77 eb_128
noncomputable def d_X3_fillBest_13 := gq_7 db00a_77 eb_12
noncomputable def d_X3_fillBest_14 := gq_8 db00a_77 eb_225
noncomputable def d_X3_fillBest_15 := gq_9 db00a_77 eb_0
noncomputable def d_X3_fillBest_16 := gq_10 db00a_77 eb_179
noncomputable def d_X3_fillBest_19 := gq_11 db00a_77 eb_20
noncomputable def d_X3_fillBest_20 := gq_12 db00a_77 eb_49
noncomputable def d_X3_fillBest_21 := gq_13 db00a_77 eb_28
noncomputable def d_X3_fillBest_22 := gq_14 db00a_77 eb_14
noncomputable def d_X3_fillBest_23 := gq_15 db00a_77 eb_237
noncomputable def d_X3_fillBest_26 := gq_16 db00a_77 eb_22
noncomputable def d_X3_fillBest_27 := gq_17 db00a_77 eb_29
noncomputable def d_X3_fillBest_28 := gq_18 db00a_77 eb_30
noncomputable def d_X3_fillBest_29 := gq_19 db00a_77 eb_10
noncomputable def d_X3_fillBest_30 := gq_20 db00a_77 eb_238
noncomputable def d_X3_fillBest_33 := gq_21 db00a_77 eb_0
noncomputable def d_X3_fillBest_34 := gq_22 db00a_77 eb_210
noncomputable def d_X3_fillBest_37 := gq_23 db00a_77 eb_14
theorem db00a_78 : Pf_ prog_5_method_14_code [(38, [0x04]), (39, [0x60]), (40, [0x11, 0x01, 0x00]), (43, [0x68]), (44, [0x1d]), (45, [0x60]), (46, [0x2e]), (47, [0x36, 0x04]), (49, [0x03]), (50, [0x36, 0x05]), (52, [0x15, 0x05]), (54, [0x2a]), (55, [0xb4, 0x00, 0x2d]), (58, [0xa2, 0x00, 0x23]), (61, [0x2a]), (62, [0x1c]), (63, [0x15, 0x05]), (65, [0x1d]), (66, [0xb6, 0x00, 0x53]), (69, [0x99, 0x00, 0x12]), (72, [0x15, 0x04]), (74, [0x2a]), (75, [0x1c]), (76, [0x15, 0x05])] := pf_ok prog_5_method_14_code _ 38 (by decide +kernel)
noncomputable def d_X3_fillBest_38 := gq_0 db00a_78 eb_20
noncomputable def d_X3_fillBest_39 := gq_1 db00a_78 eb_36
noncomputable def d_X3_fillBest_40 := gq_2 db00a_78 eb_235
noncomputable def d_X3_fillBest_43 := gq_3 db00a_78 eb_35
noncomputable def d_X3_fillBest_44 := gq_4 db00a_78 eb_30
noncomputable def d_X3_fillBest_45 := gq_5 db00a_78 eb_36
noncomputable def d_X3_fillBest_46 := gq_6 db00a_78 eb_38
noncomputable def d_X3_fillBest_47 := gq_7 db00a_78 eb_134
noncomputable def d_X3_fillBest_49 := gq_8 db00a_78 eb_22
noncomputable def d_X3_fillBest_50 := gq_9 db00a_78 eb_135
noncomputable def d_X3_fillBest_52 := gq_10 db00a_78 eb_126
noncomputable def d_X3_fillBest_54 := gq_11 db00a_78 eb_0
noncomputable def d_X3_fillBest_55 := gq_12 db00a_78 eb_128
noncomputable def d_X3_fillBest_58 := gq_13 db00a_78 eb_148
noncomputable def d_X3_fillBest_61 := gq_14 db00a_78 eb_0
noncomputable def d_X3_fillBest_62 := gq_15 db00a_78 eb_14
noncomputable def d_X3_fillBest_63 := gq_16 db00a_78 eb_126
noncomputable def d_X3_fillBest_65 := gq_17 db00a_78 eb_30
noncomputable def d_X3_fillBest_66 := gq_18 db00a_78 eb_239
noncomputable def d_X3_fillBest_69 := gq_19 db00a_78 eb_140
noncomputable def d_X3_fillBest_72 := gq_20 db00a_78 eb_77
noncomputable def d_X3_fillBest_74 := gq_21 db00a_78 eb_0
noncomputable def d_X3_fillBest_75 := gq_22 db00a_78 eb_14
noncomputable def d_X3_fillBest_76 := gq_23 db00a_78 eb_126
theorem db00a_79 : Pf_ prog_5_method_14_code [(78, [0x1d]), (79, [0xb6, 0x00, 0x57]), (82, [0xb8, 0x00, 0x5b]), (85, [0x36, 0x04]), (87, [0x84, 0x05, 0x01]), (90, [0xa7, 0xff, 0xda]), (93, [0x2a]), (94, [0xb4, 0x00, 0x1d]), (97, [0x1c]), (98, [0x11, 0x01, 0x00]), (101, [0x68]), (102, [0x1d]), (103, [0x60]), (104, [0x15, 0x04]), (106, [0x4f]), (107, [0x84, 0x03, 0x01]), (110, [0xa7, 0xff, 0xae]), (113, [0x84, 0x02, 0xff]), (116, [0xa7, 0xff, 0xa2]), (119, [0xb1])] := pf_ok prog_5_method_14_code _ 78 (by decide +kernel)
noncomputable def d_X3_fillBest_78 := gq_0 db00a_79 eb_30
noncomputable def d_X3_fillBest_79 := gq_1 db00a_79 eb_163
noncomputable def d_X3_fillBest_82 := gq_2 db00a_79 eb_240
noncomputable def d_X3_fillBest_85 := gq_3 db00a_79 eb_134
noncomputable def d_X3_fillBest_87 := gq_4 db00a_79 eb_223
noncomputable def d_X3_fillBest_90 := gq_5 db00a_79 eb_241
noncomputable def d_X3_fillBest_93 := gq_6 db00a_79 eb_0
noncomputable def d_X3_fillBest_94 := gq_7 db00a_79 eb_210
noncomputable def d_X3_fillBest_97 := gq_8 db00a_79 eb_14
noncomputable def d_X3_fillBest_98 := gq_9 db00a_79 eb_235
noncomputable def d_X3_fillBest_101 := gq_10 db00a_79 eb_35
noncomputable def d_X3_fillBest_102 := gq_11 db00a_79 eb_30
noncomputable def d_X3_fillBest_103 := gq_12 db00a_79 eb_36
noncomputable def d_X3_fillBest_104 := gq_13 db00a_79 eb_77
noncomputable def d_X3_fillBest_106 := gq_14 db00a_79 eb_39
noncomputable def d_X3_fillBest_107 := gq_15 db00a_79 eb_43
noncomputable def d_X3_fillBest_110 := gq_16 db00a_79 eb_242
noncomputable def d_X3_fillBest_113 := gq_17 db00a_79 eb_243
noncomputable def d_X3_fillBest_116 := gq_18 db00a_79 eb_244
noncomputable def d_X3_fillBest_119 := gq_19 db00a_79 eb_8
theorem db00a_80 : Pf_ prog_5_method_15_code [(0, [0x03]), (1, [0x3c]), (2, [0x1b]), (3, [0x2a]), (4, [0xb4, 0x00, 0x20]), (7, [0xbe]), (8, [0xa2, 0x00, 0x10]), (11, [0x2a]), (12, [0xb4, 0x00, 0x20]), (15, [0x1b]), (16, [0x03]), (17, [0x54]), (18, [0x84, 0x01, 0x01]), (21, [0xa7, 0xff, 0xed]), (24, [0x2a]), (25, [0xb4, 0x00, 0x24]), (28, [0x03]), (29, [0xb8, 0x00, 0x4d]), (32, [0x2a]), (33, [0xb4, 0x00, 0x20]), (36, [0x03]), (37, [0x04]), (38, [0x54]), (39, [0x04])] := pf_ok prog_5_method_15_code _ 0 (by decide +kernel)
noncomputable def d_X3_fillChoices_0 := gq_0 db00a_80 eb_22
noncomputable def d_X3_fillChoices_1 := gq_1 db00a_80 eb_225
noncomputable def d_X3_fillChoices_2 := gq_2 db00a_80 eb_10
noncomputable def d_X3_fillChoices_3 := gq_3 db00a_80 eb_0
noncomputable def d_X3_fillChoices_4 := gq_4 db00a_80 eb_245
noncomputable def d_X3_fillChoices_7 := gq_5 db00a_80 eb_53
noncomputable def d_X3_fillChoices_8 := gq_6 db00a_80 eb_246
noncomputable def d_X3_fillChoices_11 := gq_7 db00a_80 eb_0
noncomputable def d_X3_fillChoices_12 := gq_8 db00a_80 eb_245
noncomputable def d_X3_fillChoices_15 := gq_9 db00a_80 eb_10
noncomputable def d_X3_fillChoices_16 := gq_10 db00a_80 eb_22
noncomputable def d_X3_fillChoices_17 := gq_11 db00a_80 eb_247
noncomputable def d_X3_fillChoices_18 := gq_12 db00a_80 eb_231
noncomputable def d_X3_fillChoices_21 := gq_13 db00a_80 eb_248
noncomputable def d_X3_fillChoices_24 := gq_14 db00a_80 eb_0
noncomputable def d_X3_fillChoices_25 := gq_15 db00a_80 eb_177
noncomputable def d_X3_fillChoices_28 := gq_16 db00a_80 eb_22
noncomputable def d_X3_fillChoices_29 := gq_17 db00a_80 eb_236
noncomputable def d_X3_fillChoices_32 := gq_18 db00a_80 eb_0
noncomputable def d_X3_fillChoices_33 := gq_19 db00a_80 eb_245
noncomputable def d_X3_fillChoices_36 := gq_20 db00a_80 eb_22
noncomputable def d_X3_fillChoices_37 := gq_21 db00a_80 eb_20
noncomputable def d_X3_fillChoices_38 := gq_22 db00a_80 eb_247
noncomputable def d_X3_fillChoices_39 := gq_23 db00a_80 eb_20
theorem db00a_81 : Pf_ prog_5_method_15_code [(40, [0x2a]), (41, [0xb4, 0x00, 0x2d]), (44, [0x78]), (45, [0x3c]), (46, [0x03]), (47, [0x3d]), (48, [0x1c]), (49, [0x2a]), (50, [0xb4, 0x00, 0x2a]), (53, [0xa2, 0x00, 0x2b]), (56, [0x03]), (57, [0x3e]), (58, [0x1d]), (59, [0x1b]), (60, [0xa2, 0x00, 0x1e]), (63, [0x2a]), (64, [0xb4, 0x00, 0x20]), (67, [0x1c]), (68, [0x11, 0x01, 0x00]), (71, [0x68]), (72, [0x1d]), (73, [0x60]), (74, [0x33]), (75, [0x99, 0x00, 0x09])] := pf_ok prog_5_method_15_code _ 40 (by decide +kernel)
noncomputable def d_X3_fillChoices_40 := gq_0 db00a_81 eb_0
noncomputable def d_X3_fillChoices_41 := gq_1 db00a_81 eb_128
noncomputable def d_X3_fillChoices_44 := gq_2 db00a_81 eb_12
noncomputable def d_X3_fillChoices_45 := gq_3 db00a_81 eb_225
noncomputable def d_X3_fillChoices_46 := gq_4 db00a_81 eb_22
noncomputable def d_X3_fillChoices_47 := gq_5 db00a_81 eb_28
noncomputable def d_X3_fillChoices_48 := gq_6 db00a_81 eb_14
noncomputable def d_X3_fillChoices_49 := gq_7 db00a_81 eb_0
noncomputable def d_X3_fillChoices_50 := gq_8 db00a_81 eb_179
noncomputable def d_X3_fillChoices_53 := gq_9 db00a_81 eb_249
noncomputable def d_X3_fillChoices_56 := gq_10 db00a_81 eb_22
noncomputable def d_X3_fillChoices_57 := gq_11 db00a_81 eb_29
noncomputable def d_X3_fillChoices_58 := gq_12 db00a_81 eb_30
noncomputable def d_X3_fillChoices_59 := gq_13 db00a_81 eb_10
noncomputable def d_X3_fillChoices_60 := gq_14 db00a_81 eb_250
noncomputable def d_X3_fillChoices_63 := gq_15 db00a_81 eb_0
noncomputable def d_X3_fillChoices_64 := gq_16 db00a_81 eb_245
noncomputable def d_X3_fillChoices_67 := gq_17 db00a_81 eb_14
noncomputable def d_X3_fillChoices_68 := gq_18 db00a_81 eb_235
noncomputable def d_X3_fillChoices_71 := gq_19 db00a_81 eb_35
noncomputable def d_X3_fillChoices_72 := gq_20 db00a_81 eb_30
noncomputable def d_X3_fillChoices_73 := gq_21 db00a_81 eb_36
noncomputable def d_X3_fillChoices_74 := gq_22 db00a_81 eb_251
noncomputable def d_X3_fillChoices_75 := gq_23 db00a_81 eb_252
theorem db00a_82 : Pf_ prog_5_method_15_code [(78, [0x2a]), (79, [0x1c]), (80, [0x1d]), (81, [0xb6, 0x00, 0x60]), (84, [0x84, 0x03, 0x01]), (87, [0xa7, 0xff, 0xe3]), (90, [0x84, 0x02, 0x01]), (93, [0xa7, 0xff, 0xd3]), (96, [0xb1])] := pf_ok prog_5_method_15_code _ 78 (by decide +kernel)
noncomputable def d_X3_fillChoices_78 := gq_0 db00a_82 eb_0
noncomputable def d_X3_fillChoices_79 := gq_1 db00a_82 eb_14
noncomputable def d_X3_fillChoices_80 := gq_2 db00a_82 eb_30
noncomputable def d_X3_fillChoices_81 := gq_3 db00a_82 eb_167
noncomputable def d_X3_fillChoices_84 := gq_4 db00a_82 eb_43
noncomputable def d_X3_fillChoices_87 := gq_5 db00a_82 eb_253
noncomputable def d_X3_fillChoices_90 := gq_6 db00a_82 eb_42
noncomputable def d_X3_fillChoices_93 := gq_7 db00a_82 eb_254
noncomputable def d_X3_fillChoices_96 := gq_8 db00a_82 eb_8
theorem db00a_83 : Pf_ prog_5_method_16_code [(0, [0x2a]), (1, [0xb4, 0x00, 0x1d]), (4, [0x1b]), (5, [0x11, 0x01, 0x00]), (8, [0x68]), (9, [0x1c]), (10, [0x60]), (11, [0x2e]), (12, [0x3e]), (13, [0x2a]), (14, [0xb4, 0x00, 0x1d]), (17, [0x1b]), (18, [0x04]), (19, [0x60]), (20, [0x11, 0x01, 0x00]), (23, [0x68]), (24, [0x1c]), (25, [0x60]), (26, [0x2e]), (27, [0x1d]), (28, [0xa0, 0x00, 0x1e]), (31, [0x2a]), (32, [0xb4, 0x00, 0x24]), (35, [0x1b])] := pf_ok prog_5_method_16_code _ 0 (by decide +kernel)
noncomputable def d_X3_spreadFrom_0 := gq_0 db00a_83 eb_0
noncomputable def d_X3_spreadFrom_1 := gq_1 db00a_83 eb_210
noncomputable def d_X3_spreadFrom_4 := gq_2 db00a_83 eb_10
noncomputable def d_X3_spreadFrom_5 := gq_3 db00a_83 eb_235
noncomputable def d_X3_spreadFrom_8 := gq_4 db00a_83 eb_35
noncomputable def d_X3_spreadFrom_9 := gq_5 db00a_83 eb_14
noncomputable def d_X3_spreadFrom_10 := gq_6 db00a_83 eb_36
noncomputable def d_X3_spreadFrom_11 := gq_7 db00a_83 eb_38
noncomputable def d_X3_spreadFrom_12 := gq_8 db00a_83 eb_29
noncomputable def d_X3_spreadFrom_13 := gq_9 db00a_83 eb_0
noncomputable def d_X3_spreadFrom_14 := gq_10 db00a_83 eb_210
noncomputable def d_X3_spreadFrom_17 := gq_11 db00a_83 eb_10
noncomputable def d_X3_spreadFrom_18 := gq_12 db00a_83 eb_20
noncomputable def d_X3_spreadFrom_19 := gq_13 db00a_83 eb_36
noncomputable def d_X3_spreadFrom_20 := gq_14 db00a_83 eb_235
noncomputable def d_X3_spreadFrom_23 := gq_15 db00a_83 eb_35
noncomputable def d_X3_spreadFrom_24 := gq_16 db00a_83 eb_14
noncomputable def d_X3_spreadFrom_25 := gq_17 db00a_83 eb_36
noncomputable def d_X3_spreadFrom_26 := gq_18 db00a_83 eb_38
noncomputable def d_X3_spreadFrom_27 := gq_19 db00a_83 eb_30
noncomputable def d_X3_spreadFrom_28 := gq_20 db00a_83 eb_255
noncomputable def d_X3_spreadFrom_31 := gq_21 db00a_83 eb_0
noncomputable def d_X3_spreadFrom_32 := gq_22 db00a_83 eb_177
noncomputable def d_X3_spreadFrom_35 := gq_23 db00a_83 eb_10
theorem db00a_84 : Pf_ prog_5_method_16_code [(36, [0x5c]), (37, [0x2e]), (38, [0x11, 0x01, 0x00]), (41, [0x80]), (42, [0x4f]), (43, [0x2a]), (44, [0xb4, 0x00, 0x20]), (47, [0x1b]), (48, [0x04]), (49, [0x60]), (50, [0x11, 0x01, 0x00]), (53, [0x68]), (54, [0x1c]), (55, [0x60]), (56, [0x04]), (57, [0x54]), (58, [0x03]), (59, [0x36, 0x04]), (61, [0x15, 0x04]), (63, [0x2a]), (64, [0xb4, 0x00, 0x2d]), (67, [0xa2, 0x00, 0x41]), (70, [0x2a]), (71, [0x1b])] := pf_ok prog_5_method_16_code _ 36 (by decide +kernel)
noncomputable def d_X3_spreadFrom_36 := gq_0 db00a_84 eb_145
noncomputable def d_X3_spreadFrom_37 := gq_1 db00a_84 eb_38
noncomputable def d_X3_spreadFrom_38 := gq_2 db00a_84 eb_235
noncomputable def d_X3_spreadFrom_41 := gq_3 db00a_84 eb_13
noncomputable def d_X3_spreadFrom_42 := gq_4 db00a_84 eb_39
noncomputable def d_X3_spreadFrom_43 := gq_5 db00a_84 eb_0
noncomputable def d_X3_spreadFrom_44 := gq_6 db00a_84 eb_245
noncomputable def d_X3_spreadFrom_47 := gq_7 db00a_84 eb_10
noncomputable def d_X3_spreadFrom_48 := gq_8 db00a_84 eb_20
noncomputable def d_X3_spreadFrom_49 := gq_9 db00a_84 eb_36
noncomputable def d_X3_spreadFrom_50 := gq_10 db00a_84 eb_235
noncomputable def d_X3_spreadFrom_53 := gq_11 db00a_84 eb_35
noncomputable def d_X3_spreadFrom_54 := gq_12 db00a_84 eb_14
noncomputable def d_X3_spreadFrom_55 := gq_13 db00a_84 eb_36
noncomputable def d_X3_spreadFrom_56 := gq_14 db00a_84 eb_20
noncomputable def d_X3_spreadFrom_57 := gq_15 db00a_84 eb_247
noncomputable def d_X3_spreadFrom_58 := gq_16 db00a_84 eb_22
noncomputable def d_X3_spreadFrom_59 := gq_17 db00a_84 eb_134
noncomputable def d_X3_spreadFrom_61 := gq_18 db00a_84 eb_77
noncomputable def d_X3_spreadFrom_63 := gq_19 db00a_84 eb_0
noncomputable def d_X3_spreadFrom_64 := gq_20 db00a_84 eb_128
noncomputable def d_X3_spreadFrom_67 := gq_21 db00a_84 eb_226
noncomputable def d_X3_spreadFrom_70 := gq_22 db00a_84 eb_0
noncomputable def d_X3_spreadFrom_71 := gq_23 db00a_84 eb_10
theorem db00a_85 : Pf_ prog_5_method_16_code [(72, [0x15, 0x04]), (74, [0x1c]), (75, [0xb6, 0x00, 0x53]), (78, [0x99, 0x00, 0x30]), (81, [0x2a]), (82, [0x1b]), (83, [0x15, 0x04]), (85, [0x1c]), (86, [0xb6, 0x00, 0x57]), (89, [0x1d]), (90, [0xa0, 0x00, 0x24]), (93, [0x2a]), (94, [0xb4, 0x00, 0x24]), (97, [0x1b]), (98, [0x5c]), (99, [0x2e]), (100, [0x04]), (101, [0x15, 0x04]), (103, [0x78]), (104, [0x80]), (105, [0x4f]), (106, [0x2a]), (107, [0xb4, 0x00, 0x20]), (110, [0x1b])] := pf_ok prog_5_method_16_code _ 72 (by decide +kernel)
noncomputable def d_X3_spreadFrom_72 := gq_0 db00a_85 eb_77
noncomputable def d_X3_spreadFrom_74 := gq_1 db00a_85 eb_14
noncomputable def d_X3_spreadFrom_75 := gq_2 db00a_85 eb_239
noncomputable def d_X3_spreadFrom_78 := gq_3 db00a_85 eb_256
noncomputable def d_X3_spreadFrom_81 := gq_4 db00a_85 eb_0
noncomputable def d_X3_spreadFrom_82 := gq_5 db00a_85 eb_10
noncomputable def d_X3_spreadFrom_83 := gq_6 db00a_85 eb_77
noncomputable def d_X3_spreadFrom_85 := gq_7 db00a_85 eb_14
noncomputable def d_X3_spreadFrom_86 := gq_8 db00a_85 eb_163
noncomputable def d_X3_spreadFrom_89 := gq_9 db00a_85 eb_30
noncomputable def d_X3_spreadFrom_90 := gq_10 db00a_85 eb_257
noncomputable def d_X3_spreadFrom_93 := gq_11 db00a_85 eb_0
noncomputable def d_X3_spreadFrom_94 := gq_12 db00a_85 eb_177
noncomputable def d_X3_spreadFrom_97 := gq_13 db00a_85 eb_10
noncomputable def d_X3_spreadFrom_98 := gq_14 db00a_85 eb_145
noncomputable def d_X3_spreadFrom_99 := gq_15 db00a_85 eb_38
noncomputable def d_X3_spreadFrom_100 := gq_16 db00a_85 eb_20
noncomputable def d_X3_spreadFrom_101 := gq_17 db00a_85 eb_77
noncomputable def d_X3_spreadFrom_103 := gq_18 db00a_85 eb_12
noncomputable def d_X3_spreadFrom_104 := gq_19 db00a_85 eb_13
noncomputable def d_X3_spreadFrom_105 := gq_20 db00a_85 eb_39
noncomputable def d_X3_spreadFrom_106 := gq_21 db00a_85 eb_0
noncomputable def d_X3_spreadFrom_107 := gq_22 db00a_85 eb_245
noncomputable def d_X3_spreadFrom_110 := gq_23 db00a_85 eb_10
theorem db00a_86 : Pf_ prog_5_method_16_code [(111, [0x04]), (112, [0x60]), (113, [0x11, 0x01, 0x00]), (116, [0x68]), (117, [0x1c]), (118, [0x04]), (119, [0x15, 0x04]), (121, [0x78]), (122, [0x80]), (123, [0x60]), (124, [0x04]), (125, [0x54]), (126, [0x84, 0x04, 0x01]), (129, [0xa7, 0xff, 0xbc]), (132, [0xb1])] := pf_ok prog_5_method_16_code _ 111 (by decide +kernel)
noncomputable def d_X3_spreadFrom_111 := gq_0 db00a_86 eb_20
noncomputable def d_X3_spreadFrom_112 := gq_1 db00a_86 eb_36
noncomputable def d_X3_spreadFrom_113 := gq_2 db00a_86 eb_235
noncomputable def d_X3_spreadFrom_116 := gq_3 db00a_86 eb_35
noncomputable def d_X3_spreadFrom_117 := gq_4 db00a_86 eb_14
noncomputable def d_X3_spreadFrom_118 := gq_5 db00a_86 eb_20
noncomputable def d_X3_spreadFrom_119 := gq_6 db00a_86 eb_77
noncomputable def d_X3_spreadFrom_121 := gq_7 db00a_86 eb_12
noncomputable def d_X3_spreadFrom_122 := gq_8 db00a_86 eb_13
noncomputable def d_X3_spreadFrom_123 := gq_9 db00a_86 eb_36
noncomputable def d_X3_spreadFrom_124 := gq_10 db00a_86 eb_20
noncomputable def d_X3_spreadFrom_125 := gq_11 db00a_86 eb_247
noncomputable def d_X3_spreadFrom_126 := gq_12 db00a_86 eb_146
noncomputable def d_X3_spreadFrom_129 := gq_13 db00a_86 eb_258
noncomputable def d_X3_spreadFrom_132 := gq_14 db00a_86 eb_8
theorem db00a_87 : Pf_ prog_5_method_17_code [(0, [0x03]), (1, [0x3c]), (2, [0x03]), (3, [0x3d]), (4, [0x1c]), (5, [0x2a]), (6, [0xb4, 0x00, 0x2a]), (9, [0xa2, 0x00, 0x66]), (12, [0x2a]), (13, [0xb4, 0x00, 0x27]), (16, [0x1c]), (17, [0x02]), (18, [0x4f]), (19, [0x03]), (20, [0x3e]), (21, [0x1d]), (22, [0x2a]), (23, [0xb4, 0x00, 0x2d]), (26, [0xa2, 0x00, 0x3a]), (29, [0x2a]), (30, [0xb4, 0x00, 0x27]), (33, [0x1c]), (34, [0x2e]), (35, [0x02])] := pf_ok prog_5_method_17_code _ 0 (by decide +kernel)
noncomputable def d_X3_fillFirst_0 := gq_0 db00a_87 eb_22
noncomputable def d_X3_fillFirst_1 := gq_1 db00a_87 eb_225
noncomputable def d_X3_fillFirst_2 := gq_2 db00a_87 eb_22
noncomputable def d_X3_fillFirst_3 := gq_3 db00a_87 eb_28
noncomputable def d_X3_fillFirst_4 := gq_4 db00a_87 eb_14
noncomputable def d_X3_fillFirst_5 := gq_5 db00a_87 eb_0
noncomputable def d_X3_fillFirst_6 := gq_6 db00a_87 eb_179
noncomputable def d_X3_fillFirst_9 := gq_7 db00a_87 eb_180
noncomputable def d_X3_fillFirst_12 := gq_8 db00a_87 eb_0
noncomputable def d_X3_fillFirst_13 := gq_9 db00a_87 eb_178
noncomputable def d_X3_fillFirst_16 := gq_10 db00a_87 eb_14
noncomputable def d_X3_fillFirst_17 := gq_11 db00a_87 eb_27
noncomputable def d_X3_fillFirst_18 := gq_12 db00a_87 eb_39
noncomputable def d_X3_fillFirst_19 := gq_13 db00a_87 eb_22
noncomputable def d_X3_fillFirst_20 := gq_14 db00a_87 eb_29
noncomputable def d_X3_fillFirst_21 := gq_15 db00a_87 eb_30
noncomputable def d_X3_fillFirst_22 := gq_16 db00a_87 eb_0
noncomputable def d_X3_fillFirst_23 := gq_17 db00a_87 eb_128
noncomputable def d_X3_fillFirst_26 := gq_18 db00a_87 eb_259
noncomputable def d_X3_fillFirst_29 := gq_19 db00a_87 eb_0
noncomputable def d_X3_fillFirst_30 := gq_20 db00a_87 eb_178
noncomputable def d_X3_fillFirst_33 := gq_21 db00a_87 eb_14
noncomputable def d_X3_fillFirst_34 := gq_22 db00a_87 eb_38
noncomputable def d_X3_fillFirst_35 := gq_23 db00a_87 eb_27
theorem db00a_88 : Pf_ prog_5_method_17_code [(36, [0xa0, 0x00, 0x30]), (39, [0x2a]), (40, [0x1c]), (41, [0x1d]), (42, [0x1b]), (43, [0xb6, 0x00, 0x53]), (46, [0x99, 0x00, 0x20]), (49, [0x2a]), (50, [0x1c]), (51, [0x1d]), (52, [0x1b]), (53, [0xb6, 0x00, 0x57]), (56, [0x2a]), (57, [0xb4, 0x00, 0x1d]), (60, [0x1c]), (61, [0x11, 0x01, 0x00]), (64, [0x68]), (65, [0x1b]), (66, [0x60]), (67, [0x2e]), (68, [0xa0, 0x00, 0x0a]), (71, [0x2a]), (72, [0xb4, 0x00, 0x27]), (75, [0x1c])] := pf_ok prog_5_method_17_code _ 36 (by decide +kernel)
noncomputable def d_X3_fillFirst_36 := gq_0 db00a_88 eb_260
noncomputable def d_X3_fillFirst_39 := gq_1 db00a_88 eb_0
noncomputable def d_X3_fillFirst_40 := gq_2 db00a_88 eb_14
noncomputable def d_X3_fillFirst_41 := gq_3 db00a_88 eb_30
noncomputable def d_X3_fillFirst_42 := gq_4 db00a_88 eb_10
noncomputable def d_X3_fillFirst_43 := gq_5 db00a_88 eb_239
noncomputable def d_X3_fillFirst_46 := gq_6 db00a_88 eb_261
noncomputable def d_X3_fillFirst_49 := gq_7 db00a_88 eb_0
noncomputable def d_X3_fillFirst_50 := gq_8 db00a_88 eb_14
noncomputable def d_X3_fillFirst_51 := gq_9 db00a_88 eb_30
noncomputable def d_X3_fillFirst_52 := gq_10 db00a_88 eb_10
noncomputable def d_X3_fillFirst_53 := gq_11 db00a_88 eb_163
noncomputable def d_X3_fillFirst_56 := gq_12 db00a_88 eb_0
noncomputable def d_X3_fillFirst_57 := gq_13 db00a_88 eb_210
noncomputable def d_X3_fillFirst_60 := gq_14 db00a_88 eb_14
noncomputable def d_X3_fillFirst_61 := gq_15 db00a_88 eb_235
noncomputable def d_X3_fillFirst_64 := gq_16 db00a_88 eb_35
noncomputable def d_X3_fillFirst_65 := gq_17 db00a_88 eb_10
noncomputable def d_X3_fillFirst_66 := gq_18 db00a_88 eb_36
noncomputable def d_X3_fillFirst_67 := gq_19 db00a_88 eb_38
noncomputable def d_X3_fillFirst_68 := gq_20 db00a_88 eb_262
noncomputable def d_X3_fillFirst_71 := gq_21 db00a_88 eb_0
noncomputable def d_X3_fillFirst_72 := gq_22 db00a_88 eb_178
noncomputable def d_X3_fillFirst_75 := gq_23 db00a_88 eb_14
theorem db00a_89 : Pf_ prog_5_method_17_code [(76, [0x1d]), (77, [0x4f]), (78, [0x84, 0x03, 0x01]), (81, [0xa7, 0xff, 0xc4]), (84, [0x2a]), (85, [0xb4, 0x00, 0x27]), (88, [0x1c]), (89, [0x2e]), (90, [0x02]), (91, [0x9f, 0x00, 0x0e]), (94, [0x1b]), (95, [0x04]), (96, [0x2a]), (97, [0xb4, 0x00, 0x27]), (100, [0x1c]), (101, [0x2e]), (102, [0x78]), (103, [0x80]), (104, [0x3c]), (105, [0x84, 0x02, 0x01]), (108, [0xa7, 0xff, 0x98]), (111, [0xb1])] := pf_ok prog_5_method_17_code _ 76 (by decide +kernel)
noncomputable def d_X3_fillFirst_76 := gq_0 db00a_89 eb_30
noncomputable def d_X3_fillFirst_77 := gq_1 db00a_89 eb_39
noncomputable def d_X3_fillFirst_78 := gq_2 db00a_89 eb_43
noncomputable def d_X3_fillFirst_81 := gq_3 db00a_89 eb_263
noncomputable def d_X3_fillFirst_84 := gq_4 db00a_89 eb_0
noncomputable def d_X3_fillFirst_85 := gq_5 db00a_89 eb_178
noncomputable def d_X3_fillFirst_88 := gq_6 db00a_89 eb_14
noncomputable def d_X3_fillFirst_89 := gq_7 db00a_89 eb_38
noncomputable def d_X3_fillFirst_90 := gq_8 db00a_89 eb_27
noncomputable def d_X3_fillFirst_91 := gq_9 db00a_89 eb_264
noncomputable def d_X3_fillFirst_94 := gq_10 db00a_89 eb_10
noncomputable def d_X3_fillFirst_95 := gq_11 db00a_89 eb_20
noncomputable def d_X3_fillFirst_96 := gq_12 db00a_89 eb_0
noncomputable def d_X3_fillFirst_97 := gq_13 db00a_89 eb_178
noncomputable def d_X3_fillFirst_100 := gq_14 db00a_89 eb_14
noncomputable def d_X3_fillFirst_101 := gq_15 db00a_89 eb_38
noncomputable def d_X3_fillFirst_102 := gq_16 db00a_89 eb_12
noncomputable def d_X3_fillFirst_103 := gq_17 db00a_89 eb_13
noncomputable def d_X3_fillFirst_104 := gq_18 db00a_89 eb_225
noncomputable def d_X3_fillFirst_105 := gq_19 db00a_89 eb_42
noncomputable def d_X3_fillFirst_108 := gq_20 db00a_89 eb_265
noncomputable def d_X3_fillFirst_111 := gq_21 db00a_89 eb_8
theorem db00a_90 : Pf_ prog_6_method_1_code [(0, [0x2a]), (1, [0xb7, 0x00, 0x03]), (4, [0x2a]), (5, [0x10, 0x50]), (7, [0xbc, 0x0a]), (9, [0xb5, 0x00, 0x0b]), (12, [0x2a]), (13, [0x10, 0x50]), (15, [0xbc, 0x0a]), (17, [0xb5, 0x00, 0x0f]), (20, [0x2a]), (21, [0x10, 0x50]), (23, [0xbc, 0x0a]), (25, [0xb5, 0x00, 0x12]), (28, [0x2a]), (29, [0x10, 0x50]), (31, [0xbc, 0x0a]), (33, [0xb5, 0x00, 0x15]), (36, [0x2a]), (37, [0x10, 0x50]), (39, [0xbc, 0x0a]), (41, [0xb5, 0x00, 0x18]), (44, [0x2a]), (45, [0x10, 0x50])] := pf_ok prog_6_method_1_code _ 0 (by decide +kernel)
noncomputable def d_X4_init_0 := gq_0 db00a_90 eb_0
noncomputable def d_X4_init_1 := gq_1 db00a_90 eb_1
noncomputable def d_X4_init_4 := gq_2 db00a_90 eb_0
noncomputable def d_X4_init_5 := gq_3 db00a_90 eb_266
noncomputable def d_X4_init_7 := gq_4 db00a_90 eb_3
noncomputable def d_X4_init_9 := gq_5 db00a_90 eb_4
noncomputable def d_X4_init_12 := gq_6 db00a_90 eb_0
noncomputable def d_X4_init_13 := gq_7 db00a_90 eb_266
noncomputable def d_X4_init_15 := gq_8 db00a_90 eb_3
noncomputable def d_X4_init_17 := gq_9 db00a_90 eb_6
noncomputable def d_X4_init_20 := gq_10 db00a_90 eb_0
noncomputable def d_X4_init_21 := gq_11 db00a_90 eb_266
noncomputable def d_X4_init_23 := gq_12 db00a_90 eb_3
noncomputable def d_X4_init_25 := gq_13 db00a_90 eb_7
noncomputable def d_X4_init_28 := gq_14 db00a_90 eb_0
noncomputable def d_X4_init_29 := gq_15 db00a_90 eb_266
noncomputable def d_X4_init_31 := gq_16 db00a_90 eb_3
noncomputable def d_X4_init_33 := gq_17 db00a_90 eb_48
noncomputable def d_X4_init_36 := gq_18 db00a_90 eb_0
noncomputable def d_X4_init_37 := gq_19 db00a_90 eb_266
noncomputable def d_X4_init_39 := gq_20 db00a_90 eb_3
noncomputable def d_X4_init_41 := gq_21 db00a_90 eb_96
noncomputable def d_X4_init_44 := gq_22 db00a_90 eb_0
noncomputable def d_X4_init_45 := gq_23 db00a_90 eb_266
theorem db00a_91 : Pf_ prog_6_method_1_code [(47, [0xbc, 0x0a]), (49, [0xb5, 0x00, 0x1b]), (52, [0x2a]), (53, [0x10, 0x50]), (55, [0xbc, 0x04]), (57, [0xb5, 0x00, 0x1e]), (60, [0x2a]), (61, [0x11, 0x01, 0x2c]), (64, [0xbc, 0x0a]), (66, [0xb5, 0x00, 0x22]), (69, [0x2a]), (70, [0x11, 0x01, 0x2c]), (73, [0xbc, 0x0a]), (75, [0xb5, 0x00, 0x25]), (78, [0x2a]), (79, [0x11, 0x01, 0x2c]), (82, [0xbc, 0x0a]), (84, [0xb5, 0x00, 0x28]), (87, [0x2a]), (88, [0x11, 0x01, 0x2c]), (91, [0xbc, 0x0a]), (93, [0xb5, 0x00, 0x2b]), (96, [0x2a]), (97, [0x11, 0x01, 0x2c])] := pf_ok prog_6_method_1_code _ 47 (by decide +kernel)
noncomputable def d_X4_init_47 := gq_0 db00a_91 eb_3
noncomputable def d_X4_init_49 := gq_1 db00a_91 eb_98
noncomputable def d_X4_init_52 := gq_2 db00a_91 eb_0
noncomputable def d_X4_init_53 := gq_3 db00a_91 eb_266
noncomputable def d_X4_init_55 := gq_4 db00a_91 eb_203
noncomputable def d_X4_init_57 := gq_5 db00a_91 eb_99
noncomputable def d_X4_init_60 := gq_6 db00a_91 eb_0
noncomputable def d_X4_init_61 := gq_7 db00a_91 eb_267
noncomputable def d_X4_init_64 := gq_8 db00a_91 eb_3
noncomputable def d_X4_init_66 := gq_9 db00a_91 eb_268
noncomputable def d_X4_init_69 := gq_10 db00a_91 eb_0
noncomputable def d_X4_init_70 := gq_11 db00a_91 eb_267
noncomputable def d_X4_init_73 := gq_12 db00a_91 eb_3
noncomputable def d_X4_init_75 := gq_13 db00a_91 eb_269
noncomputable def d_X4_init_78 := gq_14 db00a_91 eb_0
noncomputable def d_X4_init_79 := gq_15 db00a_91 eb_267
noncomputable def d_X4_init_82 := gq_16 db00a_91 eb_3
noncomputable def d_X4_init_84 := gq_17 db00a_91 eb_270
noncomputable def d_X4_init_87 := gq_18 db00a_91 eb_0
noncomputable def d_X4_init_88 := gq_19 db00a_91 eb_267
noncomputable def d_X4_init_91 := gq_20 db00a_91 eb_3
noncomputable def d_X4_init_93 := gq_21 db00a_91 eb_271
noncomputable def d_X4_init_96 := gq_22 db00a_91 eb_0
noncomputable def d_X4_init_97 := gq_23 db00a_91 eb_267
theorem db00a_92 : Pf_ prog_6_method_1_code [(100, [0xbc, 0x0a]), (102, [0xb5, 0x00, 0x2e]), (105, [0x2a]), (106, [0x11, 0x01, 0x2c]), (109, [0xbc, 0x0a]), (111, [0xb5, 0x00, 0x31]), (114, [0x2a]), (115, [0x11, 0x0a, 0x8c]), (118, [0xbc, 0x0a]), (120, [0xb5, 0x00, 0x34]), (123, [0xb1])] := pf_ok prog_6_method_1_code _ 100 (by decide +kernel)
noncomputable def d_X4_init_100 := gq_0 db00a_92 eb_3
noncomputable def d_X4_init_102 := gq_1 db00a_92 eb_272
noncomputable def d_X4_init_105 := gq_2 db00a_92 eb_0
noncomputable def d_X4_init_106 := gq_3 db00a_92 eb_267
noncomputable def d_X4_init_109 := gq_4 db00a_92 eb_3
noncomputable def d_X4_init_111 := gq_5 db00a_92 eb_273
noncomputable def d_X4_init_114 := gq_6 db00a_92 eb_0
noncomputable def d_X4_init_115 := gq_7 db00a_92 eb_274
noncomputable def d_X4_init_118 := gq_8 db00a_92 eb_3
noncomputable def d_X4_init_120 := gq_9 db00a_92 eb_275
noncomputable def d_X4_init_123 := gq_10 db00a_92 eb_8
theorem db00a_93 : Pf_ prog_6_method_2_code [(0, [0x2a]), (1, [0xb4, 0x00, 0x37]), (4, [0x10, 0x50]), (6, [0xa1, 0x00, 0x05]), (9, [0x02]), (10, [0xac]), (11, [0x2a]), (12, [0xb4, 0x00, 0x0b]), (15, [0x2a]), (16, [0xb4, 0x00, 0x37]), (19, [0x1b]), (20, [0x4f]), (21, [0x2a]), (22, [0xb4, 0x00, 0x0f]), (25, [0x2a]), (26, [0xb4, 0x00, 0x37]), (29, [0x1c]), (30, [0x4f]), (31, [0x2a]), (32, [0xb4, 0x00, 0x12]), (35, [0x2a]), (36, [0xb4, 0x00, 0x37]), (39, [0x1d]), (40, [0x4f])] := pf_ok prog_6_method_2_code _ 0 (by decide +kernel)
noncomputable def d_X4_addFind_0 := gq_0 db00a_93 eb_0
noncomputable def d_X4_addFind_1 := gq_1 db00a_93 eb_276
noncomputable def d_X4_addFind_4 := gq_2 db00a_93 eb_266
noncomputable def d_X4_addFind_6 := gq_3 db00a_93 eb_115
noncomputable def d_X4_addFind_9 := gq_4 db00a_93 eb_27
noncomputable def d_X4_addFind_10 := gq_5 db00a_93 eb_16
noncomputable def d_X4_addFind_11 := gq_6 db00a_93 eb_0
noncomputable def d_X4_addFind_12 := gq_7 db00a_93 eb_33
noncomputable def d_X4_addFind_15 := gq_8 db00a_93 eb_0
noncomputable def d_X4_addFind_16 := gq_9 db00a_93 eb_276
noncomputable def d_X4_addFind_19 := gq_10 db00a_93 eb_10
noncomputable def d_X4_addFind_20 := gq_11 db00a_93 eb_39
noncomputable def d_X4_addFind_21 := gq_12 db00a_93 eb_0
noncomputable def d_X4_addFind_22 := gq_13 db00a_93 eb_45
noncomputable def d_X4_addFind_25 := gq_14 db00a_93 eb_0
noncomputable def d_X4_addFind_26 := gq_15 db00a_93 eb_276
noncomputable def d_X4_addFind_29 := gq_16 db00a_93 eb_14
noncomputable def d_X4_addFind_30 := gq_17 db00a_93 eb_39
noncomputable def d_X4_addFind_31 := gq_18 db00a_93 eb_0
noncomputable def d_X4_addFind_32 := gq_19 db00a_93 eb_46
noncomputable def d_X4_addFind_35 := gq_20 db00a_93 eb_0
noncomputable def d_X4_addFind_36 := gq_21 db00a_93 eb_276
noncomputable def d_X4_addFind_39 := gq_22 db00a_93 eb_30
noncomputable def d_X4_addFind_40 := gq_23 db00a_93 eb_39
theorem db00a_94 : Pf_ prog_6_method_2_code [(41, [0x2a]), (42, [0xb4, 0x00, 0x15]), (45, [0x2a]), (46, [0xb4, 0x00, 0x37]), (49, [0x15, 0x04]), (51, [0x4f]), (52, [0x2a]), (53, [0xb4, 0x00, 0x18]), (56, [0x2a]), (57, [0xb4, 0x00, 0x37]), (60, [0x15, 0x05]), (62, [0x4f]), (63, [0x2a]), (64, [0x59]), (65, [0xb4, 0x00, 0x37]), (68, [0x04]), (69, [0x60]), (70, [0xb5, 0x00, 0x37]), (73, [0x2a]), (74, [0xb4, 0x00, 0x37]), (77, [0x04]), (78, [0x64]), (79, [0xac])] := pf_ok prog_6_method_2_code _ 41 (by decide +kernel)
noncomputable def d_X4_addFind_41 := gq_0 db00a_94 eb_0
noncomputable def d_X4_addFind_42 := gq_1 db00a_94 eb_18
noncomputable def d_X4_addFind_45 := gq_2 db00a_94 eb_0
noncomputable def d_X4_addFind_46 := gq_3 db00a_94 eb_276
noncomputable def d_X4_addFind_49 := gq_4 db00a_94 eb_77
noncomputable def d_X4_addFind_51 := gq_5 db00a_94 eb_39
noncomputable def d_X4_addFind_52 := gq_6 db00a_94 eb_0
noncomputable def d_X4_addFind_53 := gq_7 db00a_94 eb_109
noncomputable def d_X4_addFind_56 := gq_8 db00a_94 eb_0
noncomputable def d_X4_addFind_57 := gq_9 db00a_94 eb_276
noncomputable def d_X4_addFind_60 := gq_10 db00a_94 eb_126
noncomputable def d_X4_addFind_62 := gq_11 db00a_94 eb_39
noncomputable def d_X4_addFind_63 := gq_12 db00a_94 eb_0
noncomputable def d_X4_addFind_64 := gq_13 db00a_94 eb_47
noncomputable def d_X4_addFind_65 := gq_14 db00a_94 eb_276
noncomputable def d_X4_addFind_68 := gq_15 db00a_94 eb_20
noncomputable def d_X4_addFind_69 := gq_16 db00a_94 eb_36
noncomputable def d_X4_addFind_70 := gq_17 db00a_94 eb_277
noncomputable def d_X4_addFind_73 := gq_18 db00a_94 eb_0
noncomputable def d_X4_addFind_74 := gq_19 db00a_94 eb_276
noncomputable def d_X4_addFind_77 := gq_20 db00a_94 eb_20
noncomputable def d_X4_addFind_78 := gq_21 db00a_94 eb_49
noncomputable def d_X4_addFind_79 := gq_22 db00a_94 eb_16
theorem db00a_95 : Pf_ prog_6_method_3_code [(0, [0x1b]), (1, [0x03]), (2, [0x2a]), (3, [0xb4, 0x00, 0x37]), (6, [0x04]), (7, [0x64]), (8, [0xb8, 0x00, 0x3b]), (11, [0x99, 0x00, 0x0c]), (14, [0x2a]), (15, [0xb4, 0x00, 0x0b]), (18, [0x1b]), (19, [0x2e]), (20, [0xa7, 0x00, 0x04]), (23, [0x03]), (24, [0xac])] := pf_ok prog_6_method_3_code _ 0 (by decide +kernel)
noncomputable def d_X4_kindOf_0 := gq_0 db00a_95 eb_10
noncomputable def d_X4_kindOf_1 := gq_1 db00a_95 eb_22
noncomputable def d_X4_kindOf_2 := gq_2 db00a_95 eb_0
noncomputable def d_X4_kindOf_3 := gq_3 db00a_95 eb_276
noncomputable def d_X4_kindOf_6 := gq_4 db00a_95 eb_20
noncomputable def d_X4_kindOf_7 := gq_5 db00a_95 eb_49
noncomputable def d_X4_kindOf_8 := gq_6 db00a_95 eb_278
noncomputable def d_X4_kindOf_11 := gq_7 db00a_95 eb_51
noncomputable def d_X4_kindOf_14 := gq_8 db00a_95 eb_0
noncomputable def d_X4_kindOf_15 := gq_9 db00a_95 eb_33
noncomputable def d_X4_kindOf_18 := gq_10 db00a_95 eb_10
noncomputable def d_X4_kindOf_19 := gq_11 db00a_95 eb_38
noncomputable def d_X4_kindOf_20 := gq_12 db00a_95 eb_21
noncomputable def d_X4_kindOf_23 := gq_13 db00a_95 eb_22
noncomputable def d_X4_kindOf_24 := gq_14 db00a_95 eb_16
theorem db00a_96 : Pf_ prog_6_method_4_code [(0, [0x1b]), (1, [0x9b, 0x00, 0x0f]), (4, [0x1b]), (5, [0x2a]), (6, [0xb4, 0x00, 0x3f]), (9, [0xa2, 0x00, 0x07]), (12, [0x04]), (13, [0xa7, 0x00, 0x04]), (16, [0x03]), (17, [0xac])] := pf_ok prog_6_method_4_code _ 0 (by decide +kernel)
noncomputable def d_X4_has_0 := gq_0 db00a_96 eb_10
noncomputable def d_X4_has_1 := gq_1 db00a_96 eb_17
noncomputable def d_X4_has_4 := gq_2 db00a_96 eb_10
noncomputable def d_X4_has_5 := gq_3 db00a_96 eb_0
noncomputable def d_X4_has_6 := gq_4 db00a_96 eb_279
noncomputable def d_X4_has_9 := gq_5 db00a_96 eb_19
noncomputable def d_X4_has_12 := gq_6 db00a_96 eb_20
noncomputable def d_X4_has_13 := gq_7 db00a_96 eb_21
noncomputable def d_X4_has_16 := gq_8 db00a_96 eb_22
noncomputable def d_X4_has_17 := gq_9 db00a_96 eb_16
theorem db00a_97 : Pf_ prog_6_method_5_code [(0, [0x1b]), (1, [0x03]), (2, [0x2a]), (3, [0xb4, 0x00, 0x37]), (6, [0x04]), (7, [0x64]), (8, [0xb8, 0x00, 0x3b]), (11, [0x99, 0x00, 0x1a]), (14, [0x2a]), (15, [0xb4, 0x00, 0x3f]), (18, [0x11, 0x01, 0x2c]), (21, [0xa2, 0x00, 0x10]), (24, [0x2a]), (25, [0xb4, 0x00, 0x1e]), (28, [0x1b]), (29, [0x33]), (30, [0x9a, 0x00, 0x07]), (33, [0x04]), (34, [0xa7, 0x00, 0x04]), (37, [0x03]), (38, [0x36, 0x04]), (40, [0x15, 0x04]), (42, [0x99, 0x00, 0x24]), (45, [0x2a])] := pf_ok prog_6_method_5_code _ 0 (by decide +kernel)
noncomputable def d_X4_canBeSeen_0 := gq_0 db00a_97 eb_10
noncomputable def d_X4_canBeSeen_1 := gq_1 db00a_97 eb_22
noncomputable def d_X4_canBeSeen_2 := gq_2 db00a_97 eb_0
noncomputable def d_X4_canBeSeen_3 := gq_3 db00a_97 eb_276
noncomputable def d_X4_canBeSeen_6 := gq_4 db00a_97 eb_20
noncomputable def d_X4_canBeSeen_7 := gq_5 db00a_97 eb_49
noncomputable def d_X4_canBeSeen_8 := gq_6 db00a_97 eb_278
noncomputable def d_X4_canBeSeen_11 := gq_7 db00a_97 eb_280
noncomputable def d_X4_canBeSeen_14 := gq_8 db00a_97 eb_0
noncomputable def d_X4_canBeSeen_15 := gq_9 db00a_97 eb_279
noncomputable def d_X4_canBeSeen_18 := gq_10 db00a_97 eb_267
noncomputable def d_X4_canBeSeen_21 := gq_11 db00a_97 eb_246
noncomputable def d_X4_canBeSeen_24 := gq_12 db00a_97 eb_0
noncomputable def d_X4_canBeSeen_25 := gq_13 db00a_97 eb_125
noncomputable def d_X4_canBeSeen_28 := gq_14 db00a_97 eb_10
noncomputable def d_X4_canBeSeen_29 := gq_15 db00a_97 eb_251
noncomputable def d_X4_canBeSeen_30 := gq_16 db00a_97 eb_166
noncomputable def d_X4_canBeSeen_33 := gq_17 db00a_97 eb_20
noncomputable def d_X4_canBeSeen_34 := gq_18 db00a_97 eb_21
noncomputable def d_X4_canBeSeen_37 := gq_19 db00a_97 eb_22
noncomputable def d_X4_canBeSeen_38 := gq_20 db00a_97 eb_134
noncomputable def d_X4_canBeSeen_40 := gq_21 db00a_97 eb_77
noncomputable def d_X4_canBeSeen_42 := gq_22 db00a_97 eb_281
noncomputable def d_X4_canBeSeen_45 := gq_23 db00a_97 eb_0
theorem db00a_98 : Pf_ prog_6_method_5_code [(46, [0xb4, 0x00, 0x0f]), (49, [0x1b]), (50, [0x2e]), (51, [0x1c]), (52, [0xa0, 0x00, 0x1a]), (55, [0x1d]), (56, [0x2a]), (57, [0xb4, 0x00, 0x12]), (60, [0x1b]), (61, [0x2e]), (62, [0x2a]), (63, [0xb4, 0x00, 0x15]), (66, [0x1b]), (67, [0x2e]), (68, [0xb8, 0x00, 0x3b]), (71, [0x99, 0x00, 0x07]), (74, [0x04]), (75, [0xa7, 0x00, 0x04]), (78, [0x03]), (79, [0xac])] := pf_ok prog_6_method_5_code _ 46 (by decide +kernel)
noncomputable def d_X4_canBeSeen_46 := gq_0 db00a_98 eb_45
noncomputable def d_X4_canBeSeen_49 := gq_1 db00a_98 eb_10
noncomputable def d_X4_canBeSeen_50 := gq_2 db00a_98 eb_38
noncomputable def d_X4_canBeSeen_51 := gq_3 db00a_98 eb_14
noncomputable def d_X4_canBeSeen_52 := gq_4 db00a_98 eb_282
noncomputable def d_X4_canBeSeen_55 := gq_5 db00a_98 eb_30
noncomputable def d_X4_canBeSeen_56 := gq_6 db00a_98 eb_0
noncomputable def d_X4_canBeSeen_57 := gq_7 db00a_98 eb_46
noncomputable def d_X4_canBeSeen_60 := gq_8 db00a_98 eb_10
noncomputable def d_X4_canBeSeen_61 := gq_9 db00a_98 eb_38
noncomputable def d_X4_canBeSeen_62 := gq_10 db00a_98 eb_0
noncomputable def d_X4_canBeSeen_63 := gq_11 db00a_98 eb_18
noncomputable def d_X4_canBeSeen_66 := gq_12 db00a_98 eb_10
noncomputable def d_X4_canBeSeen_67 := gq_13 db00a_98 eb_38
noncomputable def d_X4_canBeSeen_68 := gq_14 db00a_98 eb_278
noncomputable def d_X4_canBeSeen_71 := gq_15 db00a_98 eb_124
noncomputable def d_X4_canBeSeen_74 := gq_16 db00a_98 eb_20
noncomputable def d_X4_canBeSeen_75 := gq_17 db00a_98 eb_21
noncomputable def d_X4_canBeSeen_78 := gq_18 db00a_98 eb_22
noncomputable def d_X4_canBeSeen_79 := gq_19 db00a_98 eb_16
theorem db00a_99 : Pf_ prog_6_method_6_code [(0, [0x2a]), (1, [0xb4, 0x00, 0x3f]), (4, [0x11, 0x01, 0x2c]), (7, [0xa2, 0x00, 0x11]), (10, [0x1c]), (11, [0x03]), (12, [0x2a]), (13, [0xb4, 0x00, 0x37]), (16, [0x04]), (17, [0x64]), (18, [0xb8, 0x00, 0x3b]), (21, [0x9a, 0x00, 0x05]), (24, [0x02]), (25, [0xac]), (26, [0x2a]), (27, [0xb4, 0x00, 0x3f]), (30, [0x36, 0x04]), (32, [0x2a]), (33, [0xb4, 0x00, 0x22]), (36, [0x15, 0x04]), (38, [0x1b]), (39, [0x4f]), (40, [0x2a]), (41, [0xb4, 0x00, 0x25])] := pf_ok prog_6_method_6_code _ 0 (by decide +kernel)
noncomputable def d_X4_write_0 := gq_0 db00a_99 eb_0
noncomputable def d_X4_write_1 := gq_1 db00a_99 eb_279
noncomputable def d_X4_write_4 := gq_2 db00a_99 eb_267
noncomputable def d_X4_write_7 := gq_3 db00a_99 eb_283
noncomputable def d_X4_write_10 := gq_4 db00a_99 eb_14
noncomputable def d_X4_write_11 := gq_5 db00a_99 eb_22
noncomputable def d_X4_write_12 := gq_6 db00a_99 eb_0
noncomputable def d_X4_write_13 := gq_7 db00a_99 eb_276
noncomputable def d_X4_write_16 := gq_8 db00a_99 eb_20
noncomputable def d_X4_write_17 := gq_9 db00a_99 eb_49
noncomputable def d_X4_write_18 := gq_10 db00a_99 eb_278
noncomputable def d_X4_write_21 := gq_11 db00a_99 eb_152
noncomputable def d_X4_write_24 := gq_12 db00a_99 eb_27
noncomputable def d_X4_write_25 := gq_13 db00a_99 eb_16
noncomputable def d_X4_write_26 := gq_14 db00a_99 eb_0
noncomputable def d_X4_write_27 := gq_15 db00a_99 eb_279
noncomputable def d_X4_write_30 := gq_16 db00a_99 eb_134
noncomputable def d_X4_write_32 := gq_17 db00a_99 eb_0
noncomputable def d_X4_write_33 := gq_18 db00a_99 eb_37
noncomputable def d_X4_write_36 := gq_19 db00a_99 eb_77
noncomputable def d_X4_write_38 := gq_20 db00a_99 eb_10
noncomputable def d_X4_write_39 := gq_21 db00a_99 eb_39
noncomputable def d_X4_write_40 := gq_22 db00a_99 eb_0
noncomputable def d_X4_write_41 := gq_23 db00a_99 eb_284
theorem db00a_100 : Pf_ prog_6_method_6_code [(44, [0x15, 0x04]), (46, [0x1c]), (47, [0x4f]), (48, [0x2a]), (49, [0xb4, 0x00, 0x28]), (52, [0x15, 0x04]), (54, [0x1d]), (55, [0x4f]), (56, [0x2a]), (57, [0xb4, 0x00, 0x2b]), (60, [0x15, 0x04]), (62, [0x03]), (63, [0x4f]), (64, [0x2a]), (65, [0xb4, 0x00, 0x2e]), (68, [0x15, 0x04]), (70, [0x02]), (71, [0x4f]), (72, [0x2a]), (73, [0xb4, 0x00, 0x31]), (76, [0x15, 0x04]), (78, [0x02]), (79, [0x4f]), (80, [0x2a])] := pf_ok prog_6_method_6_code _ 44 (by decide +kernel)
noncomputable def d_X4_write_44 := gq_0 db00a_100 eb_77
noncomputable def d_X4_write_46 := gq_1 db00a_100 eb_14
noncomputable def d_X4_write_47 := gq_2 db00a_100 eb_39
noncomputable def d_X4_write_48 := gq_3 db00a_100 eb_0
noncomputable def d_X4_write_49 := gq_4 db00a_100 eb_285
noncomputable def d_X4_write_52 := gq_5 db00a_100 eb_77
noncomputable def d_X4_write_54 := gq_6 db00a_100 eb_30
noncomputable def d_X4_write_55 := gq_7 db00a_100 eb_39
noncomputable def d_X4_write_56 := gq_8 db00a_100 eb_0
noncomputable def d_X4_write_57 := gq_9 db00a_100 eb_286
noncomputable def d_X4_write_60 := gq_10 db00a_100 eb_77
noncomputable def d_X4_write_62 := gq_11 db00a_100 eb_22
noncomputable def d_X4_write_63 := gq_12 db00a_100 eb_39
noncomputable def d_X4_write_64 := gq_13 db00a_100 eb_0
noncomputable def d_X4_write_65 := gq_14 db00a_100 eb_287
noncomputable def d_X4_write_68 := gq_15 db00a_100 eb_77
noncomputable def d_X4_write_70 := gq_16 db00a_100 eb_27
noncomputable def d_X4_write_71 := gq_17 db00a_100 eb_39
noncomputable def d_X4_write_72 := gq_18 db00a_100 eb_0
noncomputable def d_X4_write_73 := gq_19 db00a_100 eb_288
noncomputable def d_X4_write_76 := gq_20 db00a_100 eb_77
noncomputable def d_X4_write_78 := gq_21 db00a_100 eb_27
noncomputable def d_X4_write_79 := gq_22 db00a_100 eb_39
noncomputable def d_X4_write_80 := gq_23 db00a_100 eb_0
theorem db00a_101 : Pf_ prog_6_method_6_code [(81, [0x59]), (82, [0xb4, 0x00, 0x3f]), (85, [0x04]), (86, [0x60]), (87, [0xb5, 0x00, 0x3f]), (90, [0x15, 0x04]), (92, [0x10, 0x09]), (94, [0x68]), (95, [0x36, 0x05]), (97, [0x2a]), (98, [0xb4, 0x00, 0x34]), (101, [0x15, 0x05]), (103, [0x2a]), (104, [0xb4, 0x00, 0x0b]), (107, [0x1c]), (108, [0x2e]), (109, [0x4f]), (110, [0x2a]), (111, [0xb4, 0x00, 0x34]), (114, [0x15, 0x05]), (116, [0x04]), (117, [0x60]), (118, [0x2a]), (119, [0xb4, 0x00, 0x18])] := pf_ok prog_6_method_6_code _ 81 (by decide +kernel)
noncomputable def d_X4_write_81 := gq_0 db00a_101 eb_47
noncomputable def d_X4_write_82 := gq_1 db00a_101 eb_279
noncomputable def d_X4_write_85 := gq_2 db00a_101 eb_20
noncomputable def d_X4_write_86 := gq_3 db00a_101 eb_36
noncomputable def d_X4_write_87 := gq_4 db00a_101 eb_289
noncomputable def d_X4_write_90 := gq_5 db00a_101 eb_77
noncomputable def d_X4_write_92 := gq_6 db00a_101 eb_290
noncomputable def d_X4_write_94 := gq_7 db00a_101 eb_35
noncomputable def d_X4_write_95 := gq_8 db00a_101 eb_135
noncomputable def d_X4_write_97 := gq_9 db00a_101 eb_0
noncomputable def d_X4_write_98 := gq_10 db00a_101 eb_291
noncomputable def d_X4_write_101 := gq_11 db00a_101 eb_126
noncomputable def d_X4_write_103 := gq_12 db00a_101 eb_0
noncomputable def d_X4_write_104 := gq_13 db00a_101 eb_33
noncomputable def d_X4_write_107 := gq_14 db00a_101 eb_14
noncomputable def d_X4_write_108 := gq_15 db00a_101 eb_38
noncomputable def d_X4_write_109 := gq_16 db00a_101 eb_39
noncomputable def d_X4_write_110 := gq_17 db00a_101 eb_0
noncomputable def d_X4_write_111 := gq_18 db00a_101 eb_291
noncomputable def d_X4_write_114 := gq_19 db00a_101 eb_126
noncomputable def d_X4_write_116 := gq_20 db00a_101 eb_20
noncomputable def d_X4_write_117 := gq_21 db00a_101 eb_36
noncomputable def d_X4_write_118 := gq_22 db00a_101 eb_0
noncomputable def d_X4_write_119 := gq_23 db00a_101 eb_109
theorem db00a_102 : Pf_ prog_6_method_6_code [(122, [0x1c]), (123, [0x2e]), (124, [0x4f]), (125, [0x2a]), (126, [0xb4, 0x00, 0x34]), (129, [0x15, 0x05]), (131, [0x05]), (132, [0x60]), (133, [0x2a]), (134, [0xb4, 0x00, 0x0f]), (137, [0x1c]), (138, [0x2e]), (139, [0x4f]), (140, [0x2a]), (141, [0xb4, 0x00, 0x34]), (144, [0x15, 0x05]), (146, [0x06]), (147, [0x60]), (148, [0x1d]), (149, [0x11, 0x05, 0xa0]), (152, [0x70]), (153, [0x10, 0x3c]), (155, [0x6c]), (156, [0x4f])] := pf_ok prog_6_method_6_code _ 122 (by decide +kernel)
noncomputable def d_X4_write_122 := gq_0 db00a_102 eb_14
noncomputable def d_X4_write_123 := gq_1 db00a_102 eb_38
noncomputable def d_X4_write_124 := gq_2 db00a_102 eb_39
noncomputable def d_X4_write_125 := gq_3 db00a_102 eb_0
noncomputable def d_X4_write_126 := gq_4 db00a_102 eb_291
noncomputable def d_X4_write_129 := gq_5 db00a_102 eb_126
noncomputable def d_X4_write_131 := gq_6 db00a_102 eb_11
noncomputable def d_X4_write_132 := gq_7 db00a_102 eb_36
noncomputable def d_X4_write_133 := gq_8 db00a_102 eb_0
noncomputable def d_X4_write_134 := gq_9 db00a_102 eb_45
noncomputable def d_X4_write_137 := gq_10 db00a_102 eb_14
noncomputable def d_X4_write_138 := gq_11 db00a_102 eb_38
noncomputable def d_X4_write_139 := gq_12 db00a_102 eb_39
noncomputable def d_X4_write_140 := gq_13 db00a_102 eb_0
noncomputable def d_X4_write_141 := gq_14 db00a_102 eb_291
noncomputable def d_X4_write_144 := gq_15 db00a_102 eb_126
noncomputable def d_X4_write_146 := gq_16 db00a_102 eb_55
noncomputable def d_X4_write_147 := gq_17 db00a_102 eb_36
noncomputable def d_X4_write_148 := gq_18 db00a_102 eb_30
noncomputable def d_X4_write_149 := gq_19 db00a_102 eb_292
noncomputable def d_X4_write_152 := gq_20 db00a_102 eb_221
noncomputable def d_X4_write_153 := gq_21 db00a_102 eb_293
noncomputable def d_X4_write_155 := gq_22 db00a_102 eb_222
noncomputable def d_X4_write_156 := gq_23 db00a_102 eb_39
theorem db00a_103 : Pf_ prog_6_method_6_code [(157, [0x2a]), (158, [0xb4, 0x00, 0x34]), (161, [0x15, 0x05]), (163, [0x07]), (164, [0x60]), (165, [0x1d]), (166, [0x11, 0x05, 0xa0]), (169, [0x6c]), (170, [0x4f]), (171, [0x2a]), (172, [0xb4, 0x00, 0x34]), (175, [0x15, 0x05]), (177, [0x10, 0x07]), (179, [0x60]), (180, [0x2a]), (181, [0xb4, 0x00, 0x1b]), (184, [0x1c]), (185, [0x2e]), (186, [0x4f]), (187, [0x2a]), (188, [0xb4, 0x00, 0x34]), (191, [0x15, 0x05]), (193, [0x10, 0x08]), (195, [0x60])] := pf_ok prog_6_method_6_code _ 157 (by decide +kernel)
noncomputable def d_X4_write_157 := gq_0 db00a_103 eb_0
noncomputable def d_X4_write_158 := gq_1 db00a_103 eb_291
noncomputable def d_X4_write_161 := gq_2 db00a_103 eb_126
noncomputable def d_X4_write_163 := gq_3 db00a_103 eb_294
noncomputable def d_X4_write_164 := gq_4 db00a_103 eb_36
noncomputable def d_X4_write_165 := gq_5 db00a_103 eb_30
noncomputable def d_X4_write_166 := gq_6 db00a_103 eb_292
noncomputable def d_X4_write_169 := gq_7 db00a_103 eb_222
noncomputable def d_X4_write_170 := gq_8 db00a_103 eb_39
noncomputable def d_X4_write_171 := gq_9 db00a_103 eb_0
noncomputable def d_X4_write_172 := gq_10 db00a_103 eb_291
noncomputable def d_X4_write_175 := gq_11 db00a_103 eb_126
noncomputable def d_X4_write_177 := gq_12 db00a_103 eb_133
noncomputable def d_X4_write_179 := gq_13 db00a_103 eb_36
noncomputable def d_X4_write_180 := gq_14 db00a_103 eb_0
noncomputable def d_X4_write_181 := gq_15 db00a_103 eb_122
noncomputable def d_X4_write_184 := gq_16 db00a_103 eb_14
noncomputable def d_X4_write_185 := gq_17 db00a_103 eb_38
noncomputable def d_X4_write_186 := gq_18 db00a_103 eb_39
noncomputable def d_X4_write_187 := gq_19 db00a_103 eb_0
noncomputable def d_X4_write_188 := gq_20 db00a_103 eb_291
noncomputable def d_X4_write_191 := gq_21 db00a_103 eb_126
noncomputable def d_X4_write_193 := gq_22 db00a_103 eb_95
noncomputable def d_X4_write_195 := gq_23 db00a_103 eb_36
theorem db00a_104 : Pf_ prog_6_method_6_code [(196, [0x1d]), (197, [0x2a]), (198, [0xb4, 0x00, 0x12]), (201, [0x1c]), (202, [0x2e]), (203, [0x64]), (204, [0x4f]), (205, [0x2a]), (206, [0xb4, 0x00, 0x1b]), (209, [0x1c]), (210, [0x5c]), (211, [0x2e]), (212, [0x04]), (213, [0x60]), (214, [0x4f]), (215, [0x15, 0x04]), (217, [0xac])] := pf_ok prog_6_method_6_code _ 196 (by decide +kernel)
noncomputable def d_X4_write_196 := gq_0 db00a_104 eb_30
noncomputable def d_X4_write_197 := gq_1 db00a_104 eb_0
noncomputable def d_X4_write_198 := gq_2 db00a_104 eb_46
noncomputable def d_X4_write_201 := gq_3 db00a_104 eb_14
noncomputable def d_X4_write_202 := gq_4 db00a_104 eb_38
noncomputable def d_X4_write_203 := gq_5 db00a_104 eb_49
noncomputable def d_X4_write_204 := gq_6 db00a_104 eb_39
noncomputable def d_X4_write_205 := gq_7 db00a_104 eb_0
noncomputable def d_X4_write_206 := gq_8 db00a_104 eb_122
noncomputable def d_X4_write_209 := gq_9 db00a_104 eb_14
noncomputable def d_X4_write_210 := gq_10 db00a_104 eb_145
noncomputable def d_X4_write_211 := gq_11 db00a_104 eb_38
noncomputable def d_X4_write_212 := gq_12 db00a_104 eb_20
noncomputable def d_X4_write_213 := gq_13 db00a_104 eb_36
noncomputable def d_X4_write_214 := gq_14 db00a_104 eb_39
noncomputable def d_X4_write_215 := gq_15 db00a_104 eb_77
noncomputable def d_X4_write_217 := gq_16 db00a_104 eb_16
theorem db00a_105 : Pf_ prog_6_method_7_code [(0, [0x2a]), (1, [0x1b]), (2, [0xb6, 0x00, 0x42]), (5, [0x99, 0x00, 0x19]), (8, [0x1c]), (9, [0x03]), (10, [0x10, 0x08]), (12, [0xb8, 0x00, 0x3b]), (15, [0x99, 0x00, 0x0f]), (18, [0x2a]), (19, [0xb4, 0x00, 0x34]), (22, [0x1b]), (23, [0x10, 0x09]), (25, [0x68]), (26, [0x1c]), (27, [0x60]), (28, [0x1d]), (29, [0x4f]), (30, [0xb1])] := pf_ok prog_6_method_7_code _ 0 (by decide +kernel)
noncomputable def d_X4_setLetter_0 := gq_0 db00a_105 eb_0
noncomputable def d_X4_setLetter_1 := gq_1 db00a_105 eb_10
noncomputable def d_X4_setLetter_2 := gq_2 db00a_105 eb_295
noncomputable def d_X4_setLetter_5 := gq_3 db00a_105 eb_296
noncomputable def d_X4_setLetter_8 := gq_4 db00a_105 eb_14
noncomputable def d_X4_setLetter_9 := gq_5 db00a_105 eb_22
noncomputable def d_X4_setLetter_10 := gq_6 db00a_105 eb_95
noncomputable def d_X4_setLetter_12 := gq_7 db00a_105 eb_278
noncomputable def d_X4_setLetter_15 := gq_8 db00a_105 eb_297
noncomputable def d_X4_setLetter_18 := gq_9 db00a_105 eb_0
noncomputable def d_X4_setLetter_19 := gq_10 db00a_105 eb_291
noncomputable def d_X4_setLetter_22 := gq_11 db00a_105 eb_10
noncomputable def d_X4_setLetter_23 := gq_12 db00a_105 eb_290
noncomputable def d_X4_setLetter_25 := gq_13 db00a_105 eb_35
noncomputable def d_X4_setLetter_26 := gq_14 db00a_105 eb_14
noncomputable def d_X4_setLetter_27 := gq_15 db00a_105 eb_36
noncomputable def d_X4_setLetter_28 := gq_16 db00a_105 eb_30
noncomputable def d_X4_setLetter_29 := gq_17 db00a_105 eb_39
noncomputable def d_X4_setLetter_30 := gq_18 db00a_105 eb_8
theorem db00a_106 : Pf_ prog_6_method_8_code [(0, [0x2a]), (1, [0x1b]), (2, [0xb6, 0x00, 0x42]), (5, [0x9a, 0x00, 0x04]), (8, [0xb1]), (9, [0x2a]), (10, [0xb4, 0x00, 0x2b]), (13, [0x1b]), (14, [0x1c]), (15, [0x4f]), (16, [0x2a]), (17, [0xb4, 0x00, 0x2e]), (20, [0x1b]), (21, [0x1d]), (22, [0x4f]), (23, [0x1c]), (24, [0x04]), (25, [0xa4, 0x00, 0x18]), (28, [0x15, 0x04]), (30, [0x02]), (31, [0x9f, 0x00, 0x12]), (34, [0x2a]), (35, [0xb4, 0x00, 0x31]), (38, [0x1b])] := pf_ok prog_6_method_8_code _ 0 (by decide +kernel)
noncomputable def d_X4_settle_0 := gq_0 db00a_106 eb_0
noncomputable def d_X4_settle_1 := gq_1 db00a_106 eb_10
noncomputable def d_X4_settle_2 := gq_2 db00a_106 eb_295
noncomputable def d_X4_settle_5 := gq_3 db00a_106 eb_298
noncomputable def d_X4_settle_8 := gq_4 db00a_106 eb_8
noncomputable def d_X4_settle_9 := gq_5 db00a_106 eb_0
noncomputable def d_X4_settle_10 := gq_6 db00a_106 eb_286
noncomputable def d_X4_settle_13 := gq_7 db00a_106 eb_10
noncomputable def d_X4_settle_14 := gq_8 db00a_106 eb_14
noncomputable def d_X4_settle_15 := gq_9 db00a_106 eb_39
noncomputable def d_X4_settle_16 := gq_10 db00a_106 eb_0
noncomputable def d_X4_settle_17 := gq_11 db00a_106 eb_287
noncomputable def d_X4_settle_20 := gq_12 db00a_106 eb_10
noncomputable def d_X4_settle_21 := gq_13 db00a_106 eb_30
noncomputable def d_X4_settle_22 := gq_14 db00a_106 eb_39
noncomputable def d_X4_settle_23 := gq_15 db00a_106 eb_14
noncomputable def d_X4_settle_24 := gq_16 db00a_106 eb_20
noncomputable def d_X4_settle_25 := gq_17 db00a_106 eb_299
noncomputable def d_X4_settle_28 := gq_18 db00a_106 eb_77
noncomputable def d_X4_settle_30 := gq_19 db00a_106 eb_27
noncomputable def d_X4_settle_31 := gq_20 db00a_106 eb_300
noncomputable def d_X4_settle_34 := gq_21 db00a_106 eb_0
noncomputable def d_X4_settle_35 := gq_22 db00a_106 eb_288
noncomputable def d_X4_settle_38 := gq_23 db00a_106 eb_10
theorem db00a_107 : Pf_ prog_6_method_8_code [(39, [0x2a]), (40, [0xb4, 0x00, 0x28]), (43, [0x1b]), (44, [0x2e]), (45, [0x15, 0x04]), (47, [0x60]), (48, [0x4f]), (49, [0x1c]), (50, [0x06]), (51, [0xa0, 0x00, 0x19]), (54, [0x2a]), (55, [0xb4, 0x00, 0x1e]), (58, [0x2a]), (59, [0xb4, 0x00, 0x25]), (62, [0x1b]), (63, [0x2e]), (64, [0x04]), (65, [0x54]), (66, [0x2a]), (67, [0x59]), (68, [0xb4, 0x00, 0x46]), (71, [0x04]), (72, [0x60]), (73, [0xb5, 0x00, 0x46])] := pf_ok prog_6_method_8_code _ 39 (by decide +kernel)
noncomputable def d_X4_settle_39 := gq_0 db00a_107 eb_0
noncomputable def d_X4_settle_40 := gq_1 db00a_107 eb_285
noncomputable def d_X4_settle_43 := gq_2 db00a_107 eb_10
noncomputable def d_X4_settle_44 := gq_3 db00a_107 eb_38
noncomputable def d_X4_settle_45 := gq_4 db00a_107 eb_77
noncomputable def d_X4_settle_47 := gq_5 db00a_107 eb_36
noncomputable def d_X4_settle_48 := gq_6 db00a_107 eb_39
noncomputable def d_X4_settle_49 := gq_7 db00a_107 eb_14
noncomputable def d_X4_settle_50 := gq_8 db00a_107 eb_55
noncomputable def d_X4_settle_51 := gq_9 db00a_107 eb_72
noncomputable def d_X4_settle_54 := gq_10 db00a_107 eb_0
noncomputable def d_X4_settle_55 := gq_11 db00a_107 eb_125
noncomputable def d_X4_settle_58 := gq_12 db00a_107 eb_0
noncomputable def d_X4_settle_59 := gq_13 db00a_107 eb_284
noncomputable def d_X4_settle_62 := gq_14 db00a_107 eb_10
noncomputable def d_X4_settle_63 := gq_15 db00a_107 eb_38
noncomputable def d_X4_settle_64 := gq_16 db00a_107 eb_20
noncomputable def d_X4_settle_65 := gq_17 db00a_107 eb_247
noncomputable def d_X4_settle_66 := gq_18 db00a_107 eb_0
noncomputable def d_X4_settle_67 := gq_19 db00a_107 eb_47
noncomputable def d_X4_settle_68 := gq_20 db00a_107 eb_301
noncomputable def d_X4_settle_71 := gq_21 db00a_107 eb_20
noncomputable def d_X4_settle_72 := gq_22 db00a_107 eb_36
noncomputable def d_X4_settle_73 := gq_23 db00a_107 eb_302
theorem db00a_108 : Pf_ prog_6_method_8_code [(76, [0xb1])] := pf_ok prog_6_method_8_code _ 76 (by decide +kernel)
noncomputable def d_X4_settle_76 := gq_0 db00a_108 eb_8
theorem db00a_109 : Pf_ prog_6_method_9_code [(0, [0x03]), (1, [0x3e]), (2, [0x1d]), (3, [0x2a]), (4, [0xb4, 0x00, 0x3f]), (7, [0xa2, 0x00, 0x2e]), (10, [0x2a]), (11, [0xb4, 0x00, 0x22]), (14, [0x1d]), (15, [0x2e]), (16, [0x1b]), (17, [0xa0, 0x00, 0x1e]), (20, [0x2a]), (21, [0xb4, 0x00, 0x2b]), (24, [0x1d]), (25, [0x2e]), (26, [0x04]), (27, [0xa0, 0x00, 0x14]), (30, [0x2a]), (31, [0xb4, 0x00, 0x31]), (34, [0x1d]), (35, [0x2e]), (36, [0x02]), (37, [0xa0, 0x00, 0x0a])] := pf_ok prog_6_method_9_code _ 0 (by decide +kernel)
noncomputable def d_X4_tellNoted_0 := gq_0 db00a_109 eb_22
noncomputable def d_X4_tellNoted_1 := gq_1 db00a_109 eb_29
noncomputable def d_X4_tellNoted_2 := gq_2 db00a_109 eb_30
noncomputable def d_X4_tellNoted_3 := gq_3 db00a_109 eb_0
noncomputable def d_X4_tellNoted_4 := gq_4 db00a_109 eb_279
noncomputable def d_X4_tellNoted_7 := gq_5 db00a_109 eb_32
noncomputable def d_X4_tellNoted_10 := gq_6 db00a_109 eb_0
noncomputable def d_X4_tellNoted_11 := gq_7 db00a_109 eb_37
noncomputable def d_X4_tellNoted_14 := gq_8 db00a_109 eb_30
noncomputable def d_X4_tellNoted_15 := gq_9 db00a_109 eb_38
noncomputable def d_X4_tellNoted_16 := gq_10 db00a_109 eb_10
noncomputable def d_X4_tellNoted_17 := gq_11 db00a_109 eb_255
noncomputable def d_X4_tellNoted_20 := gq_12 db00a_109 eb_0
noncomputable def d_X4_tellNoted_21 := gq_13 db00a_109 eb_286
noncomputable def d_X4_tellNoted_24 := gq_14 db00a_109 eb_30
noncomputable def d_X4_tellNoted_25 := gq_15 db00a_109 eb_38
noncomputable def d_X4_tellNoted_26 := gq_16 db00a_109 eb_20
noncomputable def d_X4_tellNoted_27 := gq_17 db00a_109 eb_303
noncomputable def d_X4_tellNoted_30 := gq_18 db00a_109 eb_0
noncomputable def d_X4_tellNoted_31 := gq_19 db00a_109 eb_288
noncomputable def d_X4_tellNoted_34 := gq_20 db00a_109 eb_30
noncomputable def d_X4_tellNoted_35 := gq_21 db00a_109 eb_38
noncomputable def d_X4_tellNoted_36 := gq_22 db00a_109 eb_27
noncomputable def d_X4_tellNoted_37 := gq_23 db00a_109 eb_262
theorem db00a_110 : Pf_ prog_6_method_9_code [(40, [0x2a]), (41, [0xb4, 0x00, 0x31]), (44, [0x1d]), (45, [0x1c])] := pf_ok prog_6_method_9_code _ 40 (by decide +kernel)
noncomputable def d_X4_tellNoted_40 := gq_0 db00a_110 eb_0
noncomputable def d_X4_tellNoted_41 := gq_1 db00a_110 eb_288
noncomputable def d_X4_tellNoted_44 := gq_2 db00a_110 eb_30
noncomputable def d_X4_tellNoted_45 := gq_3 db00a_110 eb_14
end
section
theorem db00b_0 : Pf_ prog_6_method_9_code [(46, [0x4f]), (47, [0x84, 0x03, 0x01]), (50, [0xa7, 0xff, 0xd0]), (53, [0xb1])] := pf_ok prog_6_method_9_code _ 46 (by decide +kernel)
noncomputable def d_X4_tellNoted_46 := gq_0 db00b_0 eb_39
noncomputable def d_X4_tellNoted_47 := gq_1 db00b_0 eb_43
noncomputable def d_X4_tellNoted_50 := gq_2 db00b_0 eb_44
noncomputable def d_X4_tellNoted_53 := gq_3 db00b_0 eb_8
theorem db00b_1 : Pf_ prog_6_method_10_code [(0, [0x2a]), (1, [0x1b]), (2, [0xb6, 0x00, 0x42]), (5, [0x99, 0x00, 0x0c]), (8, [0x2a]), (9, [0xb4, 0x00, 0x28]), (12, [0x1b]), (13, [0x2e]), (14, [0xa7, 0x00, 0x04]), (17, [0x02]), (18, [0xac])] := pf_ok prog_6_method_10_code _ 0 (by decide +kernel)
noncomputable def d_X4_minuteOf_0 := gq_0 db00b_1 eb_0
noncomputable def d_X4_minuteOf_1 := gq_1 db00b_1 eb_10
noncomputable def d_X4_minuteOf_2 := gq_2 db00b_1 eb_295
noncomputable def d_X4_minuteOf_5 := gq_3 db00b_1 eb_51
noncomputable def d_X4_minuteOf_8 := gq_4 db00b_1 eb_0
noncomputable def d_X4_minuteOf_9 := gq_5 db00b_1 eb_285
noncomputable def d_X4_minuteOf_12 := gq_6 db00b_1 eb_10
noncomputable def d_X4_minuteOf_13 := gq_7 db00b_1 eb_38
noncomputable def d_X4_minuteOf_14 := gq_8 db00b_1 eb_21
noncomputable def d_X4_minuteOf_17 := gq_9 db00b_1 eb_27
noncomputable def d_X4_minuteOf_18 := gq_10 db00b_1 eb_16
theorem d_X4_tell_11 : decode prog_6_method_11_code 11 = .ok (.tableswitch 79 0 5 #[37, 44, 51, 58, 65, 72], 37) := by decide +kernel
theorem db00b_2 : Pf_ prog_6_method_11_code [(0, [0x2a]), (1, [0x1b]), (2, [0xb6, 0x00, 0x42]), (5, [0x9a, 0x00, 0x05]), (8, [0x02]), (9, [0xac]), (10, [0x1c]), (48, [0x2a]), (49, [0xb4, 0x00, 0x22]), (52, [0x1b]), (53, [0x2e]), (54, [0xac]), (55, [0x2a]), (56, [0xb4, 0x00, 0x25]), (59, [0x1b]), (60, [0x2e]), (61, [0xac]), (62, [0x2a]), (63, [0xb4, 0x00, 0x28]), (66, [0x1b]), (67, [0x2e]), (68, [0xac]), (69, [0x2a]), (70, [0xb4, 0x00, 0x2b])] := pf_ok prog_6_method_11_code _ 0 (by decide +kernel)
noncomputable def d_X4_tell_0 := gq_0 db00b_2 eb_0
noncomputable def d_X4_tell_1 := gq_1 db00b_2 eb_10
noncomputable def d_X4_tell_2 := gq_2 db00b_2 eb_295
noncomputable def d_X4_tell_5 := gq_3 db00b_2 eb_152
noncomputable def d_X4_tell_8 := gq_4 db00b_2 eb_27
noncomputable def d_X4_tell_9 := gq_5 db00b_2 eb_16
noncomputable def d_X4_tell_10 := gq_6 db00b_2 eb_14
noncomputable def d_X4_tell_48 := gq_7 db00b_2 eb_0
noncomputable def d_X4_tell_49 := gq_8 db00b_2 eb_37
noncomputable def d_X4_tell_52 := gq_9 db00b_2 eb_10
noncomputable def d_X4_tell_53 := gq_10 db00b_2 eb_38
noncomputable def d_X4_tell_54 := gq_11 db00b_2 eb_16
noncomputable def d_X4_tell_55 := gq_12 db00b_2 eb_0
noncomputable def d_X4_tell_56 := gq_13 db00b_2 eb_284
noncomputable def d_X4_tell_59 := gq_14 db00b_2 eb_10
noncomputable def d_X4_tell_60 := gq_15 db00b_2 eb_38
noncomputable def d_X4_tell_61 := gq_16 db00b_2 eb_16
noncomputable def d_X4_tell_62 := gq_17 db00b_2 eb_0
noncomputable def d_X4_tell_63 := gq_18 db00b_2 eb_285
noncomputable def d_X4_tell_66 := gq_19 db00b_2 eb_10
noncomputable def d_X4_tell_67 := gq_20 db00b_2 eb_38
noncomputable def d_X4_tell_68 := gq_21 db00b_2 eb_16
noncomputable def d_X4_tell_69 := gq_22 db00b_2 eb_0
noncomputable def d_X4_tell_70 := gq_23 db00b_2 eb_286
theorem db00b_3 : Pf_ prog_6_method_11_code [(73, [0x1b]), (74, [0x2e]), (75, [0xac]), (76, [0x2a]), (77, [0xb4, 0x00, 0x2e]), (80, [0x1b]), (81, [0x2e]), (82, [0xac]), (83, [0x2a]), (84, [0xb4, 0x00, 0x31]), (87, [0x1b]), (88, [0x2e]), (89, [0xac]), (90, [0x02]), (91, [0xac])] := pf_ok prog_6_method_11_code _ 73 (by decide +kernel)
noncomputable def d_X4_tell_73 := gq_0 db00b_3 eb_10
noncomputable def d_X4_tell_74 := gq_1 db00b_3 eb_38
noncomputable def d_X4_tell_75 := gq_2 db00b_3 eb_16
noncomputable def d_X4_tell_76 := gq_3 db00b_3 eb_0
noncomputable def d_X4_tell_77 := gq_4 db00b_3 eb_287
noncomputable def d_X4_tell_80 := gq_5 db00b_3 eb_10
noncomputable def d_X4_tell_81 := gq_6 db00b_3 eb_38
noncomputable def d_X4_tell_82 := gq_7 db00b_3 eb_16
noncomputable def d_X4_tell_83 := gq_8 db00b_3 eb_0
noncomputable def d_X4_tell_84 := gq_9 db00b_3 eb_288
noncomputable def d_X4_tell_87 := gq_10 db00b_3 eb_10
noncomputable def d_X4_tell_88 := gq_11 db00b_3 eb_38
noncomputable def d_X4_tell_89 := gq_12 db00b_3 eb_16
noncomputable def d_X4_tell_90 := gq_13 db00b_3 eb_27
noncomputable def d_X4_tell_91 := gq_14 db00b_3 eb_16
theorem db00b_4 : Pf_ prog_6_method_12_code [(0, [0x2a]), (1, [0x1b]), (2, [0xb6, 0x00, 0x42]), (5, [0x9a, 0x00, 0x05]), (8, [0x02]), (9, [0xac]), (10, [0x2c]), (11, [0x2c]), (12, [0x2a]), (13, [0xb4, 0x00, 0x28]), (16, [0x1b]), (17, [0x2e]), (18, [0x11, 0x05, 0xa0]), (21, [0x6c]), (22, [0x1d]), (23, [0xb6, 0x00, 0x49]), (26, [0x2a]), (27, [0xb4, 0x00, 0x34]), (30, [0x1b]), (31, [0x10, 0x09]), (33, [0x68]), (34, [0xb6, 0x00, 0x4f]), (37, [0xac])] := pf_ok prog_6_method_12_code _ 0 (by decide +kernel)
noncomputable def d_X4_due_0 := gq_0 db00b_4 eb_0
noncomputable def d_X4_due_1 := gq_1 db00b_4 eb_10
noncomputable def d_X4_due_2 := gq_2 db00b_4 eb_295
noncomputable def d_X4_due_5 := gq_3 db00b_4 eb_152
noncomputable def d_X4_due_8 := gq_4 db00b_4 eb_27
noncomputable def d_X4_due_9 := gq_5 db00b_4 eb_16
noncomputable def d_X4_due_10 := gq_6 db00b_4 eb_304
noncomputable def d_X4_due_11 := gq_7 db00b_4 eb_304
noncomputable def d_X4_due_12 := gq_8 db00b_4 eb_0
noncomputable def d_X4_due_13 := gq_9 db00b_4 eb_285
noncomputable def d_X4_due_16 := gq_10 db00b_4 eb_10
noncomputable def d_X4_due_17 := gq_11 db00b_4 eb_38
noncomputable def d_X4_due_18 := gq_12 db00b_4 eb_292
noncomputable def d_X4_due_21 := gq_13 db00b_4 eb_222
noncomputable def d_X4_due_22 := gq_14 db00b_4 eb_30
noncomputable def d_X4_due_23 := gq_15 db00b_4 eb_305
noncomputable def d_X4_due_26 := gq_16 db00b_4 eb_0
noncomputable def d_X4_due_27 := gq_17 db00b_4 eb_291
noncomputable def d_X4_due_30 := gq_18 db00b_4 eb_10
noncomputable def d_X4_due_31 := gq_19 db00b_4 eb_290
noncomputable def d_X4_due_33 := gq_20 db00b_4 eb_35
noncomputable def d_X4_due_34 := gq_21 db00b_4 eb_306
noncomputable def d_X4_due_37 := gq_22 db00b_4 eb_16
theorem db00b_5 : Pf_ prog_6_method_13_code [(0, [0x03]), (1, [0x3d]), (2, [0x03]), (3, [0x3e]), (4, [0x1d]), (5, [0x2a]), (6, [0xb4, 0x00, 0x3f]), (9, [0xa2, 0x00, 0x20]), (12, [0x2a]), (13, [0xb4, 0x00, 0x31]), (16, [0x1d]), (17, [0x2e]), (18, [0x02]), (19, [0x9f, 0x00, 0x10]), (22, [0x2a]), (23, [0xb4, 0x00, 0x31]), (26, [0x1d]), (27, [0x2e]), (28, [0x1b]), (29, [0xa3, 0x00, 0x06]), (32, [0x84, 0x02, 0x01]), (35, [0x84, 0x03, 0x01]), (38, [0xa7, 0xff, 0xde]), (41, [0x1c])] := pf_ok prog_6_method_13_code _ 0 (by decide +kernel)
noncomputable def d_X4_countKnown_0 := gq_0 db00b_5 eb_22
noncomputable def d_X4_countKnown_1 := gq_1 db00b_5 eb_28
noncomputable def d_X4_countKnown_2 := gq_2 db00b_5 eb_22
noncomputable def d_X4_countKnown_3 := gq_3 db00b_5 eb_29
noncomputable def d_X4_countKnown_4 := gq_4 db00b_5 eb_30
noncomputable def d_X4_countKnown_5 := gq_5 db00b_5 eb_0
noncomputable def d_X4_countKnown_6 := gq_6 db00b_5 eb_279
noncomputable def d_X4_countKnown_9 := gq_7 db00b_5 eb_307
noncomputable def d_X4_countKnown_12 := gq_8 db00b_5 eb_0
noncomputable def d_X4_countKnown_13 := gq_9 db00b_5 eb_288
noncomputable def d_X4_countKnown_16 := gq_10 db00b_5 eb_30
noncomputable def d_X4_countKnown_17 := gq_11 db00b_5 eb_38
noncomputable def d_X4_countKnown_18 := gq_12 db00b_5 eb_27
noncomputable def d_X4_countKnown_19 := gq_13 db00b_5 eb_308
noncomputable def d_X4_countKnown_22 := gq_14 db00b_5 eb_0
noncomputable def d_X4_countKnown_23 := gq_15 db00b_5 eb_288
noncomputable def d_X4_countKnown_26 := gq_16 db00b_5 eb_30
noncomputable def d_X4_countKnown_27 := gq_17 db00b_5 eb_38
noncomputable def d_X4_countKnown_28 := gq_18 db00b_5 eb_10
noncomputable def d_X4_countKnown_29 := gq_19 db00b_5 eb_309
noncomputable def d_X4_countKnown_32 := gq_20 db00b_5 eb_42
noncomputable def d_X4_countKnown_35 := gq_21 db00b_5 eb_43
noncomputable def d_X4_countKnown_38 := gq_22 db00b_5 eb_310
noncomputable def d_X4_countKnown_41 := gq_23 db00b_5 eb_14
theorem db00b_6 : Pf_ prog_6_method_13_code [(42, [0xac])] := pf_ok prog_6_method_13_code _ 42 (by decide +kernel)
noncomputable def d_X4_countKnown_42 := gq_0 db00b_6 eb_16
theorem db00b_7 : Pf_ prog_6_method_14_code [(0, [0x03]), (1, [0x36, 0x06]), (3, [0x03]), (4, [0x36, 0x07]), (6, [0x15, 0x07]), (8, [0x2a]), (9, [0xb4, 0x00, 0x3f]), (12, [0xa2, 0x00, 0x48]), (15, [0x2a]), (16, [0xb4, 0x00, 0x22]), (19, [0x15, 0x07]), (21, [0x2e]), (22, [0x1b]), (23, [0xa0, 0x00, 0x37]), (26, [0x2a]), (27, [0xb4, 0x00, 0x2b]), (30, [0x15, 0x07]), (32, [0x2e]), (33, [0x06]), (34, [0xa0, 0x00, 0x2c]), (37, [0x2a]), (38, [0xb4, 0x00, 0x28]), (41, [0x15, 0x07]), (43, [0x2e])] := pf_ok prog_6_method_14_code _ 0 (by decide +kernel)
noncomputable def d_X4_countTaken_0 := gq_0 db00b_7 eb_22
noncomputable def d_X4_countTaken_1 := gq_1 db00b_7 eb_59
noncomputable def d_X4_countTaken_3 := gq_2 db00b_7 eb_22
noncomputable def d_X4_countTaken_4 := gq_3 db00b_7 eb_60
noncomputable def d_X4_countTaken_6 := gq_4 db00b_7 eb_74
noncomputable def d_X4_countTaken_8 := gq_5 db00b_7 eb_0
noncomputable def d_X4_countTaken_9 := gq_6 db00b_7 eb_279
noncomputable def d_X4_countTaken_12 := gq_7 db00b_7 eb_311
noncomputable def d_X4_countTaken_15 := gq_8 db00b_7 eb_0
noncomputable def d_X4_countTaken_16 := gq_9 db00b_7 eb_37
noncomputable def d_X4_countTaken_19 := gq_10 db00b_7 eb_74
noncomputable def d_X4_countTaken_21 := gq_11 db00b_7 eb_38
noncomputable def d_X4_countTaken_22 := gq_12 db00b_7 eb_10
noncomputable def d_X4_countTaken_23 := gq_13 db00b_7 eb_312
noncomputable def d_X4_countTaken_26 := gq_14 db00b_7 eb_0
noncomputable def d_X4_countTaken_27 := gq_15 db00b_7 eb_286
noncomputable def d_X4_countTaken_30 := gq_16 db00b_7 eb_74
noncomputable def d_X4_countTaken_32 := gq_17 db00b_7 eb_38
noncomputable def d_X4_countTaken_33 := gq_18 db00b_7 eb_55
noncomputable def d_X4_countTaken_34 := gq_19 db00b_7 eb_313
noncomputable def d_X4_countTaken_37 := gq_20 db00b_7 eb_0
noncomputable def d_X4_countTaken_38 := gq_21 db00b_7 eb_285
noncomputable def d_X4_countTaken_41 := gq_22 db00b_7 eb_74
noncomputable def d_X4_countTaken_43 := gq_23 db00b_7 eb_38
theorem db00b_8 : Pf_ prog_6_method_14_code [(44, [0x11, 0x05, 0xa0]), (47, [0x6c]), (48, [0x1c]), (49, [0xa0, 0x00, 0x1d]), (52, [0x2a]), (53, [0x15, 0x07]), (55, [0x2d]), (56, [0x15, 0x04]), (58, [0xb6, 0x00, 0x53]), (61, [0x06]), (62, [0xa0, 0x00, 0x07]), (65, [0x04]), (66, [0xa7, 0x00, 0x04]), (69, [0x03]), (70, [0x15, 0x05]), (72, [0xa0, 0x00, 0x06]), (75, [0x84, 0x06, 0x01]), (78, [0x84, 0x07, 0x01]), (81, [0xa7, 0xff, 0xb5]), (84, [0x15, 0x06]), (86, [0xac])] := pf_ok prog_6_method_14_code _ 44 (by decide +kernel)
noncomputable def d_X4_countTaken_44 := gq_0 db00b_8 eb_292
noncomputable def d_X4_countTaken_47 := gq_1 db00b_8 eb_222
noncomputable def d_X4_countTaken_48 := gq_2 db00b_8 eb_14
noncomputable def d_X4_countTaken_49 := gq_3 db00b_8 eb_314
noncomputable def d_X4_countTaken_52 := gq_4 db00b_8 eb_0
noncomputable def d_X4_countTaken_53 := gq_5 db00b_8 eb_74
noncomputable def d_X4_countTaken_55 := gq_6 db00b_8 eb_315
noncomputable def d_X4_countTaken_56 := gq_7 db00b_8 eb_77
noncomputable def d_X4_countTaken_58 := gq_8 db00b_8 eb_239
noncomputable def d_X4_countTaken_61 := gq_9 db00b_8 eb_55
noncomputable def d_X4_countTaken_62 := gq_10 db00b_8 eb_136
noncomputable def d_X4_countTaken_65 := gq_11 db00b_8 eb_20
noncomputable def d_X4_countTaken_66 := gq_12 db00b_8 eb_21
noncomputable def d_X4_countTaken_69 := gq_13 db00b_8 eb_22
noncomputable def d_X4_countTaken_70 := gq_14 db00b_8 eb_126
noncomputable def d_X4_countTaken_72 := gq_15 db00b_8 eb_41
noncomputable def d_X4_countTaken_75 := gq_16 db00b_8 eb_73
noncomputable def d_X4_countTaken_78 := gq_17 db00b_8 eb_184
noncomputable def d_X4_countTaken_81 := gq_18 db00b_8 eb_316
noncomputable def d_X4_countTaken_84 := gq_19 db00b_8 eb_76
noncomputable def d_X4_countTaken_86 := gq_20 db00b_8 eb_16
theorem db00b_9 : Pf_ prog_7_method_1_code [(0, [0x2a]), (1, [0xb7, 0x00, 0x03]), (4, [0x2a]), (5, [0x10, 0x28]), (7, [0xbc, 0x0a]), (9, [0xb5, 0x00, 0x0b]), (12, [0x2a]), (13, [0x10, 0x28]), (15, [0xbc, 0x0a]), (17, [0xb5, 0x00, 0x0f]), (20, [0x2a]), (21, [0x10, 0x28]), (23, [0xbc, 0x0a]), (25, [0xb5, 0x00, 0x12]), (28, [0x2a]), (29, [0x10, 0x28]), (31, [0xbc, 0x0a]), (33, [0xb5, 0x00, 0x15]), (36, [0x2a]), (37, [0x10, 0x06]), (39, [0xbc, 0x0a]), (41, [0xb5, 0x00, 0x18]), (44, [0x2a]), (45, [0x11, 0x00, 0xa8])] := pf_ok prog_7_method_1_code _ 0 (by decide +kernel)
noncomputable def d_X5_init_0 := gq_0 db00b_9 eb_0
noncomputable def d_X5_init_1 := gq_1 db00b_9 eb_1
noncomputable def d_X5_init_4 := gq_2 db00b_9 eb_0
noncomputable def d_X5_init_5 := gq_3 db00b_9 eb_317
noncomputable def d_X5_init_7 := gq_4 db00b_9 eb_3
noncomputable def d_X5_init_9 := gq_5 db00b_9 eb_4
noncomputable def d_X5_init_12 := gq_6 db00b_9 eb_0
noncomputable def d_X5_init_13 := gq_7 db00b_9 eb_317
noncomputable def d_X5_init_15 := gq_8 db00b_9 eb_3
noncomputable def d_X5_init_17 := gq_9 db00b_9 eb_6
noncomputable def d_X5_init_20 := gq_10 db00b_9 eb_0
noncomputable def d_X5_init_21 := gq_11 db00b_9 eb_317
noncomputable def d_X5_init_23 := gq_12 db00b_9 eb_3
noncomputable def d_X5_init_25 := gq_13 db00b_9 eb_7
noncomputable def d_X5_init_28 := gq_14 db00b_9 eb_0
noncomputable def d_X5_init_29 := gq_15 db00b_9 eb_317
noncomputable def d_X5_init_31 := gq_16 db00b_9 eb_3
noncomputable def d_X5_init_33 := gq_17 db00b_9 eb_48
noncomputable def d_X5_init_36 := gq_18 db00b_9 eb_0
noncomputable def d_X5_init_37 := gq_19 db00b_9 eb_15
noncomputable def d_X5_init_39 := gq_20 db00b_9 eb_3
noncomputable def d_X5_init_41 := gq_21 db00b_9 eb_96
noncomputable def d_X5_init_44 := gq_22 db00b_9 eb_0
noncomputable def d_X5_init_45 := gq_23 db00b_9 eb_318
theorem db00b_10 : Pf_ prog_7_method_1_code [(48, [0xbc, 0x0a]), (50, [0xb5, 0x00, 0x1b]), (53, [0x2a]), (54, [0x11, 0x00, 0xa8]), (57, [0xbc, 0x0a]), (59, [0xb5, 0x00, 0x1e]), (62, [0x2a]), (63, [0x11, 0x02, 0x58]), (66, [0xbc, 0x0a]), (68, [0xb5, 0x00, 0x21]), (71, [0x2a]), (72, [0x11, 0x02, 0x58]), (75, [0xbc, 0x0a]), (77, [0xb5, 0x00, 0x24]), (80, [0x2a]), (81, [0x11, 0x02, 0x58]), (84, [0xbc, 0x0a]), (86, [0xb5, 0x00, 0x27]), (89, [0x2a]), (90, [0x11, 0x02, 0x58]), (93, [0xbc, 0x0a]), (95, [0xb5, 0x00, 0x2a]), (98, [0x2a]), (99, [0x10, 0x30])] := pf_ok prog_7_method_1_code _ 48 (by decide +kernel)
noncomputable def d_X5_init_48 := gq_0 db00b_10 eb_3
noncomputable def d_X5_init_50 := gq_1 db00b_10 eb_98
noncomputable def d_X5_init_53 := gq_2 db00b_10 eb_0
noncomputable def d_X5_init_54 := gq_3 db00b_10 eb_318
noncomputable def d_X5_init_57 := gq_4 db00b_10 eb_3
noncomputable def d_X5_init_59 := gq_5 db00b_10 eb_99
noncomputable def d_X5_init_62 := gq_6 db00b_10 eb_0
noncomputable def d_X5_init_63 := gq_7 db00b_10 eb_319
noncomputable def d_X5_init_66 := gq_8 db00b_10 eb_3
noncomputable def d_X5_init_68 := gq_9 db00b_10 eb_101
noncomputable def d_X5_init_71 := gq_10 db00b_10 eb_0
noncomputable def d_X5_init_72 := gq_11 db00b_10 eb_319
noncomputable def d_X5_init_75 := gq_12 db00b_10 eb_3
noncomputable def d_X5_init_77 := gq_13 db00b_10 eb_103
noncomputable def d_X5_init_80 := gq_14 db00b_10 eb_0
noncomputable def d_X5_init_81 := gq_15 db00b_10 eb_319
noncomputable def d_X5_init_84 := gq_16 db00b_10 eb_3
noncomputable def d_X5_init_86 := gq_17 db00b_10 eb_104
noncomputable def d_X5_init_89 := gq_18 db00b_10 eb_0
noncomputable def d_X5_init_90 := gq_19 db00b_10 eb_319
noncomputable def d_X5_init_93 := gq_20 db00b_10 eb_3
noncomputable def d_X5_init_95 := gq_21 db00b_10 eb_105
noncomputable def d_X5_init_98 := gq_22 db00b_10 eb_0
noncomputable def d_X5_init_99 := gq_23 db00b_10 eb_320
theorem db00b_11 : Pf_ prog_7_method_1_code [(101, [0xbc, 0x0a]), (103, [0xb5, 0x00, 0x2d]), (106, [0x2a]), (107, [0x06]), (108, [0xb5, 0x00, 0x30]), (111, [0x2a]), (112, [0xb4, 0x00, 0x2d]), (115, [0x02]), (116, [0xb8, 0x00, 0x34]), (119, [0xb1])] := pf_ok prog_7_method_1_code _ 101 (by decide +kernel)
noncomputable def d_X5_init_101 := gq_0 db00b_11 eb_3
noncomputable def d_X5_init_103 := gq_1 db00b_11 eb_106
noncomputable def d_X5_init_106 := gq_2 db00b_11 eb_0
noncomputable def d_X5_init_107 := gq_3 db00b_11 eb_55
noncomputable def d_X5_init_108 := gq_4 db00b_11 eb_107
noncomputable def d_X5_init_111 := gq_5 db00b_11 eb_0
noncomputable def d_X5_init_112 := gq_6 db00b_11 eb_128
noncomputable def d_X5_init_115 := gq_7 db00b_11 eb_27
noncomputable def d_X5_init_116 := gq_8 db00b_11 eb_321
noncomputable def d_X5_init_119 := gq_9 db00b_11 eb_8
theorem db00b_12 : Pf_ prog_7_method_2_code [(0, [0x2a]), (1, [0xb4, 0x00, 0x3a]), (4, [0x10, 0x28]), (6, [0xa1, 0x00, 0x05]), (9, [0x03]), (10, [0xac]), (11, [0x2a]), (12, [0xb4, 0x00, 0x0b]), (15, [0x2a]), (16, [0xb4, 0x00, 0x3a]), (19, [0x1b]), (20, [0x4f]), (21, [0x2a]), (22, [0xb4, 0x00, 0x0f]), (25, [0x2a]), (26, [0xb4, 0x00, 0x3a]), (29, [0x1c]), (30, [0x4f]), (31, [0x2a]), (32, [0xb4, 0x00, 0x12]), (35, [0x2a]), (36, [0xb4, 0x00, 0x3a]), (39, [0x1d]), (40, [0x4f])] := pf_ok prog_7_method_2_code _ 0 (by decide +kernel)
noncomputable def d_X5_addRank_0 := gq_0 db00b_12 eb_0
noncomputable def d_X5_addRank_1 := gq_1 db00b_12 eb_322
noncomputable def d_X5_addRank_4 := gq_2 db00b_12 eb_317
noncomputable def d_X5_addRank_6 := gq_3 db00b_12 eb_115
noncomputable def d_X5_addRank_9 := gq_4 db00b_12 eb_22
noncomputable def d_X5_addRank_10 := gq_5 db00b_12 eb_16
noncomputable def d_X5_addRank_11 := gq_6 db00b_12 eb_0
noncomputable def d_X5_addRank_12 := gq_7 db00b_12 eb_33
noncomputable def d_X5_addRank_15 := gq_8 db00b_12 eb_0
noncomputable def d_X5_addRank_16 := gq_9 db00b_12 eb_322
noncomputable def d_X5_addRank_19 := gq_10 db00b_12 eb_10
noncomputable def d_X5_addRank_20 := gq_11 db00b_12 eb_39
noncomputable def d_X5_addRank_21 := gq_12 db00b_12 eb_0
noncomputable def d_X5_addRank_22 := gq_13 db00b_12 eb_45
noncomputable def d_X5_addRank_25 := gq_14 db00b_12 eb_0
noncomputable def d_X5_addRank_26 := gq_15 db00b_12 eb_322
noncomputable def d_X5_addRank_29 := gq_16 db00b_12 eb_14
noncomputable def d_X5_addRank_30 := gq_17 db00b_12 eb_39
noncomputable def d_X5_addRank_31 := gq_18 db00b_12 eb_0
noncomputable def d_X5_addRank_32 := gq_19 db00b_12 eb_46
noncomputable def d_X5_addRank_35 := gq_20 db00b_12 eb_0
noncomputable def d_X5_addRank_36 := gq_21 db00b_12 eb_322
noncomputable def d_X5_addRank_39 := gq_22 db00b_12 eb_30
noncomputable def d_X5_addRank_40 := gq_23 db00b_12 eb_39
theorem db00b_13 : Pf_ prog_7_method_2_code [(41, [0x2a]), (42, [0xb4, 0x00, 0x15]), (45, [0x2a]), (46, [0xb4, 0x00, 0x3a]), (49, [0x15, 0x04]), (51, [0x4f]), (52, [0x2a]), (53, [0x59]), (54, [0xb4, 0x00, 0x3a]), (57, [0x04]), (58, [0x60]), (59, [0xb5, 0x00, 0x3a]), (62, [0x04]), (63, [0xac])] := pf_ok prog_7_method_2_code _ 41 (by decide +kernel)
noncomputable def d_X5_addRank_41 := gq_0 db00b_13 eb_0
noncomputable def d_X5_addRank_42 := gq_1 db00b_13 eb_18
noncomputable def d_X5_addRank_45 := gq_2 db00b_13 eb_0
noncomputable def d_X5_addRank_46 := gq_3 db00b_13 eb_322
noncomputable def d_X5_addRank_49 := gq_4 db00b_13 eb_77
noncomputable def d_X5_addRank_51 := gq_5 db00b_13 eb_39
noncomputable def d_X5_addRank_52 := gq_6 db00b_13 eb_0
noncomputable def d_X5_addRank_53 := gq_7 db00b_13 eb_47
noncomputable def d_X5_addRank_54 := gq_8 db00b_13 eb_322
noncomputable def d_X5_addRank_57 := gq_9 db00b_13 eb_20
noncomputable def d_X5_addRank_58 := gq_10 db00b_13 eb_36
noncomputable def d_X5_addRank_59 := gq_11 db00b_13 eb_323
noncomputable def d_X5_addRank_62 := gq_12 db00b_13 eb_20
noncomputable def d_X5_addRank_63 := gq_13 db00b_13 eb_16
theorem db00b_14 : Pf_ prog_7_method_3_code [(0, [0x2b]), (1, [0xb4, 0x00, 0x3d]), (4, [0x36, 0x04]), (6, [0x02]), (7, [0x36, 0x05]), (9, [0x03]), (10, [0x36, 0x06]), (12, [0x15, 0x06]), (14, [0x2a]), (15, [0xb4, 0x00, 0x3a]), (18, [0xa2, 0x00, 0x44]), (21, [0x2a]), (22, [0xb4, 0x00, 0x0b]), (25, [0x15, 0x06]), (27, [0x2e]), (28, [0x2b]), (29, [0xb4, 0x00, 0x42]), (32, [0xa0, 0x00, 0x30]), (35, [0x2a]), (36, [0xb4, 0x00, 0x15]), (39, [0x15, 0x06]), (41, [0x2e]), (42, [0x1d]), (43, [0xa3, 0x00, 0x25])] := pf_ok prog_7_method_3_code _ 0 (by decide +kernel)
noncomputable def d_X5_classOf_0 := gq_0 db00b_14 eb_24
noncomputable def d_X5_classOf_1 := gq_1 db00b_14 eb_324
noncomputable def d_X5_classOf_4 := gq_2 db00b_14 eb_134
noncomputable def d_X5_classOf_6 := gq_3 db00b_14 eb_27
noncomputable def d_X5_classOf_7 := gq_4 db00b_14 eb_135
noncomputable def d_X5_classOf_9 := gq_5 db00b_14 eb_22
noncomputable def d_X5_classOf_10 := gq_6 db00b_14 eb_59
noncomputable def d_X5_classOf_12 := gq_7 db00b_14 eb_76
noncomputable def d_X5_classOf_14 := gq_8 db00b_14 eb_0
noncomputable def d_X5_classOf_15 := gq_9 db00b_14 eb_322
noncomputable def d_X5_classOf_18 := gq_10 db00b_14 eb_325
noncomputable def d_X5_classOf_21 := gq_11 db00b_14 eb_0
noncomputable def d_X5_classOf_22 := gq_12 db00b_14 eb_33
noncomputable def d_X5_classOf_25 := gq_13 db00b_14 eb_76
noncomputable def d_X5_classOf_27 := gq_14 db00b_14 eb_38
noncomputable def d_X5_classOf_28 := gq_15 db00b_14 eb_24
noncomputable def d_X5_classOf_29 := gq_16 db00b_14 eb_326
noncomputable def d_X5_classOf_32 := gq_17 db00b_14 eb_260
noncomputable def d_X5_classOf_35 := gq_18 db00b_14 eb_0
noncomputable def d_X5_classOf_36 := gq_19 db00b_14 eb_18
noncomputable def d_X5_classOf_39 := gq_20 db00b_14 eb_76
noncomputable def d_X5_classOf_41 := gq_21 db00b_14 eb_38
noncomputable def d_X5_classOf_42 := gq_22 db00b_14 eb_30
noncomputable def d_X5_classOf_43 := gq_23 db00b_14 eb_327
theorem db00b_15 : Pf_ prog_7_method_3_code [(46, [0x2a]), (47, [0xb4, 0x00, 0x12]), (50, [0x15, 0x06]), (52, [0x2e]), (53, [0x15, 0x05]), (55, [0x1c]), (56, [0xb8, 0x00, 0x45]), (59, [0x99, 0x00, 0x15]), (62, [0x2a]), (63, [0xb4, 0x00, 0x0f]), (66, [0x15, 0x06]), (68, [0x2e]), (69, [0x36, 0x04]), (71, [0x2a]), (72, [0xb4, 0x00, 0x12]), (75, [0x15, 0x06]), (77, [0x2e]), (78, [0x36, 0x05]), (80, [0x84, 0x06, 0x01]), (83, [0xa7, 0xff, 0xb9]), (86, [0x15, 0x04]), (88, [0xac])] := pf_ok prog_7_method_3_code _ 46 (by decide +kernel)
noncomputable def d_X5_classOf_46 := gq_0 db00b_15 eb_0
noncomputable def d_X5_classOf_47 := gq_1 db00b_15 eb_46
noncomputable def d_X5_classOf_50 := gq_2 db00b_15 eb_76
noncomputable def d_X5_classOf_52 := gq_3 db00b_15 eb_38
noncomputable def d_X5_classOf_53 := gq_4 db00b_15 eb_126
noncomputable def d_X5_classOf_55 := gq_5 db00b_15 eb_14
noncomputable def d_X5_classOf_56 := gq_6 db00b_15 eb_328
noncomputable def d_X5_classOf_59 := gq_7 db00b_15 eb_329
noncomputable def d_X5_classOf_62 := gq_8 db00b_15 eb_0
noncomputable def d_X5_classOf_63 := gq_9 db00b_15 eb_45
noncomputable def d_X5_classOf_66 := gq_10 db00b_15 eb_76
noncomputable def d_X5_classOf_68 := gq_11 db00b_15 eb_38
noncomputable def d_X5_classOf_69 := gq_12 db00b_15 eb_134
noncomputable def d_X5_classOf_71 := gq_13 db00b_15 eb_0
noncomputable def d_X5_classOf_72 := gq_14 db00b_15 eb_46
noncomputable def d_X5_classOf_75 := gq_15 db00b_15 eb_76
noncomputable def d_X5_classOf_77 := gq_16 db00b_15 eb_38
noncomputable def d_X5_classOf_78 := gq_17 db00b_15 eb_135
noncomputable def d_X5_classOf_80 := gq_18 db00b_15 eb_73
noncomputable def d_X5_classOf_83 := gq_19 db00b_15 eb_330
noncomputable def d_X5_classOf_86 := gq_20 db00b_15 eb_77
noncomputable def d_X5_classOf_88 := gq_21 db00b_15 eb_16
theorem db00b_16 : Pf_ prog_7_method_4_code [(0, [0x1b]), (1, [0x03]), (2, [0x10, 0x0b]), (4, [0xb8, 0x00, 0x45]), (7, [0x99, 0x00, 0x19]), (10, [0x1c]), (11, [0x03]), (12, [0x10, 0x0d]), (14, [0xb8, 0x00, 0x45]), (17, [0x99, 0x00, 0x0f]), (20, [0x2a]), (21, [0xb4, 0x00, 0x1b]), (24, [0x1c]), (25, [0x10, 0x0c]), (27, [0x68]), (28, [0x1b]), (29, [0x60]), (30, [0x1d]), (31, [0x4f]), (32, [0xb1])] := pf_ok prog_7_method_4_code _ 0 (by decide +kernel)
noncomputable def d_X5_setWage_0 := gq_0 db00b_16 eb_10
noncomputable def d_X5_setWage_1 := gq_1 db00b_16 eb_22
noncomputable def d_X5_setWage_2 := gq_2 db00b_16 eb_331
noncomputable def d_X5_setWage_4 := gq_3 db00b_16 eb_328
noncomputable def d_X5_setWage_7 := gq_4 db00b_16 eb_296
noncomputable def d_X5_setWage_10 := gq_5 db00b_16 eb_14
noncomputable def d_X5_setWage_11 := gq_6 db00b_16 eb_22
noncomputable def d_X5_setWage_12 := gq_7 db00b_16 eb_332
noncomputable def d_X5_setWage_14 := gq_8 db00b_16 eb_328
noncomputable def d_X5_setWage_17 := gq_9 db00b_16 eb_297
noncomputable def d_X5_setWage_20 := gq_10 db00b_16 eb_0
noncomputable def d_X5_setWage_21 := gq_11 db00b_16 eb_122
noncomputable def d_X5_setWage_24 := gq_12 db00b_16 eb_14
noncomputable def d_X5_setWage_25 := gq_13 db00b_16 eb_5
noncomputable def d_X5_setWage_27 := gq_14 db00b_16 eb_35
noncomputable def d_X5_setWage_28 := gq_15 db00b_16 eb_10
noncomputable def d_X5_setWage_29 := gq_16 db00b_16 eb_36
noncomputable def d_X5_setWage_30 := gq_17 db00b_16 eb_30
noncomputable def d_X5_setWage_31 := gq_18 db00b_16 eb_39
noncomputable def d_X5_setWage_32 := gq_19 db00b_16 eb_8
theorem db00b_17 : Pf_ prog_7_method_5_code [(0, [0x1c]), (1, [0x10, 0x0e]), (3, [0xb8, 0x00, 0x49]), (6, [0x10, 0x0c]), (8, [0x68]), (9, [0x36, 0x04]), (11, [0x03]), (12, [0x36, 0x05]), (14, [0x03]), (15, [0x36, 0x06]), (17, [0x15, 0x06]), (19, [0x15, 0x04]), (21, [0xa2, 0x00, 0x26]), (24, [0x15, 0x06]), (26, [0x10, 0x0c]), (28, [0x70]), (29, [0x1b]), (30, [0xa2, 0x00, 0x17]), (33, [0x2a]), (34, [0xb4, 0x00, 0x1b]), (37, [0x15, 0x06]), (39, [0x2e]), (40, [0x2a]), (41, [0xb4, 0x00, 0x1e])] := pf_ok prog_7_method_5_code _ 0 (by decide +kernel)
noncomputable def d_X5_bookAll_0 := gq_0 db00b_17 eb_14
noncomputable def d_X5_bookAll_1 := gq_1 db00b_17 eb_333
noncomputable def d_X5_bookAll_3 := gq_2 db00b_17 eb_228
noncomputable def d_X5_bookAll_6 := gq_3 db00b_17 eb_5
noncomputable def d_X5_bookAll_8 := gq_4 db00b_17 eb_35
noncomputable def d_X5_bookAll_9 := gq_5 db00b_17 eb_134
noncomputable def d_X5_bookAll_11 := gq_6 db00b_17 eb_22
noncomputable def d_X5_bookAll_12 := gq_7 db00b_17 eb_135
noncomputable def d_X5_bookAll_14 := gq_8 db00b_17 eb_22
noncomputable def d_X5_bookAll_15 := gq_9 db00b_17 eb_59
noncomputable def d_X5_bookAll_17 := gq_10 db00b_17 eb_76
noncomputable def d_X5_bookAll_19 := gq_11 db00b_17 eb_77
noncomputable def d_X5_bookAll_21 := gq_12 db00b_17 eb_334
noncomputable def d_X5_bookAll_24 := gq_13 db00b_17 eb_76
noncomputable def d_X5_bookAll_26 := gq_14 db00b_17 eb_5
noncomputable def d_X5_bookAll_28 := gq_15 db00b_17 eb_221
noncomputable def d_X5_bookAll_29 := gq_16 db00b_17 eb_10
noncomputable def d_X5_bookAll_30 := gq_17 db00b_17 eb_118
noncomputable def d_X5_bookAll_33 := gq_18 db00b_17 eb_0
noncomputable def d_X5_bookAll_34 := gq_19 db00b_17 eb_122
noncomputable def d_X5_bookAll_37 := gq_20 db00b_17 eb_76
noncomputable def d_X5_bookAll_39 := gq_21 db00b_17 eb_38
noncomputable def d_X5_bookAll_40 := gq_22 db00b_17 eb_0
noncomputable def d_X5_bookAll_41 := gq_23 db00b_17 eb_125
theorem db00b_18 : Pf_ prog_7_method_5_code [(44, [0x15, 0x06]), (46, [0x2e]), (47, [0x9f, 0x00, 0x06]), (50, [0x84, 0x05, 0x01]), (53, [0x84, 0x06, 0x01]), (56, [0xa7, 0xff, 0xd9]), (59, [0x2a]), (60, [0xb4, 0x00, 0x4f]), (63, [0x15, 0x05]), (65, [0x60]), (66, [0x11, 0x02, 0x58]), (69, [0xa4, 0x00, 0x05]), (72, [0x02]), (73, [0xac]), (74, [0x03]), (75, [0x36, 0x06]), (77, [0x15, 0x06]), (79, [0x15, 0x04]), (81, [0xa2, 0x00, 0x2a]), (84, [0x15, 0x06]), (86, [0x10, 0x0c]), (88, [0x70]), (89, [0x1b]), (90, [0xa2, 0x00, 0x1b])] := pf_ok prog_7_method_5_code _ 44 (by decide +kernel)
noncomputable def d_X5_bookAll_44 := gq_0 db00b_18 eb_76
noncomputable def d_X5_bookAll_46 := gq_1 db00b_18 eb_38
noncomputable def d_X5_bookAll_47 := gq_2 db00b_18 eb_175
noncomputable def d_X5_bookAll_50 := gq_3 db00b_18 eb_223
noncomputable def d_X5_bookAll_53 := gq_4 db00b_18 eb_73
noncomputable def d_X5_bookAll_56 := gq_5 db00b_18 eb_335
noncomputable def d_X5_bookAll_59 := gq_6 db00b_18 eb_0
noncomputable def d_X5_bookAll_60 := gq_7 db00b_18 eb_336
noncomputable def d_X5_bookAll_63 := gq_8 db00b_18 eb_126
noncomputable def d_X5_bookAll_65 := gq_9 db00b_18 eb_36
noncomputable def d_X5_bookAll_66 := gq_10 db00b_18 eb_319
noncomputable def d_X5_bookAll_69 := gq_11 db00b_18 eb_337
noncomputable def d_X5_bookAll_72 := gq_12 db00b_18 eb_27
noncomputable def d_X5_bookAll_73 := gq_13 db00b_18 eb_16
noncomputable def d_X5_bookAll_74 := gq_14 db00b_18 eb_22
noncomputable def d_X5_bookAll_75 := gq_15 db00b_18 eb_59
noncomputable def d_X5_bookAll_77 := gq_16 db00b_18 eb_76
noncomputable def d_X5_bookAll_79 := gq_17 db00b_18 eb_77
noncomputable def d_X5_bookAll_81 := gq_18 db00b_18 eb_338
noncomputable def d_X5_bookAll_84 := gq_19 db00b_18 eb_76
noncomputable def d_X5_bookAll_86 := gq_20 db00b_18 eb_5
noncomputable def d_X5_bookAll_88 := gq_21 db00b_18 eb_221
noncomputable def d_X5_bookAll_89 := gq_22 db00b_18 eb_10
noncomputable def d_X5_bookAll_90 := gq_23 db00b_18 eb_339
theorem db00b_19 : Pf_ prog_7_method_5_code [(93, [0x2a]), (94, [0xb4, 0x00, 0x1b]), (97, [0x15, 0x06]), (99, [0x2e]), (100, [0x2a]), (101, [0xb4, 0x00, 0x1e]), (104, [0x15, 0x06]), (106, [0x2e]), (107, [0x9f, 0x00, 0x0a]), (110, [0x2a]), (111, [0x15, 0x06]), (113, [0x1d]), (114, [0xb6, 0x00, 0x52]), (117, [0x84, 0x06, 0x01]), (120, [0xa7, 0xff, 0xd5]), (123, [0x15, 0x05]), (125, [0xac])] := pf_ok prog_7_method_5_code _ 93 (by decide +kernel)
noncomputable def d_X5_bookAll_93 := gq_0 db00b_19 eb_0
noncomputable def d_X5_bookAll_94 := gq_1 db00b_19 eb_122
noncomputable def d_X5_bookAll_97 := gq_2 db00b_19 eb_76
noncomputable def d_X5_bookAll_99 := gq_3 db00b_19 eb_38
noncomputable def d_X5_bookAll_100 := gq_4 db00b_19 eb_0
noncomputable def d_X5_bookAll_101 := gq_5 db00b_19 eb_125
noncomputable def d_X5_bookAll_104 := gq_6 db00b_19 eb_76
noncomputable def d_X5_bookAll_106 := gq_7 db00b_19 eb_38
noncomputable def d_X5_bookAll_107 := gq_8 db00b_19 eb_340
noncomputable def d_X5_bookAll_110 := gq_9 db00b_19 eb_0
noncomputable def d_X5_bookAll_111 := gq_10 db00b_19 eb_76
noncomputable def d_X5_bookAll_113 := gq_11 db00b_19 eb_30
noncomputable def d_X5_bookAll_114 := gq_12 db00b_19 eb_341
noncomputable def d_X5_bookAll_117 := gq_13 db00b_19 eb_73
noncomputable def d_X5_bookAll_120 := gq_14 db00b_19 eb_342
noncomputable def d_X5_bookAll_123 := gq_15 db00b_19 eb_126
noncomputable def d_X5_bookAll_125 := gq_16 db00b_19 eb_16
theorem db00b_20 : Pf_ prog_7_method_6_code [(0, [0x2a]), (1, [0xb4, 0x00, 0x4f]), (4, [0x11, 0x02, 0x58]), (7, [0xa2, 0x00, 0x65]), (10, [0x2a]), (11, [0xb4, 0x00, 0x21]), (14, [0x2a]), (15, [0xb4, 0x00, 0x4f]), (18, [0x1b]), (19, [0x10, 0x0c]), (21, [0x70]), (22, [0x4f]), (23, [0x2a]), (24, [0xb4, 0x00, 0x24]), (27, [0x2a]), (28, [0xb4, 0x00, 0x4f]), (31, [0x1b]), (32, [0x10, 0x0c]), (34, [0x6c]), (35, [0x4f]), (36, [0x2a]), (37, [0xb4, 0x00, 0x27]), (40, [0x2a]), (41, [0xb4, 0x00, 0x4f])] := pf_ok prog_7_method_6_code _ 0 (by decide +kernel)
noncomputable def d_X5_writeLine_0 := gq_0 db00b_20 eb_0
noncomputable def d_X5_writeLine_1 := gq_1 db00b_20 eb_336
noncomputable def d_X5_writeLine_4 := gq_2 db00b_20 eb_319
noncomputable def d_X5_writeLine_7 := gq_3 db00b_20 eb_343
noncomputable def d_X5_writeLine_10 := gq_4 db00b_20 eb_0
noncomputable def d_X5_writeLine_11 := gq_5 db00b_20 eb_110
noncomputable def d_X5_writeLine_14 := gq_6 db00b_20 eb_0
noncomputable def d_X5_writeLine_15 := gq_7 db00b_20 eb_336
noncomputable def d_X5_writeLine_18 := gq_8 db00b_20 eb_10
noncomputable def d_X5_writeLine_19 := gq_9 db00b_20 eb_5
noncomputable def d_X5_writeLine_21 := gq_10 db00b_20 eb_221
noncomputable def d_X5_writeLine_22 := gq_11 db00b_20 eb_39
noncomputable def d_X5_writeLine_23 := gq_12 db00b_20 eb_0
noncomputable def d_X5_writeLine_24 := gq_13 db00b_20 eb_177
noncomputable def d_X5_writeLine_27 := gq_14 db00b_20 eb_0
noncomputable def d_X5_writeLine_28 := gq_15 db00b_20 eb_336
noncomputable def d_X5_writeLine_31 := gq_16 db00b_20 eb_10
noncomputable def d_X5_writeLine_32 := gq_17 db00b_20 eb_5
noncomputable def d_X5_writeLine_34 := gq_18 db00b_20 eb_222
noncomputable def d_X5_writeLine_35 := gq_19 db00b_20 eb_39
noncomputable def d_X5_writeLine_36 := gq_20 db00b_20 eb_0
noncomputable def d_X5_writeLine_37 := gq_21 db00b_20 eb_178
noncomputable def d_X5_writeLine_40 := gq_22 db00b_20 eb_0
noncomputable def d_X5_writeLine_41 := gq_23 db00b_20 eb_336
theorem db00b_21 : Pf_ prog_7_method_6_code [(44, [0x2a]), (45, [0xb4, 0x00, 0x1b]), (48, [0x1b]), (49, [0x2e]), (50, [0x2a]), (51, [0xb4, 0x00, 0x1e]), (54, [0x1b]), (55, [0x2e]), (56, [0x64]), (57, [0x4f]), (58, [0x2a]), (59, [0xb4, 0x00, 0x2a]), (62, [0x2a]), (63, [0xb4, 0x00, 0x4f]), (66, [0x1c]), (67, [0x4f]), (68, [0x2a]), (69, [0x59]), (70, [0xb4, 0x00, 0x56]), (73, [0x2a]), (74, [0xb4, 0x00, 0x27]), (77, [0x2a]), (78, [0xb4, 0x00, 0x4f]), (81, [0x2e])] := pf_ok prog_7_method_6_code _ 44 (by decide +kernel)
noncomputable def d_X5_writeLine_44 := gq_0 db00b_21 eb_0
noncomputable def d_X5_writeLine_45 := gq_1 db00b_21 eb_122
noncomputable def d_X5_writeLine_48 := gq_2 db00b_21 eb_10
noncomputable def d_X5_writeLine_49 := gq_3 db00b_21 eb_38
noncomputable def d_X5_writeLine_50 := gq_4 db00b_21 eb_0
noncomputable def d_X5_writeLine_51 := gq_5 db00b_21 eb_125
noncomputable def d_X5_writeLine_54 := gq_6 db00b_21 eb_10
noncomputable def d_X5_writeLine_55 := gq_7 db00b_21 eb_38
noncomputable def d_X5_writeLine_56 := gq_8 db00b_21 eb_49
noncomputable def d_X5_writeLine_57 := gq_9 db00b_21 eb_39
noncomputable def d_X5_writeLine_58 := gq_10 db00b_21 eb_0
noncomputable def d_X5_writeLine_59 := gq_11 db00b_21 eb_179
noncomputable def d_X5_writeLine_62 := gq_12 db00b_21 eb_0
noncomputable def d_X5_writeLine_63 := gq_13 db00b_21 eb_336
noncomputable def d_X5_writeLine_66 := gq_14 db00b_21 eb_14
noncomputable def d_X5_writeLine_67 := gq_15 db00b_21 eb_39
noncomputable def d_X5_writeLine_68 := gq_16 db00b_21 eb_0
noncomputable def d_X5_writeLine_69 := gq_17 db00b_21 eb_47
noncomputable def d_X5_writeLine_70 := gq_18 db00b_21 eb_344
noncomputable def d_X5_writeLine_73 := gq_19 db00b_21 eb_0
noncomputable def d_X5_writeLine_74 := gq_20 db00b_21 eb_178
noncomputable def d_X5_writeLine_77 := gq_21 db00b_21 eb_0
noncomputable def d_X5_writeLine_78 := gq_22 db00b_21 eb_336
noncomputable def d_X5_writeLine_81 := gq_23 db00b_21 eb_38
theorem db00b_22 : Pf_ prog_7_method_6_code [(82, [0x60]), (83, [0xb5, 0x00, 0x56]), (86, [0x2a]), (87, [0xb4, 0x00, 0x1e]), (90, [0x1b]), (91, [0x2a]), (92, [0xb4, 0x00, 0x1b]), (95, [0x1b]), (96, [0x2e]), (97, [0x4f]), (98, [0x2a]), (99, [0x59]), (100, [0xb4, 0x00, 0x4f]), (103, [0x04]), (104, [0x60]), (105, [0xb5, 0x00, 0x4f]), (108, [0xb1])] := pf_ok prog_7_method_6_code _ 82 (by decide +kernel)
noncomputable def d_X5_writeLine_82 := gq_0 db00b_22 eb_36
noncomputable def d_X5_writeLine_83 := gq_1 db00b_22 eb_345
noncomputable def d_X5_writeLine_86 := gq_2 db00b_22 eb_0
noncomputable def d_X5_writeLine_87 := gq_3 db00b_22 eb_125
noncomputable def d_X5_writeLine_90 := gq_4 db00b_22 eb_10
noncomputable def d_X5_writeLine_91 := gq_5 db00b_22 eb_0
noncomputable def d_X5_writeLine_92 := gq_6 db00b_22 eb_122
noncomputable def d_X5_writeLine_95 := gq_7 db00b_22 eb_10
noncomputable def d_X5_writeLine_96 := gq_8 db00b_22 eb_38
noncomputable def d_X5_writeLine_97 := gq_9 db00b_22 eb_39
noncomputable def d_X5_writeLine_98 := gq_10 db00b_22 eb_0
noncomputable def d_X5_writeLine_99 := gq_11 db00b_22 eb_47
noncomputable def d_X5_writeLine_100 := gq_12 db00b_22 eb_336
noncomputable def d_X5_writeLine_103 := gq_13 db00b_22 eb_20
noncomputable def d_X5_writeLine_104 := gq_14 db00b_22 eb_36
noncomputable def d_X5_writeLine_105 := gq_15 db00b_22 eb_346
noncomputable def d_X5_writeLine_108 := gq_16 db00b_22 eb_8
theorem d_X5_tellLine_18 : decode prog_7_method_7_code 18 = .ok (.tableswitch 58 0 3 #[30, 37, 44, 51], 30) := by decide +kernel
theorem db00b_23 : Pf_ prog_7_method_7_code [(0, [0x1b]), (1, [0x03]), (2, [0x2a]), (3, [0xb4, 0x00, 0x4f]), (6, [0x04]), (7, [0x64]), (8, [0xb8, 0x00, 0x45]), (11, [0x9a, 0x00, 0x06]), (14, [0x12, 0x59]), (16, [0xac]), (17, [0x1c]), (48, [0x2a]), (49, [0xb4, 0x00, 0x21]), (52, [0x1b]), (53, [0x2e]), (54, [0xac]), (55, [0x2a]), (56, [0xb4, 0x00, 0x24]), (59, [0x1b]), (60, [0x2e]), (61, [0xac]), (62, [0x2a]), (63, [0xb4, 0x00, 0x27]), (66, [0x1b])] := pf_ok prog_7_method_7_code _ 0 (by decide +kernel)
noncomputable def d_X5_tellLine_0 := gq_0 db00b_23 eb_10
noncomputable def d_X5_tellLine_1 := gq_1 db00b_23 eb_22
noncomputable def d_X5_tellLine_2 := gq_2 db00b_23 eb_0
noncomputable def d_X5_tellLine_3 := gq_3 db00b_23 eb_336
noncomputable def d_X5_tellLine_6 := gq_4 db00b_23 eb_20
noncomputable def d_X5_tellLine_7 := gq_5 db00b_23 eb_49
noncomputable def d_X5_tellLine_8 := gq_6 db00b_23 eb_328
noncomputable def d_X5_tellLine_11 := gq_7 db00b_23 eb_347
noncomputable def d_X5_tellLine_14 := gq_8 db00b_23 eb_348
noncomputable def d_X5_tellLine_16 := gq_9 db00b_23 eb_16
noncomputable def d_X5_tellLine_17 := gq_10 db00b_23 eb_14
noncomputable def d_X5_tellLine_48 := gq_11 db00b_23 eb_0
noncomputable def d_X5_tellLine_49 := gq_12 db00b_23 eb_110
noncomputable def d_X5_tellLine_52 := gq_13 db00b_23 eb_10
noncomputable def d_X5_tellLine_53 := gq_14 db00b_23 eb_38
noncomputable def d_X5_tellLine_54 := gq_15 db00b_23 eb_16
noncomputable def d_X5_tellLine_55 := gq_16 db00b_23 eb_0
noncomputable def d_X5_tellLine_56 := gq_17 db00b_23 eb_177
noncomputable def d_X5_tellLine_59 := gq_18 db00b_23 eb_10
noncomputable def d_X5_tellLine_60 := gq_19 db00b_23 eb_38
noncomputable def d_X5_tellLine_61 := gq_20 db00b_23 eb_16
noncomputable def d_X5_tellLine_62 := gq_21 db00b_23 eb_0
noncomputable def d_X5_tellLine_63 := gq_22 db00b_23 eb_178
noncomputable def d_X5_tellLine_66 := gq_23 db00b_23 eb_10
theorem db00b_24 : Pf_ prog_7_method_7_code [(67, [0x2e]), (68, [0xac]), (69, [0x2a]), (70, [0xb4, 0x00, 0x2a]), (73, [0x1b]), (74, [0x2e]), (75, [0xac]), (76, [0x12, 0x59]), (78, [0xac])] := pf_ok prog_7_method_7_code _ 67 (by decide +kernel)
noncomputable def d_X5_tellLine_67 := gq_0 db00b_24 eb_38
noncomputable def d_X5_tellLine_68 := gq_1 db00b_24 eb_16
noncomputable def d_X5_tellLine_69 := gq_2 db00b_24 eb_0
noncomputable def d_X5_tellLine_70 := gq_3 db00b_24 eb_179
noncomputable def d_X5_tellLine_73 := gq_4 db00b_24 eb_10
noncomputable def d_X5_tellLine_74 := gq_5 db00b_24 eb_38
noncomputable def d_X5_tellLine_75 := gq_6 db00b_24 eb_16
noncomputable def d_X5_tellLine_76 := gq_7 db00b_24 eb_348
noncomputable def d_X5_tellLine_78 := gq_8 db00b_24 eb_16
theorem db00b_25 : Pf_ prog_7_method_8_code [(0, [0x1b]), (1, [0x03]), (2, [0x06]), (3, [0xb8, 0x00, 0x45]), (6, [0x99, 0x00, 0x19]), (9, [0x1c]), (10, [0x03]), (11, [0x10, 0x0b]), (13, [0xb8, 0x00, 0x45]), (16, [0x99, 0x00, 0x0f]), (19, [0x2a]), (20, [0xb4, 0x00, 0x2d]), (23, [0x1b]), (24, [0x10, 0x0c]), (26, [0x68]), (27, [0x1c]), (28, [0x60]), (29, [0x1d]), (30, [0x4f]), (31, [0xb1])] := pf_ok prog_7_method_8_code _ 0 (by decide +kernel)
noncomputable def d_X5_setMark_0 := gq_0 db00b_25 eb_10
noncomputable def d_X5_setMark_1 := gq_1 db00b_25 eb_22
noncomputable def d_X5_setMark_2 := gq_2 db00b_25 eb_55
noncomputable def d_X5_setMark_3 := gq_3 db00b_25 eb_328
noncomputable def d_X5_setMark_6 := gq_4 db00b_25 eb_296
noncomputable def d_X5_setMark_9 := gq_5 db00b_25 eb_14
noncomputable def d_X5_setMark_10 := gq_6 db00b_25 eb_22
noncomputable def d_X5_setMark_11 := gq_7 db00b_25 eb_331
noncomputable def d_X5_setMark_13 := gq_8 db00b_25 eb_328
noncomputable def d_X5_setMark_16 := gq_9 db00b_25 eb_297
noncomputable def d_X5_setMark_19 := gq_10 db00b_25 eb_0
noncomputable def d_X5_setMark_20 := gq_11 db00b_25 eb_128
noncomputable def d_X5_setMark_23 := gq_12 db00b_25 eb_10
noncomputable def d_X5_setMark_24 := gq_13 db00b_25 eb_5
noncomputable def d_X5_setMark_26 := gq_14 db00b_25 eb_35
noncomputable def d_X5_setMark_27 := gq_15 db00b_25 eb_14
noncomputable def d_X5_setMark_28 := gq_16 db00b_25 eb_36
noncomputable def d_X5_setMark_29 := gq_17 db00b_25 eb_30
noncomputable def d_X5_setMark_30 := gq_18 db00b_25 eb_39
noncomputable def d_X5_setMark_31 := gq_19 db00b_25 eb_8
theorem db00b_26 : Pf_ prog_7_method_9_code [(0, [0x03]), (1, [0x36, 0x04]), (3, [0x03]), (4, [0x36, 0x05]), (6, [0x03]), (7, [0x36, 0x06]), (9, [0x15, 0x06]), (11, [0x1d]), (12, [0x10, 0x0c]), (14, [0xb8, 0x00, 0x49]), (17, [0xa2, 0x00, 0x3e]), (20, [0x2a]), (21, [0xb4, 0x00, 0x2d]), (24, [0x1b]), (25, [0x10, 0x0c]), (27, [0x68]), (28, [0x15, 0x06]), (30, [0x60]), (31, [0x2e]), (32, [0x36, 0x07]), (34, [0x2a]), (35, [0xb4, 0x00, 0x2d]), (38, [0x1c]), (39, [0x10, 0x0c])] := pf_ok prog_7_method_9_code _ 0 (by decide +kernel)
noncomputable def d_X5_compare_0 := gq_0 db00b_26 eb_22
noncomputable def d_X5_compare_1 := gq_1 db00b_26 eb_134
noncomputable def d_X5_compare_3 := gq_2 db00b_26 eb_22
noncomputable def d_X5_compare_4 := gq_3 db00b_26 eb_135
noncomputable def d_X5_compare_6 := gq_4 db00b_26 eb_22
noncomputable def d_X5_compare_7 := gq_5 db00b_26 eb_59
noncomputable def d_X5_compare_9 := gq_6 db00b_26 eb_76
noncomputable def d_X5_compare_11 := gq_7 db00b_26 eb_30
noncomputable def d_X5_compare_12 := gq_8 db00b_26 eb_5
noncomputable def d_X5_compare_14 := gq_9 db00b_26 eb_228
noncomputable def d_X5_compare_17 := gq_10 db00b_26 eb_349
noncomputable def d_X5_compare_20 := gq_11 db00b_26 eb_0
noncomputable def d_X5_compare_21 := gq_12 db00b_26 eb_128
noncomputable def d_X5_compare_24 := gq_13 db00b_26 eb_10
noncomputable def d_X5_compare_25 := gq_14 db00b_26 eb_5
noncomputable def d_X5_compare_27 := gq_15 db00b_26 eb_35
noncomputable def d_X5_compare_28 := gq_16 db00b_26 eb_76
noncomputable def d_X5_compare_30 := gq_17 db00b_26 eb_36
noncomputable def d_X5_compare_31 := gq_18 db00b_26 eb_38
noncomputable def d_X5_compare_32 := gq_19 db00b_26 eb_60
noncomputable def d_X5_compare_34 := gq_20 db00b_26 eb_0
noncomputable def d_X5_compare_35 := gq_21 db00b_26 eb_128
noncomputable def d_X5_compare_38 := gq_22 db00b_26 eb_14
noncomputable def d_X5_compare_39 := gq_23 db00b_26 eb_5
theorem db00b_27 : Pf_ prog_7_method_9_code [(41, [0x68]), (42, [0x15, 0x06]), (44, [0x60]), (45, [0x2e]), (46, [0x36, 0x08]), (48, [0x15, 0x07]), (50, [0x02]), (51, [0x9f, 0x00, 0x16]), (54, [0x15, 0x08]), (56, [0x02]), (57, [0x9f, 0x00, 0x10]), (60, [0x84, 0x04, 0x01]), (63, [0x15, 0x05]), (65, [0x15, 0x07]), (67, [0x15, 0x08]), (69, [0x64]), (70, [0x60]), (71, [0x36, 0x05]), (73, [0x84, 0x06, 0x01]), (76, [0xa7, 0xff, 0xbd]), (79, [0x15, 0x04]), (81, [0x2a]), (82, [0xb4, 0x00, 0x30]), (85, [0xa1, 0x00, 0x08])] := pf_ok prog_7_method_9_code _ 41 (by decide +kernel)
noncomputable def d_X5_compare_41 := gq_0 db00b_27 eb_35
noncomputable def d_X5_compare_42 := gq_1 db00b_27 eb_76
noncomputable def d_X5_compare_44 := gq_2 db00b_27 eb_36
noncomputable def d_X5_compare_45 := gq_3 db00b_27 eb_38
noncomputable def d_X5_compare_46 := gq_4 db00b_27 eb_62
noncomputable def d_X5_compare_48 := gq_5 db00b_27 eb_74
noncomputable def d_X5_compare_50 := gq_6 db00b_27 eb_27
noncomputable def d_X5_compare_51 := gq_7 db00b_27 eb_350
noncomputable def d_X5_compare_54 := gq_8 db00b_27 eb_65
noncomputable def d_X5_compare_56 := gq_9 db00b_27 eb_27
noncomputable def d_X5_compare_57 := gq_10 db00b_27 eb_308
noncomputable def d_X5_compare_60 := gq_11 db00b_27 eb_146
noncomputable def d_X5_compare_63 := gq_12 db00b_27 eb_126
noncomputable def d_X5_compare_65 := gq_13 db00b_27 eb_74
noncomputable def d_X5_compare_67 := gq_14 db00b_27 eb_65
noncomputable def d_X5_compare_69 := gq_15 db00b_27 eb_49
noncomputable def d_X5_compare_70 := gq_16 db00b_27 eb_36
noncomputable def d_X5_compare_71 := gq_17 db00b_27 eb_135
noncomputable def d_X5_compare_73 := gq_18 db00b_27 eb_73
noncomputable def d_X5_compare_76 := gq_19 db00b_27 eb_232
noncomputable def d_X5_compare_79 := gq_20 db00b_27 eb_77
noncomputable def d_X5_compare_81 := gq_21 db00b_27 eb_0
noncomputable def d_X5_compare_82 := gq_22 db00b_27 eb_129
noncomputable def d_X5_compare_85 := gq_23 db00b_27 eb_351
theorem db00b_28 : Pf_ prog_7_method_9_code [(88, [0x15, 0x05]), (90, [0xa7, 0x00, 0x05]), (93, [0x12, 0x59]), (95, [0xac])] := pf_ok prog_7_method_9_code _ 88 (by decide +kernel)
noncomputable def d_X5_compare_88 := gq_0 db00b_28 eb_126
noncomputable def d_X5_compare_90 := gq_1 db00b_28 eb_90
noncomputable def d_X5_compare_93 := gq_2 db00b_28 eb_348
noncomputable def d_X5_compare_95 := gq_3 db00b_28 eb_16
theorem db00b_29 : Pf_ prog_8_method_1_code [(0, [0x2a]), (1, [0xb7, 0x00, 0x03]), (4, [0x2a]), (5, [0x10, 0x08]), (7, [0xbc, 0x0a]), (9, [0xb5, 0x00, 0x0b]), (12, [0x2a]), (13, [0x10, 0x08]), (15, [0xbc, 0x0a]), (17, [0xb5, 0x00, 0x0f]), (20, [0x2a]), (21, [0x10, 0x08]), (23, [0xbc, 0x0a]), (25, [0xb5, 0x00, 0x12]), (28, [0x2a]), (29, [0x08]), (30, [0xbc, 0x0b]), (32, [0xb5, 0x00, 0x15]), (35, [0x2a]), (36, [0x08]), (37, [0xbc, 0x0a]), (39, [0xb5, 0x00, 0x19]), (42, [0x2a]), (43, [0x08])] := pf_ok prog_8_method_1_code _ 0 (by decide +kernel)
noncomputable def d_X6_init_0 := gq_0 db00b_29 eb_0
noncomputable def d_X6_init_1 := gq_1 db00b_29 eb_1
noncomputable def d_X6_init_4 := gq_2 db00b_29 eb_0
noncomputable def d_X6_init_5 := gq_3 db00b_29 eb_95
noncomputable def d_X6_init_7 := gq_4 db00b_29 eb_3
noncomputable def d_X6_init_9 := gq_5 db00b_29 eb_4
noncomputable def d_X6_init_12 := gq_6 db00b_29 eb_0
noncomputable def d_X6_init_13 := gq_7 db00b_29 eb_95
noncomputable def d_X6_init_15 := gq_8 db00b_29 eb_3
noncomputable def d_X6_init_17 := gq_9 db00b_29 eb_6
noncomputable def d_X6_init_20 := gq_10 db00b_29 eb_0
noncomputable def d_X6_init_21 := gq_11 db00b_29 eb_95
noncomputable def d_X6_init_23 := gq_12 db00b_29 eb_3
noncomputable def d_X6_init_25 := gq_13 db00b_29 eb_7
noncomputable def d_X6_init_28 := gq_14 db00b_29 eb_0
noncomputable def d_X6_init_29 := gq_15 db00b_29 eb_123
noncomputable def d_X6_init_30 := gq_16 db00b_29 eb_352
noncomputable def d_X6_init_32 := gq_17 db00b_29 eb_48
noncomputable def d_X6_init_35 := gq_18 db00b_29 eb_0
noncomputable def d_X6_init_36 := gq_19 db00b_29 eb_123
noncomputable def d_X6_init_37 := gq_20 db00b_29 eb_3
noncomputable def d_X6_init_39 := gq_21 db00b_29 eb_353
noncomputable def d_X6_init_42 := gq_22 db00b_29 eb_0
noncomputable def d_X6_init_43 := gq_23 db00b_29 eb_123
theorem db00b_30 : Pf_ prog_8_method_1_code [(44, [0xbc, 0x0a]), (46, [0xb5, 0x00, 0x1c]), (49, [0x2a]), (50, [0x07]), (51, [0xbc, 0x0a]), (53, [0xb5, 0x00, 0x1f]), (56, [0x2a]), (57, [0x07]), (58, [0xbc, 0x0a]), (60, [0xb5, 0x00, 0x22]), (63, [0x2a]), (64, [0x07]), (65, [0xbc, 0x0a]), (67, [0xb5, 0x00, 0x25]), (70, [0x2a]), (71, [0x10, 0x30]), (73, [0xbc, 0x0a]), (75, [0xb5, 0x00, 0x28]), (78, [0x2a]), (79, [0x11, 0x0d, 0x00]), (82, [0xbc, 0x0a]), (84, [0xb5, 0x00, 0x2b]), (87, [0x2a]), (88, [0x10, 0x0c])] := pf_ok prog_8_method_1_code _ 44 (by decide +kernel)
noncomputable def d_X6_init_44 := gq_0 db00b_30 eb_3
noncomputable def d_X6_init_46 := gq_1 db00b_30 eb_354
noncomputable def d_X6_init_49 := gq_2 db00b_30 eb_0
noncomputable def d_X6_init_50 := gq_3 db00b_30 eb_294
noncomputable def d_X6_init_51 := gq_4 db00b_30 eb_3
noncomputable def d_X6_init_53 := gq_5 db00b_30 eb_355
noncomputable def d_X6_init_56 := gq_6 db00b_30 eb_0
noncomputable def d_X6_init_57 := gq_7 db00b_30 eb_294
noncomputable def d_X6_init_58 := gq_8 db00b_30 eb_3
noncomputable def d_X6_init_60 := gq_9 db00b_30 eb_268
noncomputable def d_X6_init_63 := gq_10 db00b_30 eb_0
noncomputable def d_X6_init_64 := gq_11 db00b_30 eb_294
noncomputable def d_X6_init_65 := gq_12 db00b_30 eb_3
noncomputable def d_X6_init_67 := gq_13 db00b_30 eb_269
noncomputable def d_X6_init_70 := gq_14 db00b_30 eb_0
noncomputable def d_X6_init_71 := gq_15 db00b_30 eb_320
noncomputable def d_X6_init_73 := gq_16 db00b_30 eb_3
noncomputable def d_X6_init_75 := gq_17 db00b_30 eb_270
noncomputable def d_X6_init_78 := gq_18 db00b_30 eb_0
noncomputable def d_X6_init_79 := gq_19 db00b_30 eb_356
noncomputable def d_X6_init_82 := gq_20 db00b_30 eb_3
noncomputable def d_X6_init_84 := gq_21 db00b_30 eb_271
noncomputable def d_X6_init_87 := gq_22 db00b_30 eb_0
noncomputable def d_X6_init_88 := gq_23 db00b_30 eb_5
theorem db00b_31 : Pf_ prog_8_method_1_code [(90, [0xbc, 0x0a]), (92, [0xb5, 0x00, 0x2e]), (95, [0xb1])] := pf_ok prog_8_method_1_code _ 90 (by decide +kernel)
noncomputable def d_X6_init_90 := gq_0 db00b_31 eb_3
noncomputable def d_X6_init_92 := gq_1 db00b_31 eb_272
noncomputable def d_X6_init_95 := gq_2 db00b_31 eb_8
theorem db00b_32 : Pf_ prog_8_method_2_code [(0, [0x2a]), (1, [0xb4, 0x00, 0x31]), (4, [0x10, 0x08]), (6, [0xa1, 0x00, 0x05]), (9, [0x02]), (10, [0xac]), (11, [0x2a]), (12, [0xb4, 0x00, 0x0b]), (15, [0x2a]), (16, [0xb4, 0x00, 0x31]), (19, [0x1b]), (20, [0x4f]), (21, [0x2a]), (22, [0xb4, 0x00, 0x0f]), (25, [0x2a]), (26, [0xb4, 0x00, 0x31]), (29, [0x1c]), (30, [0x4f]), (31, [0x2a]), (32, [0xb4, 0x00, 0x12]), (35, [0x2a]), (36, [0xb4, 0x00, 0x31]), (39, [0x1d]), (40, [0x4f])] := pf_ok prog_8_method_2_code _ 0 (by decide +kernel)
noncomputable def d_X6_addWatch_0 := gq_0 db00b_32 eb_0
noncomputable def d_X6_addWatch_1 := gq_1 db00b_32 eb_288
noncomputable def d_X6_addWatch_4 := gq_2 db00b_32 eb_95
noncomputable def d_X6_addWatch_6 := gq_3 db00b_32 eb_115
noncomputable def d_X6_addWatch_9 := gq_4 db00b_32 eb_27
noncomputable def d_X6_addWatch_10 := gq_5 db00b_32 eb_16
noncomputable def d_X6_addWatch_11 := gq_6 db00b_32 eb_0
noncomputable def d_X6_addWatch_12 := gq_7 db00b_32 eb_33
noncomputable def d_X6_addWatch_15 := gq_8 db00b_32 eb_0
noncomputable def d_X6_addWatch_16 := gq_9 db00b_32 eb_288
noncomputable def d_X6_addWatch_19 := gq_10 db00b_32 eb_10
noncomputable def d_X6_addWatch_20 := gq_11 db00b_32 eb_39
noncomputable def d_X6_addWatch_21 := gq_12 db00b_32 eb_0
noncomputable def d_X6_addWatch_22 := gq_13 db00b_32 eb_45
noncomputable def d_X6_addWatch_25 := gq_14 db00b_32 eb_0
noncomputable def d_X6_addWatch_26 := gq_15 db00b_32 eb_288
noncomputable def d_X6_addWatch_29 := gq_16 db00b_32 eb_14
noncomputable def d_X6_addWatch_30 := gq_17 db00b_32 eb_39
noncomputable def d_X6_addWatch_31 := gq_18 db00b_32 eb_0
noncomputable def d_X6_addWatch_32 := gq_19 db00b_32 eb_46
noncomputable def d_X6_addWatch_35 := gq_20 db00b_32 eb_0
noncomputable def d_X6_addWatch_36 := gq_21 db00b_32 eb_288
noncomputable def d_X6_addWatch_39 := gq_22 db00b_32 eb_30
noncomputable def d_X6_addWatch_40 := gq_23 db00b_32 eb_39
theorem db00b_33 : Pf_ prog_8_method_2_code [(41, [0x2a]), (42, [0x59]), (43, [0xb4, 0x00, 0x31]), (46, [0x04]), (47, [0x60]), (48, [0xb5, 0x00, 0x31]), (51, [0x2a]), (52, [0xb4, 0x00, 0x31]), (55, [0x04]), (56, [0x64]), (57, [0xac])] := pf_ok prog_8_method_2_code _ 41 (by decide +kernel)
noncomputable def d_X6_addWatch_41 := gq_0 db00b_33 eb_0
noncomputable def d_X6_addWatch_42 := gq_1 db00b_33 eb_47
noncomputable def d_X6_addWatch_43 := gq_2 db00b_33 eb_288
noncomputable def d_X6_addWatch_46 := gq_3 db00b_33 eb_20
noncomputable def d_X6_addWatch_47 := gq_4 db00b_33 eb_36
noncomputable def d_X6_addWatch_48 := gq_5 db00b_33 eb_273
noncomputable def d_X6_addWatch_51 := gq_6 db00b_33 eb_0
noncomputable def d_X6_addWatch_52 := gq_7 db00b_33 eb_288
noncomputable def d_X6_addWatch_55 := gq_8 db00b_33 eb_20
noncomputable def d_X6_addWatch_56 := gq_9 db00b_33 eb_49
noncomputable def d_X6_addWatch_57 := gq_10 db00b_33 eb_16
theorem db00b_34 : Pf_ prog_8_method_3_code [(0, [0x1b]), (1, [0x9b, 0x00, 0x0f]), (4, [0x1b]), (5, [0x2a]), (6, [0xb4, 0x00, 0x31]), (9, [0xa2, 0x00, 0x07]), (12, [0x04]), (13, [0xa7, 0x00, 0x04]), (16, [0x03]), (17, [0xac])] := pf_ok prog_8_method_3_code _ 0 (by decide +kernel)
noncomputable def d_X6_hasWatch_0 := gq_0 db00b_34 eb_10
noncomputable def d_X6_hasWatch_1 := gq_1 db00b_34 eb_17
noncomputable def d_X6_hasWatch_4 := gq_2 db00b_34 eb_10
noncomputable def d_X6_hasWatch_5 := gq_3 db00b_34 eb_0
noncomputable def d_X6_hasWatch_6 := gq_4 db00b_34 eb_288
noncomputable def d_X6_hasWatch_9 := gq_5 db00b_34 eb_19
noncomputable def d_X6_hasWatch_12 := gq_6 db00b_34 eb_20
noncomputable def d_X6_hasWatch_13 := gq_7 db00b_34 eb_21
noncomputable def d_X6_hasWatch_16 := gq_8 db00b_34 eb_22
noncomputable def d_X6_hasWatch_17 := gq_9 db00b_34 eb_16
theorem db00b_35 : Pf_ prog_8_method_4_code [(0, [0x2a]), (1, [0x1b]), (2, [0xb6, 0x00, 0x35]), (5, [0x99, 0x00, 0x23]), (8, [0x2d]), (9, [0x1c]), (10, [0x2a]), (11, [0xb4, 0x00, 0x0b]), (14, [0x1b]), (15, [0x2e]), (16, [0x2a]), (17, [0xb4, 0x00, 0x0f]), (20, [0x1b]), (21, [0x2e]), (22, [0x2a]), (23, [0xb4, 0x00, 0x12]), (26, [0x1b]), (27, [0x2e]), (28, [0x19, 0x04]), (30, [0xb6, 0x00, 0x39]), (33, [0x99, 0x00, 0x07]), (36, [0x04]), (37, [0xa7, 0x00, 0x04]), (40, [0x03])] := pf_ok prog_8_method_4_code _ 0 (by decide +kernel)
noncomputable def d_X6_isSeen_0 := gq_0 db00b_35 eb_0
noncomputable def d_X6_isSeen_1 := gq_1 db00b_35 eb_10
noncomputable def d_X6_isSeen_2 := gq_2 db00b_35 eb_357
noncomputable def d_X6_isSeen_5 := gq_3 db00b_35 eb_358
noncomputable def d_X6_isSeen_8 := gq_4 db00b_35 eb_315
noncomputable def d_X6_isSeen_9 := gq_5 db00b_35 eb_14
noncomputable def d_X6_isSeen_10 := gq_6 db00b_35 eb_0
noncomputable def d_X6_isSeen_11 := gq_7 db00b_35 eb_33
noncomputable def d_X6_isSeen_14 := gq_8 db00b_35 eb_10
noncomputable def d_X6_isSeen_15 := gq_9 db00b_35 eb_38
noncomputable def d_X6_isSeen_16 := gq_10 db00b_35 eb_0
noncomputable def d_X6_isSeen_17 := gq_11 db00b_35 eb_45
noncomputable def d_X6_isSeen_20 := gq_12 db00b_35 eb_10
noncomputable def d_X6_isSeen_21 := gq_13 db00b_35 eb_38
noncomputable def d_X6_isSeen_22 := gq_14 db00b_35 eb_0
noncomputable def d_X6_isSeen_23 := gq_15 db00b_35 eb_46
noncomputable def d_X6_isSeen_26 := gq_16 db00b_35 eb_10
noncomputable def d_X6_isSeen_27 := gq_17 db00b_35 eb_38
noncomputable def d_X6_isSeen_28 := gq_18 db00b_35 eb_359
noncomputable def d_X6_isSeen_30 := gq_19 db00b_35 eb_360
noncomputable def d_X6_isSeen_33 := gq_20 db00b_35 eb_124
noncomputable def d_X6_isSeen_36 := gq_21 db00b_35 eb_20
noncomputable def d_X6_isSeen_37 := gq_22 db00b_35 eb_21
noncomputable def d_X6_isSeen_40 := gq_23 db00b_35 eb_22
theorem db00b_36 : Pf_ prog_8_method_4_code [(41, [0xac])] := pf_ok prog_8_method_4_code _ 41 (by decide +kernel)
noncomputable def d_X6_isSeen_41 := gq_0 db00b_36 eb_16
theorem db00b_37 : Pf_ prog_8_method_5_code [(0, [0x2a]), (1, [0x1b]), (2, [0x2c]), (3, [0x2d]), (4, [0xb6, 0x00, 0x3f]), (7, [0x2a]), (8, [0xb4, 0x00, 0x43]), (11, [0xac])] := pf_ok prog_8_method_5_code _ 0 (by decide +kernel)
noncomputable def d_X6_safety_0 := gq_0 db00b_37 eb_0
noncomputable def d_X6_safety_1 := gq_1 db00b_37 eb_10
noncomputable def d_X6_safety_2 := gq_2 db00b_37 eb_304
noncomputable def d_X6_safety_3 := gq_3 db00b_37 eb_315
noncomputable def d_X6_safety_4 := gq_4 db00b_37 eb_361
noncomputable def d_X6_safety_7 := gq_5 db00b_37 eb_0
noncomputable def d_X6_safety_8 := gq_6 db00b_37 eb_362
noncomputable def d_X6_safety_11 := gq_7 db00b_37 eb_16
theorem db00b_38 : Pf_ prog_8_method_6_code [(0, [0x2a]), (1, [0x1b]), (2, [0x2d]), (3, [0x19, 0x04]), (5, [0xb6, 0x00, 0x3f]), (8, [0x1b]), (9, [0x04]), (10, [0x1c]), (11, [0x78]), (12, [0x04]), (13, [0x64]), (14, [0x7e]), (15, [0xb8, 0x00, 0x46]), (18, [0x36, 0x05]), (20, [0x15, 0x05]), (22, [0x03]), (23, [0x2a]), (24, [0xb4, 0x00, 0x4c]), (27, [0x04]), (28, [0x64]), (29, [0xb8, 0x00, 0x4f]), (32, [0x99, 0x00, 0x0d]), (35, [0x2a]), (36, [0xb4, 0x00, 0x1c])] := pf_ok prog_8_method_6_code _ 0 (by decide +kernel)
noncomputable def d_X6_sharesOf_0 := gq_0 db00b_38 eb_0
noncomputable def d_X6_sharesOf_1 := gq_1 db00b_38 eb_10
noncomputable def d_X6_sharesOf_2 := gq_2 db00b_38 eb_315
noncomputable def d_X6_sharesOf_3 := gq_3 db00b_38 eb_359
noncomputable def d_X6_sharesOf_5 := gq_4 db00b_38 eb_361
noncomputable def d_X6_sharesOf_8 := gq_5 db00b_38 eb_10
noncomputable def d_X6_sharesOf_9 := gq_6 db00b_38 eb_20
noncomputable def d_X6_sharesOf_10 := gq_7 db00b_38 eb_14
noncomputable def d_X6_sharesOf_11 := gq_8 db00b_38 eb_12
noncomputable def d_X6_sharesOf_12 := gq_9 db00b_38 eb_20
noncomputable def d_X6_sharesOf_13 := gq_10 db00b_38 eb_49
noncomputable def d_X6_sharesOf_14 := gq_11 db00b_38 eb_56
noncomputable def d_X6_sharesOf_15 := gq_12 db00b_38 eb_363
noncomputable def d_X6_sharesOf_18 := gq_13 db00b_38 eb_135
noncomputable def d_X6_sharesOf_20 := gq_14 db00b_38 eb_126
noncomputable def d_X6_sharesOf_22 := gq_15 db00b_38 eb_22
noncomputable def d_X6_sharesOf_23 := gq_16 db00b_38 eb_0
noncomputable def d_X6_sharesOf_24 := gq_17 db00b_38 eb_364
noncomputable def d_X6_sharesOf_27 := gq_18 db00b_38 eb_20
noncomputable def d_X6_sharesOf_28 := gq_19 db00b_38 eb_49
noncomputable def d_X6_sharesOf_29 := gq_20 db00b_38 eb_153
noncomputable def d_X6_sharesOf_32 := gq_21 db00b_38 eb_120
noncomputable def d_X6_sharesOf_35 := gq_22 db00b_38 eb_0
noncomputable def d_X6_sharesOf_36 := gq_23 db00b_38 eb_365
theorem db00b_39 : Pf_ prog_8_method_6_code [(39, [0x15, 0x05]), (41, [0x2e]), (42, [0xa7, 0x00, 0x04]), (45, [0x02]), (46, [0xac])] := pf_ok prog_8_method_6_code _ 39 (by decide +kernel)
noncomputable def d_X6_sharesOf_39 := gq_0 db00b_39 eb_126
noncomputable def d_X6_sharesOf_41 := gq_1 db00b_39 eb_38
noncomputable def d_X6_sharesOf_42 := gq_2 db00b_39 eb_21
noncomputable def d_X6_sharesOf_45 := gq_3 db00b_39 eb_27
noncomputable def d_X6_sharesOf_46 := gq_4 db00b_39 eb_16
theorem db00b_40 : Pf_ prog_8_method_7_code [(0, [0x1b]), (1, [0x2a]), (2, [0xb4, 0x00, 0x53]), (5, [0xa0, 0x00, 0x1a]), (8, [0x2d]), (9, [0xb4, 0x00, 0x56]), (12, [0x2a]), (13, [0xb4, 0x00, 0x5b]), (16, [0xa0, 0x00, 0x0f]), (19, [0x2a]), (20, [0xb4, 0x00, 0x31]), (23, [0x2a]), (24, [0xb4, 0x00, 0x5e]), (27, [0xa0, 0x00, 0x04]), (30, [0xb1]), (31, [0x2a]), (32, [0x1b]), (33, [0xb5, 0x00, 0x53]), (36, [0x2a]), (37, [0x2d]), (38, [0xb4, 0x00, 0x56]), (41, [0xb5, 0x00, 0x5b]), (44, [0x2a]), (45, [0x2a])] := pf_ok prog_8_method_7_code _ 0 (by decide +kernel)
noncomputable def d_X6_findShares_0 := gq_0 db00b_40 eb_10
noncomputable def d_X6_findShares_1 := gq_1 db00b_40 eb_0
noncomputable def d_X6_findShares_2 := gq_2 db00b_40 eb_366
noncomputable def d_X6_findShares_5 := gq_3 db00b_40 eb_282
noncomputable def d_X6_findShares_8 := gq_4 db00b_40 eb_315
noncomputable def d_X6_findShares_9 := gq_5 db00b_40 eb_344
noncomputable def d_X6_findShares_12 := gq_6 db00b_40 eb_0
noncomputable def d_X6_findShares_13 := gq_7 db00b_40 eb_367
noncomputable def d_X6_findShares_16 := gq_8 db00b_40 eb_368
noncomputable def d_X6_findShares_19 := gq_9 db00b_40 eb_0
noncomputable def d_X6_findShares_20 := gq_10 db00b_40 eb_288
noncomputable def d_X6_findShares_23 := gq_11 db00b_40 eb_0
noncomputable def d_X6_findShares_24 := gq_12 db00b_40 eb_369
noncomputable def d_X6_findShares_27 := gq_13 db00b_40 eb_370
noncomputable def d_X6_findShares_30 := gq_14 db00b_40 eb_8
noncomputable def d_X6_findShares_31 := gq_15 db00b_40 eb_0
noncomputable def d_X6_findShares_32 := gq_16 db00b_40 eb_10
noncomputable def d_X6_findShares_33 := gq_17 db00b_40 eb_371
noncomputable def d_X6_findShares_36 := gq_18 db00b_40 eb_0
noncomputable def d_X6_findShares_37 := gq_19 db00b_40 eb_315
noncomputable def d_X6_findShares_38 := gq_20 db00b_40 eb_344
noncomputable def d_X6_findShares_41 := gq_21 db00b_40 eb_372
noncomputable def d_X6_findShares_44 := gq_22 db00b_40 eb_0
noncomputable def d_X6_findShares_45 := gq_23 db00b_40 eb_0
theorem db00b_41 : Pf_ prog_8_method_7_code [(46, [0xb4, 0x00, 0x31]), (49, [0xb5, 0x00, 0x5e]), (52, [0x2a]), (53, [0x03]), (54, [0xb5, 0x00, 0x4c]), (57, [0x03]), (58, [0x36, 0x04]), (60, [0x15, 0x04]), (62, [0x2c]), (63, [0xb4, 0x00, 0x61]), (66, [0xa2, 0x00, 0x36]), (69, [0x1b]), (70, [0x15, 0x04]), (72, [0x7a]), (73, [0x04]), (74, [0x7e]), (75, [0x04]), (76, [0xa0, 0x00, 0x26]), (79, [0x2a]), (80, [0xb4, 0x00, 0x4c]), (83, [0x08]), (84, [0xa2, 0x00, 0x1e]), (87, [0x2a]), (88, [0xb4, 0x00, 0x15])] := pf_ok prog_8_method_7_code _ 46 (by decide +kernel)
noncomputable def d_X6_findShares_46 := gq_0 db00b_41 eb_288
noncomputable def d_X6_findShares_49 := gq_1 db00b_41 eb_373
noncomputable def d_X6_findShares_52 := gq_2 db00b_41 eb_0
noncomputable def d_X6_findShares_53 := gq_3 db00b_41 eb_22
noncomputable def d_X6_findShares_54 := gq_4 db00b_41 eb_374
noncomputable def d_X6_findShares_57 := gq_5 db00b_41 eb_22
noncomputable def d_X6_findShares_58 := gq_6 db00b_41 eb_134
noncomputable def d_X6_findShares_60 := gq_7 db00b_41 eb_77
noncomputable def d_X6_findShares_62 := gq_8 db00b_41 eb_304
noncomputable def d_X6_findShares_63 := gq_9 db00b_41 eb_375
noncomputable def d_X6_findShares_66 := gq_10 db00b_41 eb_376
noncomputable def d_X6_findShares_69 := gq_11 db00b_41 eb_10
noncomputable def d_X6_findShares_70 := gq_12 db00b_41 eb_77
noncomputable def d_X6_findShares_72 := gq_13 db00b_41 eb_57
noncomputable def d_X6_findShares_73 := gq_14 db00b_41 eb_20
noncomputable def d_X6_findShares_74 := gq_15 db00b_41 eb_56
noncomputable def d_X6_findShares_75 := gq_16 db00b_41 eb_20
noncomputable def d_X6_findShares_76 := gq_17 db00b_41 eb_377
noncomputable def d_X6_findShares_79 := gq_18 db00b_41 eb_0
noncomputable def d_X6_findShares_80 := gq_19 db00b_41 eb_364
noncomputable def d_X6_findShares_83 := gq_20 db00b_41 eb_123
noncomputable def d_X6_findShares_84 := gq_21 db00b_41 eb_250
noncomputable def d_X6_findShares_87 := gq_22 db00b_41 eb_0
noncomputable def d_X6_findShares_88 := gq_23 db00b_41 eb_18
theorem db00b_42 : Pf_ prog_8_method_7_code [(91, [0x2a]), (92, [0xb4, 0x00, 0x4c]), (95, [0x2a]), (96, [0x15, 0x04]), (98, [0x2c]), (99, [0x2d]), (100, [0xb6, 0x00, 0x64]), (103, [0x50]), (104, [0x2a]), (105, [0x59]), (106, [0xb4, 0x00, 0x4c]), (109, [0x04]), (110, [0x60]), (111, [0xb5, 0x00, 0x4c]), (114, [0x84, 0x04, 0x01]), (117, [0xa7, 0xff, 0xc7]), (120, [0x2a]), (121, [0x02]), (122, [0xb5, 0x00, 0x43]), (125, [0x2a]), (126, [0x02]), (127, [0xb5, 0x00, 0x68]), (130, [0x2a]), (131, [0x03])] := pf_ok prog_8_method_7_code _ 91 (by decide +kernel)
noncomputable def d_X6_findShares_91 := gq_0 db00b_42 eb_0
noncomputable def d_X6_findShares_92 := gq_1 db00b_42 eb_364
noncomputable def d_X6_findShares_95 := gq_2 db00b_42 eb_0
noncomputable def d_X6_findShares_96 := gq_3 db00b_42 eb_77
noncomputable def d_X6_findShares_98 := gq_4 db00b_42 eb_304
noncomputable def d_X6_findShares_99 := gq_5 db00b_42 eb_315
noncomputable def d_X6_findShares_100 := gq_6 db00b_42 eb_168
noncomputable def d_X6_findShares_103 := gq_7 db00b_42 eb_378
noncomputable def d_X6_findShares_104 := gq_8 db00b_42 eb_0
noncomputable def d_X6_findShares_105 := gq_9 db00b_42 eb_47
noncomputable def d_X6_findShares_106 := gq_10 db00b_42 eb_364
noncomputable def d_X6_findShares_109 := gq_11 db00b_42 eb_20
noncomputable def d_X6_findShares_110 := gq_12 db00b_42 eb_36
noncomputable def d_X6_findShares_111 := gq_13 db00b_42 eb_374
noncomputable def d_X6_findShares_114 := gq_14 db00b_42 eb_146
noncomputable def d_X6_findShares_117 := gq_15 db00b_42 eb_379
noncomputable def d_X6_findShares_120 := gq_16 db00b_42 eb_0
noncomputable def d_X6_findShares_121 := gq_17 db00b_42 eb_27
noncomputable def d_X6_findShares_122 := gq_18 db00b_42 eb_380
noncomputable def d_X6_findShares_125 := gq_19 db00b_42 eb_0
noncomputable def d_X6_findShares_126 := gq_20 db00b_42 eb_27
noncomputable def d_X6_findShares_127 := gq_21 db00b_42 eb_381
noncomputable def d_X6_findShares_130 := gq_22 db00b_42 eb_0
noncomputable def d_X6_findShares_131 := gq_23 db00b_42 eb_22
theorem db00b_43 : Pf_ prog_8_method_7_code [(132, [0x10, 0x0c]), (134, [0x09]), (135, [0xb6, 0x00, 0x6b]), (138, [0xb1])] := pf_ok prog_8_method_7_code _ 132 (by decide +kernel)
noncomputable def d_X6_findShares_132 := gq_0 db00b_43 eb_5
noncomputable def d_X6_findShares_134 := gq_1 db00b_43 eb_382
noncomputable def d_X6_findShares_135 := gq_2 db00b_43 eb_172
noncomputable def d_X6_findShares_138 := gq_3 db00b_43 eb_8
theorem db00b_44 : Pf_ prog_8_method_8_code [(0, [0x09]), (1, [0x37, 0x04]), (3, [0x03]), (4, [0x36, 0x06]), (6, [0x15, 0x06]), (8, [0x2a]), (9, [0xb4, 0x00, 0x31]), (12, [0xa2, 0x00, 0x20]), (15, [0x2a]), (16, [0x15, 0x06]), (18, [0x1b]), (19, [0x2c]), (20, [0x2d]), (21, [0xb6, 0x00, 0x6f]), (24, [0x99, 0x00, 0x0e]), (27, [0x16, 0x04]), (29, [0x0a]), (30, [0x07]), (31, [0x15, 0x06]), (33, [0x68]), (34, [0x79]), (35, [0x81]), (36, [0x37, 0x04]), (38, [0x84, 0x06, 0x01])] := pf_ok prog_8_method_8_code _ 0 (by decide +kernel)
noncomputable def d_X6_sightOf_0 := gq_0 db00b_44 eb_382
noncomputable def d_X6_sightOf_1 := gq_1 db00b_44 eb_383
noncomputable def d_X6_sightOf_3 := gq_2 db00b_44 eb_22
noncomputable def d_X6_sightOf_4 := gq_3 db00b_44 eb_59
noncomputable def d_X6_sightOf_6 := gq_4 db00b_44 eb_76
noncomputable def d_X6_sightOf_8 := gq_5 db00b_44 eb_0
noncomputable def d_X6_sightOf_9 := gq_6 db00b_44 eb_288
noncomputable def d_X6_sightOf_12 := gq_7 db00b_44 eb_307
noncomputable def d_X6_sightOf_15 := gq_8 db00b_44 eb_0
noncomputable def d_X6_sightOf_16 := gq_9 db00b_44 eb_76
noncomputable def d_X6_sightOf_18 := gq_10 db00b_44 eb_10
noncomputable def d_X6_sightOf_19 := gq_11 db00b_44 eb_304
noncomputable def d_X6_sightOf_20 := gq_12 db00b_44 eb_315
noncomputable def d_X6_sightOf_21 := gq_13 db00b_44 eb_384
noncomputable def d_X6_sightOf_24 := gq_14 db00b_44 eb_176
noncomputable def d_X6_sightOf_27 := gq_15 db00b_44 eb_385
noncomputable def d_X6_sightOf_29 := gq_16 db00b_44 eb_386
noncomputable def d_X6_sightOf_30 := gq_17 db00b_44 eb_294
noncomputable def d_X6_sightOf_31 := gq_18 db00b_44 eb_76
noncomputable def d_X6_sightOf_33 := gq_19 db00b_44 eb_35
noncomputable def d_X6_sightOf_34 := gq_20 db00b_44 eb_387
noncomputable def d_X6_sightOf_35 := gq_21 db00b_44 eb_388
noncomputable def d_X6_sightOf_36 := gq_22 db00b_44 eb_383
noncomputable def d_X6_sightOf_38 := gq_23 db00b_44 eb_73
theorem db00b_45 : Pf_ prog_8_method_8_code [(41, [0xa7, 0xff, 0xdd]), (44, [0x16, 0x04]), (46, [0xad])] := pf_ok prog_8_method_8_code _ 41 (by decide +kernel)
noncomputable def d_X6_sightOf_41 := gq_0 db00b_45 eb_151
noncomputable def d_X6_sightOf_44 := gq_1 db00b_45 eb_385
noncomputable def d_X6_sightOf_46 := gq_2 db00b_45 eb_389
theorem db00b_46 : Pf_ prog_8_method_9_code [(0, [0x1b]), (1, [0x2a]), (2, [0xb4, 0x00, 0x4c]), (5, [0xa2, 0x00, 0x08]), (8, [0x1b]), (9, [0x08]), (10, [0xa1, 0x00, 0x04]), (13, [0xb1]), (14, [0x1b]), (15, [0x2a]), (16, [0xb4, 0x00, 0x4c]), (19, [0x04]), (20, [0x64]), (21, [0xa0, 0x00, 0x1a]), (24, [0x2a]), (25, [0xb4, 0x00, 0x19]), (28, [0x1b]), (29, [0x1c]), (30, [0x4f]), (31, [0x2a]), (32, [0x21]), (33, [0x1c]), (34, [0x85]), (35, [0x2a])] := pf_ok prog_8_method_9_code _ 0 (by decide +kernel)
noncomputable def d_X6_deal_0 := gq_0 db00b_46 eb_10
noncomputable def d_X6_deal_1 := gq_1 db00b_46 eb_0
noncomputable def d_X6_deal_2 := gq_2 db00b_46 eb_364
noncomputable def d_X6_deal_5 := gq_3 db00b_46 eb_390
noncomputable def d_X6_deal_8 := gq_4 db00b_46 eb_10
noncomputable def d_X6_deal_9 := gq_5 db00b_46 eb_123
noncomputable def d_X6_deal_10 := gq_6 db00b_46 eb_391
noncomputable def d_X6_deal_13 := gq_7 db00b_46 eb_8
noncomputable def d_X6_deal_14 := gq_8 db00b_46 eb_10
noncomputable def d_X6_deal_15 := gq_9 db00b_46 eb_0
noncomputable def d_X6_deal_16 := gq_10 db00b_46 eb_364
noncomputable def d_X6_deal_19 := gq_11 db00b_46 eb_20
noncomputable def d_X6_deal_20 := gq_12 db00b_46 eb_49
noncomputable def d_X6_deal_21 := gq_13 db00b_46 eb_282
noncomputable def d_X6_deal_24 := gq_14 db00b_46 eb_0
noncomputable def d_X6_deal_25 := gq_15 db00b_46 eb_25
noncomputable def d_X6_deal_28 := gq_16 db00b_46 eb_10
noncomputable def d_X6_deal_29 := gq_17 db00b_46 eb_14
noncomputable def d_X6_deal_30 := gq_18 db00b_46 eb_39
noncomputable def d_X6_deal_31 := gq_19 db00b_46 eb_0
noncomputable def d_X6_deal_32 := gq_20 db00b_46 eb_392
noncomputable def d_X6_deal_33 := gq_21 db00b_46 eb_14
noncomputable def d_X6_deal_34 := gq_22 db00b_46 eb_393
noncomputable def d_X6_deal_35 := gq_23 db00b_46 eb_0
theorem db00b_47 : Pf_ prog_8_method_9_code [(36, [0xb4, 0x00, 0x15]), (39, [0x1b]), (40, [0x2f]), (41, [0x69]), (42, [0x61]), (43, [0xb6, 0x00, 0x73]), (46, [0xb1]), (47, [0x1c]), (48, [0x36, 0x05]), (50, [0x15, 0x05]), (52, [0x9b, 0x00, 0x28]), (55, [0x2a]), (56, [0xb4, 0x00, 0x19]), (59, [0x1b]), (60, [0x15, 0x05]), (62, [0x4f]), (63, [0x2a]), (64, [0x1b]), (65, [0x04]), (66, [0x60]), (67, [0x1c]), (68, [0x15, 0x05]), (70, [0x64]), (71, [0x21])] := pf_ok prog_8_method_9_code _ 36 (by decide +kernel)
noncomputable def d_X6_deal_36 := gq_0 db00b_47 eb_18
noncomputable def d_X6_deal_39 := gq_1 db00b_47 eb_10
noncomputable def d_X6_deal_40 := gq_2 db00b_47 eb_394
noncomputable def d_X6_deal_41 := gq_3 db00b_47 eb_395
noncomputable def d_X6_deal_42 := gq_4 db00b_47 eb_396
noncomputable def d_X6_deal_43 := gq_5 db00b_47 eb_397
noncomputable def d_X6_deal_46 := gq_6 db00b_47 eb_8
noncomputable def d_X6_deal_47 := gq_7 db00b_47 eb_14
noncomputable def d_X6_deal_48 := gq_8 db00b_47 eb_135
noncomputable def d_X6_deal_50 := gq_9 db00b_47 eb_126
noncomputable def d_X6_deal_52 := gq_10 db00b_47 eb_398
noncomputable def d_X6_deal_55 := gq_11 db00b_47 eb_0
noncomputable def d_X6_deal_56 := gq_12 db00b_47 eb_25
noncomputable def d_X6_deal_59 := gq_13 db00b_47 eb_10
noncomputable def d_X6_deal_60 := gq_14 db00b_47 eb_126
noncomputable def d_X6_deal_62 := gq_15 db00b_47 eb_39
noncomputable def d_X6_deal_63 := gq_16 db00b_47 eb_0
noncomputable def d_X6_deal_64 := gq_17 db00b_47 eb_10
noncomputable def d_X6_deal_65 := gq_18 db00b_47 eb_20
noncomputable def d_X6_deal_66 := gq_19 db00b_47 eb_36
noncomputable def d_X6_deal_67 := gq_20 db00b_47 eb_14
noncomputable def d_X6_deal_68 := gq_21 db00b_47 eb_126
noncomputable def d_X6_deal_70 := gq_22 db00b_47 eb_49
noncomputable def d_X6_deal_71 := gq_23 db00b_47 eb_392
theorem db00b_48 : Pf_ prog_8_method_9_code [(72, [0x15, 0x05]), (74, [0x85]), (75, [0x2a]), (76, [0xb4, 0x00, 0x15]), (79, [0x1b]), (80, [0x2f]), (81, [0x69]), (82, [0x61]), (83, [0xb6, 0x00, 0x6b]), (86, [0x84, 0x05, 0xff]), (89, [0xa7, 0xff, 0xd9]), (92, [0xb1])] := pf_ok prog_8_method_9_code _ 72 (by decide +kernel)
noncomputable def d_X6_deal_72 := gq_0 db00b_48 eb_126
noncomputable def d_X6_deal_74 := gq_1 db00b_48 eb_393
noncomputable def d_X6_deal_75 := gq_2 db00b_48 eb_0
noncomputable def d_X6_deal_76 := gq_3 db00b_48 eb_18
noncomputable def d_X6_deal_79 := gq_4 db00b_48 eb_10
noncomputable def d_X6_deal_80 := gq_5 db00b_48 eb_394
noncomputable def d_X6_deal_81 := gq_6 db00b_48 eb_395
noncomputable def d_X6_deal_82 := gq_7 db00b_48 eb_396
noncomputable def d_X6_deal_83 := gq_8 db00b_48 eb_172
noncomputable def d_X6_deal_86 := gq_9 db00b_48 eb_399
noncomputable def d_X6_deal_89 := gq_10 db00b_48 eb_335
noncomputable def d_X6_deal_92 := gq_11 db00b_48 eb_8
theorem db00b_49 : Pf_ prog_8_method_10_code [(0, [0x10, 0x0c]), (2, [0x3e]), (3, [0x03]), (4, [0x36, 0x04]), (6, [0x03]), (7, [0x36, 0x05]), (9, [0x15, 0x05]), (11, [0x2a]), (12, [0xb4, 0x00, 0x31]), (15, [0xa2, 0x00, 0x23]), (18, [0x1f]), (19, [0x07]), (20, [0x15, 0x05]), (22, [0x68]), (23, [0x7b]), (24, [0x88]), (25, [0x10, 0x0f]), (27, [0x7e]), (28, [0x36, 0x06]), (30, [0x1d]), (31, [0x15, 0x06]), (33, [0xb8, 0x00, 0x77]), (36, [0x3e]), (37, [0x15, 0x04])] := pf_ok prog_8_method_10_code _ 0 (by decide +kernel)
noncomputable def d_X6_judge_0 := gq_0 db00b_49 eb_5
noncomputable def d_X6_judge_2 := gq_1 db00b_49 eb_29
noncomputable def d_X6_judge_3 := gq_2 db00b_49 eb_22
noncomputable def d_X6_judge_4 := gq_3 db00b_49 eb_134
noncomputable def d_X6_judge_6 := gq_4 db00b_49 eb_22
noncomputable def d_X6_judge_7 := gq_5 db00b_49 eb_135
noncomputable def d_X6_judge_9 := gq_6 db00b_49 eb_126
noncomputable def d_X6_judge_11 := gq_7 db00b_49 eb_0
noncomputable def d_X6_judge_12 := gq_8 db00b_49 eb_288
noncomputable def d_X6_judge_15 := gq_9 db00b_49 eb_148
noncomputable def d_X6_judge_18 := gq_10 db00b_49 eb_400
noncomputable def d_X6_judge_19 := gq_11 db00b_49 eb_294
noncomputable def d_X6_judge_20 := gq_12 db00b_49 eb_126
noncomputable def d_X6_judge_22 := gq_13 db00b_49 eb_35
noncomputable def d_X6_judge_23 := gq_14 db00b_49 eb_401
noncomputable def d_X6_judge_24 := gq_15 db00b_49 eb_402
noncomputable def d_X6_judge_25 := gq_16 db00b_49 eb_58
noncomputable def d_X6_judge_27 := gq_17 db00b_49 eb_56
noncomputable def d_X6_judge_28 := gq_18 db00b_49 eb_59
noncomputable def d_X6_judge_30 := gq_19 db00b_49 eb_30
noncomputable def d_X6_judge_31 := gq_20 db00b_49 eb_76
noncomputable def d_X6_judge_33 := gq_21 db00b_49 eb_403
noncomputable def d_X6_judge_36 := gq_22 db00b_49 eb_29
noncomputable def d_X6_judge_37 := gq_23 db00b_49 eb_77
theorem db00b_50 : Pf_ prog_8_method_10_code [(39, [0x15, 0x06]), (41, [0x60]), (42, [0x36, 0x04]), (44, [0x84, 0x05, 0x01]), (47, [0xa7, 0xff, 0xda]), (50, [0x1d]), (51, [0x2a]), (52, [0xb4, 0x00, 0x43]), (55, [0xa3, 0x00, 0x14]), (58, [0x1d]), (59, [0x2a]), (60, [0xb4, 0x00, 0x43]), (63, [0xa0, 0x00, 0x25]), (66, [0x15, 0x04]), (68, [0x2a]), (69, [0xb4, 0x00, 0x68]), (72, [0xa4, 0x00, 0x1c]), (75, [0x2a]), (76, [0x1d]), (77, [0xb5, 0x00, 0x43]), (80, [0x2a]), (81, [0x15, 0x04]), (83, [0xb5, 0x00, 0x68]), (86, [0x2a])] := pf_ok prog_8_method_10_code _ 39 (by decide +kernel)
noncomputable def d_X6_judge_39 := gq_0 db00b_50 eb_76
noncomputable def d_X6_judge_41 := gq_1 db00b_50 eb_36
noncomputable def d_X6_judge_42 := gq_2 db00b_50 eb_134
noncomputable def d_X6_judge_44 := gq_3 db00b_50 eb_223
noncomputable def d_X6_judge_47 := gq_4 db00b_50 eb_241
noncomputable def d_X6_judge_50 := gq_5 db00b_50 eb_30
noncomputable def d_X6_judge_51 := gq_6 db00b_50 eb_0
noncomputable def d_X6_judge_52 := gq_7 db00b_50 eb_362
noncomputable def d_X6_judge_55 := gq_8 db00b_50 eb_404
noncomputable def d_X6_judge_58 := gq_9 db00b_50 eb_30
noncomputable def d_X6_judge_59 := gq_10 db00b_50 eb_0
noncomputable def d_X6_judge_60 := gq_11 db00b_50 eb_362
noncomputable def d_X6_judge_63 := gq_12 db00b_50 eb_405
noncomputable def d_X6_judge_66 := gq_13 db00b_50 eb_77
noncomputable def d_X6_judge_68 := gq_14 db00b_50 eb_0
noncomputable def d_X6_judge_69 := gq_15 db00b_50 eb_406
noncomputable def d_X6_judge_72 := gq_16 db00b_50 eb_407
noncomputable def d_X6_judge_75 := gq_17 db00b_50 eb_0
noncomputable def d_X6_judge_76 := gq_18 db00b_50 eb_30
noncomputable def d_X6_judge_77 := gq_19 db00b_50 eb_380
noncomputable def d_X6_judge_80 := gq_20 db00b_50 eb_0
noncomputable def d_X6_judge_81 := gq_21 db00b_50 eb_77
noncomputable def d_X6_judge_83 := gq_22 db00b_50 eb_381
noncomputable def d_X6_judge_86 := gq_23 db00b_50 eb_0
theorem db00b_51 : Pf_ prog_8_method_10_code [(87, [0xb4, 0x00, 0x19]), (90, [0x03]), (91, [0x2a]), (92, [0xb4, 0x00, 0x1c]), (95, [0x03]), (96, [0x08]), (97, [0xb8, 0x00, 0x7d]), (100, [0xb1])] := pf_ok prog_8_method_10_code _ 87 (by decide +kernel)
noncomputable def d_X6_judge_87 := gq_0 db00b_51 eb_25
noncomputable def d_X6_judge_90 := gq_1 db00b_51 eb_22
noncomputable def d_X6_judge_91 := gq_2 db00b_51 eb_0
noncomputable def d_X6_judge_92 := gq_3 db00b_51 eb_365
noncomputable def d_X6_judge_95 := gq_4 db00b_51 eb_22
noncomputable def d_X6_judge_96 := gq_5 db00b_51 eb_123
noncomputable def d_X6_judge_97 := gq_6 db00b_51 eb_408
noncomputable def d_X6_judge_100 := gq_7 db00b_51 eb_8
theorem db00b_52 : Pf_ prog_8_method_11_code [(0, [0x2a]), (1, [0xb4, 0x00, 0x83]), (4, [0x07]), (5, [0xa1, 0x00, 0x05]), (8, [0x02]), (9, [0xac]), (10, [0x2a]), (11, [0xb4, 0x00, 0x1f]), (14, [0x2a]), (15, [0xb4, 0x00, 0x83]), (18, [0x1b]), (19, [0x4f]), (20, [0x2a]), (21, [0xb4, 0x00, 0x22]), (24, [0x2a]), (25, [0xb4, 0x00, 0x83]), (28, [0x1c]), (29, [0x4f]), (30, [0x2a]), (31, [0xb4, 0x00, 0x25]), (34, [0x2a]), (35, [0xb4, 0x00, 0x83]), (38, [0x1d]), (39, [0x4f])] := pf_ok prog_8_method_11_code _ 0 (by decide +kernel)
noncomputable def d_X6_addFair_0 := gq_0 db00b_52 eb_0
noncomputable def d_X6_addFair_1 := gq_1 db00b_52 eb_409
noncomputable def d_X6_addFair_4 := gq_2 db00b_52 eb_294
noncomputable def d_X6_addFair_5 := gq_3 db00b_52 eb_115
noncomputable def d_X6_addFair_8 := gq_4 db00b_52 eb_27
noncomputable def d_X6_addFair_9 := gq_5 db00b_52 eb_16
noncomputable def d_X6_addFair_10 := gq_6 db00b_52 eb_0
noncomputable def d_X6_addFair_11 := gq_7 db00b_52 eb_31
noncomputable def d_X6_addFair_14 := gq_8 db00b_52 eb_0
noncomputable def d_X6_addFair_15 := gq_9 db00b_52 eb_409
noncomputable def d_X6_addFair_18 := gq_10 db00b_52 eb_10
noncomputable def d_X6_addFair_19 := gq_11 db00b_52 eb_39
noncomputable def d_X6_addFair_20 := gq_12 db00b_52 eb_0
noncomputable def d_X6_addFair_21 := gq_13 db00b_52 eb_37
noncomputable def d_X6_addFair_24 := gq_14 db00b_52 eb_0
noncomputable def d_X6_addFair_25 := gq_15 db00b_52 eb_409
noncomputable def d_X6_addFair_28 := gq_16 db00b_52 eb_14
noncomputable def d_X6_addFair_29 := gq_17 db00b_52 eb_39
noncomputable def d_X6_addFair_30 := gq_18 db00b_52 eb_0
noncomputable def d_X6_addFair_31 := gq_19 db00b_52 eb_284
noncomputable def d_X6_addFair_34 := gq_20 db00b_52 eb_0
noncomputable def d_X6_addFair_35 := gq_21 db00b_52 eb_409
noncomputable def d_X6_addFair_38 := gq_22 db00b_52 eb_30
noncomputable def d_X6_addFair_39 := gq_23 db00b_52 eb_39
theorem db00b_53 : Pf_ prog_8_method_11_code [(40, [0x2a]), (41, [0x59]), (42, [0xb4, 0x00, 0x83]), (45, [0x04]), (46, [0x60]), (47, [0xb5, 0x00, 0x83]), (50, [0x2a]), (51, [0xb4, 0x00, 0x83]), (54, [0x04]), (55, [0x64]), (56, [0xac])] := pf_ok prog_8_method_11_code _ 40 (by decide +kernel)
noncomputable def d_X6_addFair_40 := gq_0 db00b_53 eb_0
noncomputable def d_X6_addFair_41 := gq_1 db00b_53 eb_47
noncomputable def d_X6_addFair_42 := gq_2 db00b_53 eb_409
noncomputable def d_X6_addFair_45 := gq_3 db00b_53 eb_20
noncomputable def d_X6_addFair_46 := gq_4 db00b_53 eb_36
noncomputable def d_X6_addFair_47 := gq_5 db00b_53 eb_410
noncomputable def d_X6_addFair_50 := gq_6 db00b_53 eb_0
noncomputable def d_X6_addFair_51 := gq_7 db00b_53 eb_409
noncomputable def d_X6_addFair_54 := gq_8 db00b_53 eb_20
noncomputable def d_X6_addFair_55 := gq_9 db00b_53 eb_49
noncomputable def d_X6_addFair_56 := gq_10 db00b_53 eb_16
theorem db00b_54 : Pf_ prog_8_method_12_code [(0, [0x2a]), (1, [0x03]), (2, [0xb5, 0x00, 0x83]), (5, [0xb1])] := pf_ok prog_8_method_12_code _ 0 (by decide +kernel)
noncomputable def d_X6_clearFairs_0 := gq_0 db00b_54 eb_0
noncomputable def d_X6_clearFairs_1 := gq_1 db00b_54 eb_22
noncomputable def d_X6_clearFairs_2 := gq_2 db00b_54 eb_410
noncomputable def d_X6_clearFairs_5 := gq_3 db00b_54 eb_8
theorem db00b_55 : Pf_ prog_8_method_13_code [(0, [0x1b]), (1, [0x03]), (2, [0x2a]), (3, [0xb4, 0x00, 0x83]), (6, [0x04]), (7, [0x64]), (8, [0xb8, 0x00, 0x4f]), (11, [0x99, 0x00, 0x0c]), (14, [0x2a]), (15, [0xb4, 0x00, 0x1f]), (18, [0x1b]), (19, [0x2e]), (20, [0xa7, 0x00, 0x04]), (23, [0x02]), (24, [0xac])] := pf_ok prog_8_method_13_code _ 0 (by decide +kernel)
noncomputable def d_X6_placeOfFair_0 := gq_0 db00b_55 eb_10
noncomputable def d_X6_placeOfFair_1 := gq_1 db00b_55 eb_22
noncomputable def d_X6_placeOfFair_2 := gq_2 db00b_55 eb_0
noncomputable def d_X6_placeOfFair_3 := gq_3 db00b_55 eb_409
noncomputable def d_X6_placeOfFair_6 := gq_4 db00b_55 eb_20
noncomputable def d_X6_placeOfFair_7 := gq_5 db00b_55 eb_49
noncomputable def d_X6_placeOfFair_8 := gq_6 db00b_55 eb_153
noncomputable def d_X6_placeOfFair_11 := gq_7 db00b_55 eb_51
noncomputable def d_X6_placeOfFair_14 := gq_8 db00b_55 eb_0
noncomputable def d_X6_placeOfFair_15 := gq_9 db00b_55 eb_31
noncomputable def d_X6_placeOfFair_18 := gq_10 db00b_55 eb_10
noncomputable def d_X6_placeOfFair_19 := gq_11 db00b_55 eb_38
noncomputable def d_X6_placeOfFair_20 := gq_12 db00b_55 eb_21
noncomputable def d_X6_placeOfFair_23 := gq_13 db00b_55 eb_27
noncomputable def d_X6_placeOfFair_24 := gq_14 db00b_55 eb_16
theorem db00b_56 : Pf_ prog_8_method_14_code [(0, [0x1b]), (1, [0x03]), (2, [0x2a]), (3, [0xb4, 0x00, 0x83]), (6, [0x04]), (7, [0x64]), (8, [0xb8, 0x00, 0x4f]), (11, [0x99, 0x00, 0x0c]), (14, [0x2a]), (15, [0xb4, 0x00, 0x22]), (18, [0x1b]), (19, [0x2e]), (20, [0xa7, 0x00, 0x04]), (23, [0x02]), (24, [0xac])] := pf_ok prog_8_method_14_code _ 0 (by decide +kernel)
noncomputable def d_X6_minuteOfFair_0 := gq_0 db00b_56 eb_10
noncomputable def d_X6_minuteOfFair_1 := gq_1 db00b_56 eb_22
noncomputable def d_X6_minuteOfFair_2 := gq_2 db00b_56 eb_0
noncomputable def d_X6_minuteOfFair_3 := gq_3 db00b_56 eb_409
noncomputable def d_X6_minuteOfFair_6 := gq_4 db00b_56 eb_20
noncomputable def d_X6_minuteOfFair_7 := gq_5 db00b_56 eb_49
noncomputable def d_X6_minuteOfFair_8 := gq_6 db00b_56 eb_153
noncomputable def d_X6_minuteOfFair_11 := gq_7 db00b_56 eb_51
noncomputable def d_X6_minuteOfFair_14 := gq_8 db00b_56 eb_0
noncomputable def d_X6_minuteOfFair_15 := gq_9 db00b_56 eb_37
noncomputable def d_X6_minuteOfFair_18 := gq_10 db00b_56 eb_10
noncomputable def d_X6_minuteOfFair_19 := gq_11 db00b_56 eb_38
noncomputable def d_X6_minuteOfFair_20 := gq_12 db00b_56 eb_21
noncomputable def d_X6_minuteOfFair_23 := gq_13 db00b_56 eb_27
noncomputable def d_X6_minuteOfFair_24 := gq_14 db00b_56 eb_16
theorem db00b_57 : Pf_ prog_8_method_15_code [(0, [0x1a]), (1, [0x12, 0x86]), (3, [0x68]), (4, [0x1b]), (5, [0x60]), (6, [0xac])] := pf_ok prog_8_method_15_code _ 0 (by decide +kernel)
noncomputable def d_X6_price_0 := gq_0 db00b_57 eb_9
noncomputable def d_X6_price_1 := gq_1 db00b_57 eb_411
noncomputable def d_X6_price_3 := gq_2 db00b_57 eb_35
noncomputable def d_X6_price_4 := gq_3 db00b_57 eb_10
noncomputable def d_X6_price_5 := gq_4 db00b_57 eb_36
noncomputable def d_X6_price_6 := gq_5 db00b_57 eb_16
theorem db00b_58 : Pf_ prog_8_method_16_code [(0, [0x1b]), (1, [0x03]), (2, [0x10, 0x0b]), (4, [0xb8, 0x00, 0x4f]), (7, [0x99, 0x00, 0x17]), (10, [0x1c]), (11, [0x03]), (12, [0x06]), (13, [0xb8, 0x00, 0x4f]), (16, [0x99, 0x00, 0x0e]), (19, [0x2a]), (20, [0xb4, 0x00, 0x28]), (23, [0x1b]), (24, [0x07]), (25, [0x68]), (26, [0x1c]), (27, [0x60]), (28, [0x1d]), (29, [0x4f]), (30, [0xb1])] := pf_ok prog_8_method_16_code _ 0 (by decide +kernel)
noncomputable def d_X6_setPrice_0 := gq_0 db00b_58 eb_10
noncomputable def d_X6_setPrice_1 := gq_1 db00b_58 eb_22
noncomputable def d_X6_setPrice_2 := gq_2 db00b_58 eb_331
noncomputable def d_X6_setPrice_4 := gq_3 db00b_58 eb_153
noncomputable def d_X6_setPrice_7 := gq_4 db00b_58 eb_207
noncomputable def d_X6_setPrice_10 := gq_5 db00b_58 eb_14
noncomputable def d_X6_setPrice_11 := gq_6 db00b_58 eb_22
noncomputable def d_X6_setPrice_12 := gq_7 db00b_58 eb_55
noncomputable def d_X6_setPrice_13 := gq_8 db00b_58 eb_153
noncomputable def d_X6_setPrice_16 := gq_9 db00b_58 eb_176
noncomputable def d_X6_setPrice_19 := gq_10 db00b_58 eb_0
noncomputable def d_X6_setPrice_20 := gq_11 db00b_58 eb_285
noncomputable def d_X6_setPrice_23 := gq_12 db00b_58 eb_10
noncomputable def d_X6_setPrice_24 := gq_13 db00b_58 eb_294
noncomputable def d_X6_setPrice_25 := gq_14 db00b_58 eb_35
noncomputable def d_X6_setPrice_26 := gq_15 db00b_58 eb_14
noncomputable def d_X6_setPrice_27 := gq_16 db00b_58 eb_36
noncomputable def d_X6_setPrice_28 := gq_17 db00b_58 eb_30
noncomputable def d_X6_setPrice_29 := gq_18 db00b_58 eb_39
noncomputable def d_X6_setPrice_30 := gq_19 db00b_58 eb_8
theorem db00b_59 : Pf_ prog_8_method_17_code [(0, [0x03]), (1, [0x3c]), (2, [0x03]), (3, [0x3d]), (4, [0x1c]), (5, [0x2a]), (6, [0xb4, 0x00, 0x83]), (9, [0xa2, 0x00, 0x16]), (12, [0x1b]), (13, [0x2a]), (14, [0xb4, 0x00, 0x25]), (17, [0x1c]), (18, [0x2e]), (19, [0x05]), (20, [0x1c]), (21, [0x68]), (22, [0x78]), (23, [0x80]), (24, [0x3c]), (25, [0x84, 0x02, 0x01]), (28, [0xa7, 0xff, 0xe8]), (31, [0x1b]), (32, [0xac])] := pf_ok prog_8_method_17_code _ 0 (by decide +kernel)
noncomputable def d_X6_allWanted_0 := gq_0 db00b_59 eb_22
noncomputable def d_X6_allWanted_1 := gq_1 db00b_59 eb_225
noncomputable def d_X6_allWanted_2 := gq_2 db00b_59 eb_22
noncomputable def d_X6_allWanted_3 := gq_3 db00b_59 eb_28
noncomputable def d_X6_allWanted_4 := gq_4 db00b_59 eb_14
noncomputable def d_X6_allWanted_5 := gq_5 db00b_59 eb_0
noncomputable def d_X6_allWanted_6 := gq_6 db00b_59 eb_409
noncomputable def d_X6_allWanted_9 := gq_7 db00b_59 eb_412
noncomputable def d_X6_allWanted_12 := gq_8 db00b_59 eb_10
noncomputable def d_X6_allWanted_13 := gq_9 db00b_59 eb_0
noncomputable def d_X6_allWanted_14 := gq_10 db00b_59 eb_284
noncomputable def d_X6_allWanted_17 := gq_11 db00b_59 eb_14
noncomputable def d_X6_allWanted_18 := gq_12 db00b_59 eb_38
noncomputable def d_X6_allWanted_19 := gq_13 db00b_59 eb_11
noncomputable def d_X6_allWanted_20 := gq_14 db00b_59 eb_14
noncomputable def d_X6_allWanted_21 := gq_15 db00b_59 eb_35
noncomputable def d_X6_allWanted_22 := gq_16 db00b_59 eb_12
noncomputable def d_X6_allWanted_23 := gq_17 db00b_59 eb_13
noncomputable def d_X6_allWanted_24 := gq_18 db00b_59 eb_225
noncomputable def d_X6_allWanted_25 := gq_19 db00b_59 eb_42
noncomputable def d_X6_allWanted_28 := gq_20 db00b_59 eb_161
noncomputable def d_X6_allWanted_31 := gq_21 db00b_59 eb_10
noncomputable def d_X6_allWanted_32 := gq_22 db00b_59 eb_16
theorem db00b_60 : Pf_ prog_8_method_18_code [(0, [0x1b]), (1, [0x10, 0x0c]), (3, [0xb8, 0x00, 0x77]), (6, [0x3d]), (7, [0x2a]), (8, [0xb6, 0x00, 0x87]), (11, [0x3e]), (12, [0x03]), (13, [0x36, 0x04]), (15, [0x15, 0x04]), (17, [0x1d]), (18, [0xa3, 0x00, 0x21]), (21, [0x2a]), (22, [0xb4, 0x00, 0x2b]), (25, [0x1c]), (26, [0x11, 0x01, 0x00]), (29, [0x68]), (30, [0x15, 0x04]), (32, [0x60]), (33, [0x15, 0x04]), (35, [0x9a, 0x00, 0x07]), (38, [0x03]), (39, [0xa7, 0x00, 0x05]), (42, [0x12, 0x8b])] := pf_ok prog_8_method_18_code _ 0 (by decide +kernel)
noncomputable def d_X6_lend_0 := gq_0 db00b_60 eb_10
noncomputable def d_X6_lend_1 := gq_1 db00b_60 eb_5
noncomputable def d_X6_lend_3 := gq_2 db00b_60 eb_403
noncomputable def d_X6_lend_6 := gq_3 db00b_60 eb_28
noncomputable def d_X6_lend_7 := gq_4 db00b_60 eb_0
noncomputable def d_X6_lend_8 := gq_5 db00b_60 eb_413
noncomputable def d_X6_lend_11 := gq_6 db00b_60 eb_29
noncomputable def d_X6_lend_12 := gq_7 db00b_60 eb_22
noncomputable def d_X6_lend_13 := gq_8 db00b_60 eb_134
noncomputable def d_X6_lend_15 := gq_9 db00b_60 eb_77
noncomputable def d_X6_lend_17 := gq_10 db00b_60 eb_30
noncomputable def d_X6_lend_18 := gq_11 db00b_60 eb_414
noncomputable def d_X6_lend_21 := gq_12 db00b_60 eb_0
noncomputable def d_X6_lend_22 := gq_13 db00b_60 eb_286
noncomputable def d_X6_lend_25 := gq_14 db00b_60 eb_14
noncomputable def d_X6_lend_26 := gq_15 db00b_60 eb_235
noncomputable def d_X6_lend_29 := gq_16 db00b_60 eb_35
noncomputable def d_X6_lend_30 := gq_17 db00b_60 eb_77
noncomputable def d_X6_lend_32 := gq_18 db00b_60 eb_36
noncomputable def d_X6_lend_33 := gq_19 db00b_60 eb_77
noncomputable def d_X6_lend_35 := gq_20 db00b_60 eb_166
noncomputable def d_X6_lend_38 := gq_21 db00b_60 eb_22
noncomputable def d_X6_lend_39 := gq_22 db00b_60 eb_90
noncomputable def d_X6_lend_42 := gq_23 db00b_60 eb_415
theorem db00b_61 : Pf_ prog_8_method_18_code [(44, [0x4f]), (45, [0x84, 0x04, 0x01]), (48, [0xa7, 0xff, 0xdf]), (51, [0x1c]), (52, [0x04]), (53, [0x64]), (54, [0x36, 0x04]), (56, [0x15, 0x04]), (58, [0x9b, 0x00, 0x2e]), (61, [0x03]), (62, [0x36, 0x05]), (64, [0x15, 0x05]), (66, [0x1d]), (67, [0xa3, 0x00, 0x1f]), (70, [0x2a]), (71, [0xb4, 0x00, 0x2b]), (74, [0x15, 0x04]), (76, [0x11, 0x01, 0x00]), (79, [0x68]), (80, [0x15, 0x05]), (82, [0x60]), (83, [0x2a]), (84, [0x15, 0x04]), (86, [0x15, 0x05])] := pf_ok prog_8_method_18_code _ 44 (by decide +kernel)
noncomputable def d_X6_lend_44 := gq_0 db00b_61 eb_39
noncomputable def d_X6_lend_45 := gq_1 db00b_61 eb_146
noncomputable def d_X6_lend_48 := gq_2 db00b_61 eb_416
noncomputable def d_X6_lend_51 := gq_3 db00b_61 eb_14
noncomputable def d_X6_lend_52 := gq_4 db00b_61 eb_20
noncomputable def d_X6_lend_53 := gq_5 db00b_61 eb_49
noncomputable def d_X6_lend_54 := gq_6 db00b_61 eb_134
noncomputable def d_X6_lend_56 := gq_7 db00b_61 eb_77
noncomputable def d_X6_lend_58 := gq_8 db00b_61 eb_417
noncomputable def d_X6_lend_61 := gq_9 db00b_61 eb_22
noncomputable def d_X6_lend_62 := gq_10 db00b_61 eb_135
noncomputable def d_X6_lend_64 := gq_11 db00b_61 eb_126
noncomputable def d_X6_lend_66 := gq_12 db00b_61 eb_30
noncomputable def d_X6_lend_67 := gq_13 db00b_61 eb_418
noncomputable def d_X6_lend_70 := gq_14 db00b_61 eb_0
noncomputable def d_X6_lend_71 := gq_15 db00b_61 eb_286
noncomputable def d_X6_lend_74 := gq_16 db00b_61 eb_77
noncomputable def d_X6_lend_76 := gq_17 db00b_61 eb_235
noncomputable def d_X6_lend_79 := gq_18 db00b_61 eb_35
noncomputable def d_X6_lend_80 := gq_19 db00b_61 eb_126
noncomputable def d_X6_lend_82 := gq_20 db00b_61 eb_36
noncomputable def d_X6_lend_83 := gq_21 db00b_61 eb_0
noncomputable def d_X6_lend_84 := gq_22 db00b_61 eb_77
noncomputable def d_X6_lend_86 := gq_23 db00b_61 eb_126
theorem db00b_62 : Pf_ prog_8_method_18_code [(88, [0xb6, 0x00, 0x8c]), (91, [0x4f]), (92, [0x84, 0x05, 0x01]), (95, [0xa7, 0xff, 0xe1]), (98, [0x84, 0x04, 0xff]), (101, [0xa7, 0xff, 0xd3]), (104, [0x2a]), (105, [0xb4, 0x00, 0x2b]), (108, [0x1d]), (109, [0x2e]), (110, [0x12, 0x8b]), (112, [0xa1, 0x00, 0x05]), (115, [0x03]), (116, [0xac]), (117, [0x2a]), (118, [0x1c]), (119, [0x1d]), (120, [0xb6, 0x00, 0x8f]), (123, [0x04]), (124, [0xac])] := pf_ok prog_8_method_18_code _ 88 (by decide +kernel)
noncomputable def d_X6_lend_88 := gq_0 db00b_62 eb_419
noncomputable def d_X6_lend_91 := gq_1 db00b_62 eb_39
noncomputable def d_X6_lend_92 := gq_2 db00b_62 eb_223
noncomputable def d_X6_lend_95 := gq_3 db00b_62 eb_420
noncomputable def d_X6_lend_98 := gq_4 db00b_62 eb_421
noncomputable def d_X6_lend_101 := gq_5 db00b_62 eb_254
noncomputable def d_X6_lend_104 := gq_6 db00b_62 eb_0
noncomputable def d_X6_lend_105 := gq_7 db00b_62 eb_286
noncomputable def d_X6_lend_108 := gq_8 db00b_62 eb_30
noncomputable def d_X6_lend_109 := gq_9 db00b_62 eb_38
noncomputable def d_X6_lend_110 := gq_10 db00b_62 eb_415
noncomputable def d_X6_lend_112 := gq_11 db00b_62 eb_115
noncomputable def d_X6_lend_115 := gq_12 db00b_62 eb_22
noncomputable def d_X6_lend_116 := gq_13 db00b_62 eb_16
noncomputable def d_X6_lend_117 := gq_14 db00b_62 eb_0
noncomputable def d_X6_lend_118 := gq_15 db00b_62 eb_14
noncomputable def d_X6_lend_119 := gq_16 db00b_62 eb_30
noncomputable def d_X6_lend_120 := gq_17 db00b_62 eb_422
noncomputable def d_X6_lend_123 := gq_18 db00b_62 eb_20
noncomputable def d_X6_lend_124 := gq_19 db00b_62 eb_16
theorem db00b_63 : Pf_ prog_8_method_19_code [(0, [0x2a]), (1, [0xb4, 0x00, 0x28]), (4, [0x1b]), (5, [0x07]), (6, [0x68]), (7, [0x1c]), (8, [0x60]), (9, [0x2e]), (10, [0x36, 0x04]), (12, [0x1d]), (13, [0x05]), (14, [0x1c]), (15, [0x68]), (16, [0x7a]), (17, [0x06]), (18, [0x7e]), (19, [0x99, 0x00, 0x09]), (22, [0x15, 0x04]), (24, [0x02]), (25, [0xa0, 0x00, 0x06]), (28, [0x12, 0x8b]), (30, [0xac]), (31, [0x12, 0x8b]), (33, [0x15, 0x04])] := pf_ok prog_8_method_19_code _ 0 (by decide +kernel)
noncomputable def d_X6_costWith_0 := gq_0 db00b_63 eb_0
noncomputable def d_X6_costWith_1 := gq_1 db00b_63 eb_285
noncomputable def d_X6_costWith_4 := gq_2 db00b_63 eb_10
noncomputable def d_X6_costWith_5 := gq_3 db00b_63 eb_294
noncomputable def d_X6_costWith_6 := gq_4 db00b_63 eb_35
noncomputable def d_X6_costWith_7 := gq_5 db00b_63 eb_14
noncomputable def d_X6_costWith_8 := gq_6 db00b_63 eb_36
noncomputable def d_X6_costWith_9 := gq_7 db00b_63 eb_38
noncomputable def d_X6_costWith_10 := gq_8 db00b_63 eb_134
noncomputable def d_X6_costWith_12 := gq_9 db00b_63 eb_30
noncomputable def d_X6_costWith_13 := gq_10 db00b_63 eb_11
noncomputable def d_X6_costWith_14 := gq_11 db00b_63 eb_14
noncomputable def d_X6_costWith_15 := gq_12 db00b_63 eb_35
noncomputable def d_X6_costWith_16 := gq_13 db00b_63 eb_57
noncomputable def d_X6_costWith_17 := gq_14 db00b_63 eb_55
noncomputable def d_X6_costWith_18 := gq_15 db00b_63 eb_56
noncomputable def d_X6_costWith_19 := gq_16 db00b_63 eb_252
noncomputable def d_X6_costWith_22 := gq_17 db00b_63 eb_77
noncomputable def d_X6_costWith_24 := gq_18 db00b_63 eb_27
noncomputable def d_X6_costWith_25 := gq_19 db00b_63 eb_41
noncomputable def d_X6_costWith_28 := gq_20 db00b_63 eb_415
noncomputable def d_X6_costWith_30 := gq_21 db00b_63 eb_16
noncomputable def d_X6_costWith_31 := gq_22 db00b_63 eb_415
noncomputable def d_X6_costWith_33 := gq_23 db00b_63 eb_77
theorem db00b_64 : Pf_ prog_8_method_19_code [(35, [0x2a]), (36, [0xb4, 0x00, 0x2b]), (39, [0x1b]), (40, [0x04]), (41, [0x60]), (42, [0x11, 0x01, 0x00]), (45, [0x68]), (46, [0x1d]), (47, [0x60]), (48, [0x04]), (49, [0x05]), (50, [0x1c]), (51, [0x68]), (52, [0x78]), (53, [0x64]), (54, [0x2e]), (55, [0x60]), (56, [0xb8, 0x00, 0x77]), (59, [0xac])] := pf_ok prog_8_method_19_code _ 35 (by decide +kernel)
noncomputable def d_X6_costWith_35 := gq_0 db00b_64 eb_0
noncomputable def d_X6_costWith_36 := gq_1 db00b_64 eb_286
noncomputable def d_X6_costWith_39 := gq_2 db00b_64 eb_10
noncomputable def d_X6_costWith_40 := gq_3 db00b_64 eb_20
noncomputable def d_X6_costWith_41 := gq_4 db00b_64 eb_36
noncomputable def d_X6_costWith_42 := gq_5 db00b_64 eb_235
noncomputable def d_X6_costWith_45 := gq_6 db00b_64 eb_35
noncomputable def d_X6_costWith_46 := gq_7 db00b_64 eb_30
noncomputable def d_X6_costWith_47 := gq_8 db00b_64 eb_36
noncomputable def d_X6_costWith_48 := gq_9 db00b_64 eb_20
noncomputable def d_X6_costWith_49 := gq_10 db00b_64 eb_11
noncomputable def d_X6_costWith_50 := gq_11 db00b_64 eb_14
noncomputable def d_X6_costWith_51 := gq_12 db00b_64 eb_35
noncomputable def d_X6_costWith_52 := gq_13 db00b_64 eb_12
noncomputable def d_X6_costWith_53 := gq_14 db00b_64 eb_49
noncomputable def d_X6_costWith_54 := gq_15 db00b_64 eb_38
noncomputable def d_X6_costWith_55 := gq_16 db00b_64 eb_36
noncomputable def d_X6_costWith_56 := gq_17 db00b_64 eb_403
noncomputable def d_X6_costWith_59 := gq_18 db00b_64 eb_16
theorem db00b_65 : Pf_ prog_8_method_20_code [(0, [0x2a]), (1, [0xb4, 0x00, 0x2b]), (4, [0x1b]), (5, [0x04]), (6, [0x60]), (7, [0x11, 0x01, 0x00]), (10, [0x68]), (11, [0x1c]), (12, [0x60]), (13, [0x2e]), (14, [0x3e]), (15, [0x03]), (16, [0x36, 0x04]), (18, [0x15, 0x04]), (20, [0x2a]), (21, [0xb4, 0x00, 0x83]), (24, [0xa2, 0x00, 0x16]), (27, [0x1d]), (28, [0x2a]), (29, [0x1b]), (30, [0x15, 0x04]), (32, [0x1c]), (33, [0xb6, 0x00, 0x93]), (36, [0xb8, 0x00, 0x77])] := pf_ok prog_8_method_20_code _ 0 (by decide +kernel)
noncomputable def d_X6_leastCost_0 := gq_0 db00b_65 eb_0
noncomputable def d_X6_leastCost_1 := gq_1 db00b_65 eb_286
noncomputable def d_X6_leastCost_4 := gq_2 db00b_65 eb_10
noncomputable def d_X6_leastCost_5 := gq_3 db00b_65 eb_20
noncomputable def d_X6_leastCost_6 := gq_4 db00b_65 eb_36
noncomputable def d_X6_leastCost_7 := gq_5 db00b_65 eb_235
noncomputable def d_X6_leastCost_10 := gq_6 db00b_65 eb_35
noncomputable def d_X6_leastCost_11 := gq_7 db00b_65 eb_14
noncomputable def d_X6_leastCost_12 := gq_8 db00b_65 eb_36
noncomputable def d_X6_leastCost_13 := gq_9 db00b_65 eb_38
noncomputable def d_X6_leastCost_14 := gq_10 db00b_65 eb_29
noncomputable def d_X6_leastCost_15 := gq_11 db00b_65 eb_22
noncomputable def d_X6_leastCost_16 := gq_12 db00b_65 eb_134
noncomputable def d_X6_leastCost_18 := gq_13 db00b_65 eb_77
noncomputable def d_X6_leastCost_20 := gq_14 db00b_65 eb_0
noncomputable def d_X6_leastCost_21 := gq_15 db00b_65 eb_409
noncomputable def d_X6_leastCost_24 := gq_16 db00b_65 eb_412
noncomputable def d_X6_leastCost_27 := gq_17 db00b_65 eb_30
noncomputable def d_X6_leastCost_28 := gq_18 db00b_65 eb_0
noncomputable def d_X6_leastCost_29 := gq_19 db00b_65 eb_10
noncomputable def d_X6_leastCost_30 := gq_20 db00b_65 eb_77
noncomputable def d_X6_leastCost_32 := gq_21 db00b_65 eb_14
noncomputable def d_X6_leastCost_33 := gq_22 db00b_65 eb_423
noncomputable def d_X6_leastCost_36 := gq_23 db00b_65 eb_403
theorem db00b_66 : Pf_ prog_8_method_20_code [(39, [0x3e]), (40, [0x84, 0x04, 0x01]), (43, [0xa7, 0xff, 0xe7]), (46, [0x1d]), (47, [0xac])] := pf_ok prog_8_method_20_code _ 39 (by decide +kernel)
noncomputable def d_X6_leastCost_39 := gq_0 db00b_66 eb_29
noncomputable def d_X6_leastCost_40 := gq_1 db00b_66 eb_146
noncomputable def d_X6_leastCost_43 := gq_2 db00b_66 eb_424
noncomputable def d_X6_leastCost_46 := gq_3 db00b_66 eb_30
noncomputable def d_X6_leastCost_47 := gq_4 db00b_66 eb_16
theorem db00b_67 : Pf_ prog_8_method_21_code [(0, [0x1c]), (1, [0x3e]), (2, [0x03]), (3, [0x36, 0x04]), (5, [0x15, 0x04]), (7, [0x1b]), (8, [0xa2, 0x00, 0x74]), (11, [0x2a]), (12, [0xb4, 0x00, 0x2e]), (15, [0x15, 0x04]), (17, [0x02]), (18, [0x4f]), (19, [0x03]), (20, [0x36, 0x05]), (22, [0x15, 0x05]), (24, [0x2a]), (25, [0xb4, 0x00, 0x83]), (28, [0xa2, 0x00, 0x41]), (31, [0x2a]), (32, [0xb4, 0x00, 0x2e]), (35, [0x15, 0x04]), (37, [0x2e]), (38, [0x02]), (39, [0xa0, 0x00, 0x36])] := pf_ok prog_8_method_21_code _ 0 (by decide +kernel)
noncomputable def d_X6_traceLending_0 := gq_0 db00b_67 eb_14
noncomputable def d_X6_traceLending_1 := gq_1 db00b_67 eb_29
noncomputable def d_X6_traceLending_2 := gq_2 db00b_67 eb_22
noncomputable def d_X6_traceLending_3 := gq_3 db00b_67 eb_134
noncomputable def d_X6_traceLending_5 := gq_4 db00b_67 eb_77
noncomputable def d_X6_traceLending_7 := gq_5 db00b_67 eb_10
noncomputable def d_X6_traceLending_8 := gq_6 db00b_67 eb_425
noncomputable def d_X6_traceLending_11 := gq_7 db00b_67 eb_0
noncomputable def d_X6_traceLending_12 := gq_8 db00b_67 eb_287
noncomputable def d_X6_traceLending_15 := gq_9 db00b_67 eb_77
noncomputable def d_X6_traceLending_17 := gq_10 db00b_67 eb_27
noncomputable def d_X6_traceLending_18 := gq_11 db00b_67 eb_39
noncomputable def d_X6_traceLending_19 := gq_12 db00b_67 eb_22
noncomputable def d_X6_traceLending_20 := gq_13 db00b_67 eb_135
noncomputable def d_X6_traceLending_22 := gq_14 db00b_67 eb_126
noncomputable def d_X6_traceLending_24 := gq_15 db00b_67 eb_0
noncomputable def d_X6_traceLending_25 := gq_16 db00b_67 eb_409
noncomputable def d_X6_traceLending_28 := gq_17 db00b_67 eb_226
noncomputable def d_X6_traceLending_31 := gq_18 db00b_67 eb_0
noncomputable def d_X6_traceLending_32 := gq_19 db00b_67 eb_287
noncomputable def d_X6_traceLending_35 := gq_20 db00b_67 eb_77
noncomputable def d_X6_traceLending_37 := gq_21 db00b_67 eb_38
noncomputable def d_X6_traceLending_38 := gq_22 db00b_67 eb_27
noncomputable def d_X6_traceLending_39 := gq_23 db00b_67 eb_426
theorem db00b_68 : Pf_ prog_8_method_21_code [(42, [0x2a]), (43, [0x15, 0x04]), (45, [0x15, 0x05]), (47, [0x1d]), (48, [0xb6, 0x00, 0x93]), (51, [0x36, 0x06]), (53, [0x15, 0x06]), (55, [0x12, 0x8b]), (57, [0xa2, 0x00, 0x1e]), (60, [0x15, 0x06]), (62, [0x2a]), (63, [0xb4, 0x00, 0x2b]), (66, [0x15, 0x04]), (68, [0x11, 0x01, 0x00]), (71, [0x68]), (72, [0x1d]), (73, [0x60]), (74, [0x2e]), (75, [0xa0, 0x00, 0x0c]), (78, [0x2a]), (79, [0xb4, 0x00, 0x2e]), (82, [0x15, 0x04]), (84, [0x15, 0x05]), (86, [0x4f])] := pf_ok prog_8_method_21_code _ 42 (by decide +kernel)
noncomputable def d_X6_traceLending_42 := gq_0 db00b_68 eb_0
noncomputable def d_X6_traceLending_43 := gq_1 db00b_68 eb_77
noncomputable def d_X6_traceLending_45 := gq_2 db00b_68 eb_126
noncomputable def d_X6_traceLending_47 := gq_3 db00b_68 eb_30
noncomputable def d_X6_traceLending_48 := gq_4 db00b_68 eb_423
noncomputable def d_X6_traceLending_51 := gq_5 db00b_68 eb_59
noncomputable def d_X6_traceLending_53 := gq_6 db00b_68 eb_76
noncomputable def d_X6_traceLending_55 := gq_7 db00b_68 eb_415
noncomputable def d_X6_traceLending_57 := gq_8 db00b_68 eb_250
noncomputable def d_X6_traceLending_60 := gq_9 db00b_68 eb_76
noncomputable def d_X6_traceLending_62 := gq_10 db00b_68 eb_0
noncomputable def d_X6_traceLending_63 := gq_11 db00b_68 eb_286
noncomputable def d_X6_traceLending_66 := gq_12 db00b_68 eb_77
noncomputable def d_X6_traceLending_68 := gq_13 db00b_68 eb_235
noncomputable def d_X6_traceLending_71 := gq_14 db00b_68 eb_35
noncomputable def d_X6_traceLending_72 := gq_15 db00b_68 eb_30
noncomputable def d_X6_traceLending_73 := gq_16 db00b_68 eb_36
noncomputable def d_X6_traceLending_74 := gq_17 db00b_68 eb_38
noncomputable def d_X6_traceLending_75 := gq_18 db00b_68 eb_427
noncomputable def d_X6_traceLending_78 := gq_19 db00b_68 eb_0
noncomputable def d_X6_traceLending_79 := gq_20 db00b_68 eb_287
noncomputable def d_X6_traceLending_82 := gq_21 db00b_68 eb_77
noncomputable def d_X6_traceLending_84 := gq_22 db00b_68 eb_126
noncomputable def d_X6_traceLending_86 := gq_23 db00b_68 eb_39
theorem db00b_69 : Pf_ prog_8_method_21_code [(87, [0x84, 0x05, 0x01]), (90, [0xa7, 0xff, 0xbc]), (93, [0x2a]), (94, [0xb4, 0x00, 0x2e]), (97, [0x15, 0x04]), (99, [0x2e]), (100, [0x02]), (101, [0x9f, 0x00, 0x11]), (104, [0x1d]), (105, [0x04]), (106, [0x05]), (107, [0x2a]), (108, [0xb4, 0x00, 0x2e]), (111, [0x15, 0x04]), (113, [0x2e]), (114, [0x68]), (115, [0x78]), (116, [0x64]), (117, [0x3e]), (118, [0x84, 0x04, 0x01]), (121, [0xa7, 0xff, 0x8c]), (124, [0xb1])] := pf_ok prog_8_method_21_code _ 87 (by decide +kernel)
noncomputable def d_X6_traceLending_87 := gq_0 db00b_69 eb_223
noncomputable def d_X6_traceLending_90 := gq_1 db00b_69 eb_258
noncomputable def d_X6_traceLending_93 := gq_2 db00b_69 eb_0
noncomputable def d_X6_traceLending_94 := gq_3 db00b_69 eb_287
noncomputable def d_X6_traceLending_97 := gq_4 db00b_69 eb_77
noncomputable def d_X6_traceLending_99 := gq_5 db00b_69 eb_38
noncomputable def d_X6_traceLending_100 := gq_6 db00b_69 eb_27
noncomputable def d_X6_traceLending_101 := gq_7 db00b_69 eb_428
noncomputable def d_X6_traceLending_104 := gq_8 db00b_69 eb_30
noncomputable def d_X6_traceLending_105 := gq_9 db00b_69 eb_20
noncomputable def d_X6_traceLending_106 := gq_10 db00b_69 eb_11
noncomputable def d_X6_traceLending_107 := gq_11 db00b_69 eb_0
noncomputable def d_X6_traceLending_108 := gq_12 db00b_69 eb_287
noncomputable def d_X6_traceLending_111 := gq_13 db00b_69 eb_77
noncomputable def d_X6_traceLending_113 := gq_14 db00b_69 eb_38
noncomputable def d_X6_traceLending_114 := gq_15 db00b_69 eb_35
noncomputable def d_X6_traceLending_115 := gq_16 db00b_69 eb_12
noncomputable def d_X6_traceLending_116 := gq_17 db00b_69 eb_49
noncomputable def d_X6_traceLending_117 := gq_18 db00b_69 eb_29
noncomputable def d_X6_traceLending_118 := gq_19 db00b_69 eb_146
noncomputable def d_X6_traceLending_121 := gq_20 db00b_69 eb_429
noncomputable def d_X6_traceLending_124 := gq_21 db00b_69 eb_8
theorem db00b_70 : Pf_ prog_8_method_22_code [(0, [0x2a]), (1, [0xb4, 0x00, 0x2b]), (4, [0x2a]), (5, [0xb6, 0x00, 0x87]), (8, [0x2e]), (9, [0x12, 0x86]), (11, [0x6c]), (12, [0xac])] := pf_ok prog_8_method_22_code _ 0 (by decide +kernel)
noncomputable def d_X6_pointsLost_0 := gq_0 db00b_70 eb_0
noncomputable def d_X6_pointsLost_1 := gq_1 db00b_70 eb_286
noncomputable def d_X6_pointsLost_4 := gq_2 db00b_70 eb_0
noncomputable def d_X6_pointsLost_5 := gq_3 db00b_70 eb_413
noncomputable def d_X6_pointsLost_8 := gq_4 db00b_70 eb_38
noncomputable def d_X6_pointsLost_9 := gq_5 db00b_70 eb_411
noncomputable def d_X6_pointsLost_11 := gq_6 db00b_70 eb_222
noncomputable def d_X6_pointsLost_12 := gq_7 db00b_70 eb_16
theorem db00b_71 : Pf_ prog_8_method_23_code [(0, [0x2a]), (1, [0xb4, 0x00, 0x2b]), (4, [0x2a]), (5, [0xb6, 0x00, 0x87]), (8, [0x2e]), (9, [0x12, 0x86]), (11, [0x70]), (12, [0xac])] := pf_ok prog_8_method_23_code _ 0 (by decide +kernel)
noncomputable def d_X6_minutesWalked_0 := gq_0 db00b_71 eb_0
noncomputable def d_X6_minutesWalked_1 := gq_1 db00b_71 eb_286
noncomputable def d_X6_minutesWalked_4 := gq_2 db00b_71 eb_0
noncomputable def d_X6_minutesWalked_5 := gq_3 db00b_71 eb_413
noncomputable def d_X6_minutesWalked_8 := gq_4 db00b_71 eb_38
noncomputable def d_X6_minutesWalked_9 := gq_5 db00b_71 eb_411
noncomputable def d_X6_minutesWalked_11 := gq_6 db00b_71 eb_221
noncomputable def d_X6_minutesWalked_12 := gq_7 db00b_71 eb_16
theorem db00b_72 : Pf_ prog_8_method_24_code [(0, [0x1b]), (1, [0x03]), (2, [0x10, 0x0b]), (4, [0xb8, 0x00, 0x4f]), (7, [0x99, 0x00, 0x0c]), (10, [0x2a]), (11, [0xb4, 0x00, 0x2e]), (14, [0x1b]), (15, [0x2e]), (16, [0xa7, 0x00, 0x04]), (19, [0x02]), (20, [0xac])] := pf_ok prog_8_method_24_code _ 0 (by decide +kernel)
noncomputable def d_X6_fairOf_0 := gq_0 db00b_72 eb_10
noncomputable def d_X6_fairOf_1 := gq_1 db00b_72 eb_22
noncomputable def d_X6_fairOf_2 := gq_2 db00b_72 eb_331
noncomputable def d_X6_fairOf_4 := gq_3 db00b_72 eb_153
noncomputable def d_X6_fairOf_7 := gq_4 db00b_72 eb_51
noncomputable def d_X6_fairOf_10 := gq_5 db00b_72 eb_0
noncomputable def d_X6_fairOf_11 := gq_6 db00b_72 eb_287
noncomputable def d_X6_fairOf_14 := gq_7 db00b_72 eb_10
noncomputable def d_X6_fairOf_15 := gq_8 db00b_72 eb_38
noncomputable def d_X6_fairOf_16 := gq_9 db00b_72 eb_21
noncomputable def d_X6_fairOf_19 := gq_10 db00b_72 eb_27
noncomputable def d_X6_fairOf_20 := gq_11 db00b_72 eb_16
theorem db00b_73 : Pf_ prog_9_method_1_code [(0, [0x2a]), (1, [0xb7, 0x00, 0x03]), (4, [0x2a]), (5, [0x11, 0x01, 0x90]), (8, [0xbc, 0x0a]), (10, [0xb5, 0x00, 0x0b]), (13, [0x2a]), (14, [0x11, 0x01, 0x90]), (17, [0xbc, 0x0a]), (19, [0xb5, 0x00, 0x0f]), (22, [0x2a]), (23, [0x11, 0x01, 0x90]), (26, [0xbc, 0x0a]), (28, [0xb5, 0x00, 0x12]), (31, [0x2a]), (32, [0x11, 0x01, 0x90]), (35, [0xbc, 0x0a]), (37, [0xb5, 0x00, 0x15]), (40, [0x2a]), (41, [0x11, 0x01, 0x90]), (44, [0xbc, 0x0a]), (46, [0xb5, 0x00, 0x18]), (49, [0x2a]), (50, [0x11, 0x01, 0x90])] := pf_ok prog_9_method_1_code _ 0 (by decide +kernel)
noncomputable def d_X7_init_0 := gq_0 db00b_73 eb_0
noncomputable def d_X7_init_1 := gq_1 db00b_73 eb_1
noncomputable def d_X7_init_4 := gq_2 db00b_73 eb_0
noncomputable def d_X7_init_5 := gq_3 db00b_73 eb_430
noncomputable def d_X7_init_8 := gq_4 db00b_73 eb_3
noncomputable def d_X7_init_10 := gq_5 db00b_73 eb_4
noncomputable def d_X7_init_13 := gq_6 db00b_73 eb_0
noncomputable def d_X7_init_14 := gq_7 db00b_73 eb_430
noncomputable def d_X7_init_17 := gq_8 db00b_73 eb_3
noncomputable def d_X7_init_19 := gq_9 db00b_73 eb_6
noncomputable def d_X7_init_22 := gq_10 db00b_73 eb_0
noncomputable def d_X7_init_23 := gq_11 db00b_73 eb_430
noncomputable def d_X7_init_26 := gq_12 db00b_73 eb_3
noncomputable def d_X7_init_28 := gq_13 db00b_73 eb_7
noncomputable def d_X7_init_31 := gq_14 db00b_73 eb_0
noncomputable def d_X7_init_32 := gq_15 db00b_73 eb_430
noncomputable def d_X7_init_35 := gq_16 db00b_73 eb_3
noncomputable def d_X7_init_37 := gq_17 db00b_73 eb_48
noncomputable def d_X7_init_40 := gq_18 db00b_73 eb_0
noncomputable def d_X7_init_41 := gq_19 db00b_73 eb_430
noncomputable def d_X7_init_44 := gq_20 db00b_73 eb_3
noncomputable def d_X7_init_46 := gq_21 db00b_73 eb_96
noncomputable def d_X7_init_49 := gq_22 db00b_73 eb_0
noncomputable def d_X7_init_50 := gq_23 db00b_73 eb_430
theorem db00b_74 : Pf_ prog_9_method_1_code [(53, [0xbc, 0x0a]), (55, [0xb5, 0x00, 0x1b]), (58, [0x2a]), (59, [0x11, 0x01, 0x90]), (62, [0xbc, 0x0a]), (64, [0xb5, 0x00, 0x1e]), (67, [0x2a]), (68, [0x11, 0x00, 0xc8]), (71, [0xbc, 0x0a]), (73, [0xb5, 0x00, 0x21]), (76, [0x2a]), (77, [0x11, 0x00, 0xc8]), (80, [0xbc, 0x0a]), (82, [0xb5, 0x00, 0x24]), (85, [0x2a]), (86, [0x11, 0x00, 0xc8]), (89, [0xbc, 0x0a]), (91, [0xb5, 0x00, 0x27]), (94, [0xb1])] := pf_ok prog_9_method_1_code _ 53 (by decide +kernel)
noncomputable def d_X7_init_53 := gq_0 db00b_74 eb_3
noncomputable def d_X7_init_55 := gq_1 db00b_74 eb_98
noncomputable def d_X7_init_58 := gq_2 db00b_74 eb_0
noncomputable def d_X7_init_59 := gq_3 db00b_74 eb_430
noncomputable def d_X7_init_62 := gq_4 db00b_74 eb_3
noncomputable def d_X7_init_64 := gq_5 db00b_74 eb_99
noncomputable def d_X7_init_67 := gq_6 db00b_74 eb_0
noncomputable def d_X7_init_68 := gq_7 db00b_74 eb_97
noncomputable def d_X7_init_71 := gq_8 db00b_74 eb_3
noncomputable def d_X7_init_73 := gq_9 db00b_74 eb_101
noncomputable def d_X7_init_76 := gq_10 db00b_74 eb_0
noncomputable def d_X7_init_77 := gq_11 db00b_74 eb_97
noncomputable def d_X7_init_80 := gq_12 db00b_74 eb_3
noncomputable def d_X7_init_82 := gq_13 db00b_74 eb_103
noncomputable def d_X7_init_85 := gq_14 db00b_74 eb_0
noncomputable def d_X7_init_86 := gq_15 db00b_74 eb_97
noncomputable def d_X7_init_89 := gq_16 db00b_74 eb_3
noncomputable def d_X7_init_91 := gq_17 db00b_74 eb_104
noncomputable def d_X7_init_94 := gq_18 db00b_74 eb_8
theorem db00b_75 : Pf_ prog_9_method_2_code [(0, [0x1b]), (1, [0x9b, 0x00, 0x0f]), (4, [0x1b]), (5, [0x2a]), (6, [0xb4, 0x00, 0x2a]), (9, [0xa2, 0x00, 0x07]), (12, [0x04]), (13, [0xa7, 0x00, 0x04]), (16, [0x03]), (17, [0xac])] := pf_ok prog_9_method_2_code _ 0 (by decide +kernel)
noncomputable def d_X7_has_0 := gq_0 db00b_75 eb_10
noncomputable def d_X7_has_1 := gq_1 db00b_75 eb_17
noncomputable def d_X7_has_4 := gq_2 db00b_75 eb_10
noncomputable def d_X7_has_5 := gq_3 db00b_75 eb_0
noncomputable def d_X7_has_6 := gq_4 db00b_75 eb_179
noncomputable def d_X7_has_9 := gq_5 db00b_75 eb_19
noncomputable def d_X7_has_12 := gq_6 db00b_75 eb_20
noncomputable def d_X7_has_13 := gq_7 db00b_75 eb_21
noncomputable def d_X7_has_16 := gq_8 db00b_75 eb_22
noncomputable def d_X7_has_17 := gq_9 db00b_75 eb_16
theorem db00b_76 : Pf_ prog_9_method_3_code [(0, [0x2a]), (1, [0xb4, 0x00, 0x2a]), (4, [0x1b]), (5, [0x60]), (6, [0x11, 0x01, 0x90]), (9, [0xa3, 0x00, 0x07]), (12, [0x04]), (13, [0xa7, 0x00, 0x04]), (16, [0x03]), (17, [0xac])] := pf_ok prog_9_method_3_code _ 0 (by decide +kernel)
noncomputable def d_X7_hasRoom_0 := gq_0 db00b_76 eb_0
noncomputable def d_X7_hasRoom_1 := gq_1 db00b_76 eb_179
noncomputable def d_X7_hasRoom_4 := gq_2 db00b_76 eb_10
noncomputable def d_X7_hasRoom_5 := gq_3 db00b_76 eb_36
noncomputable def d_X7_hasRoom_6 := gq_4 db00b_76 eb_430
noncomputable def d_X7_hasRoom_9 := gq_5 db00b_76 eb_114
noncomputable def d_X7_hasRoom_12 := gq_6 db00b_76 eb_20
noncomputable def d_X7_hasRoom_13 := gq_7 db00b_76 eb_21
noncomputable def d_X7_hasRoom_16 := gq_8 db00b_76 eb_22
noncomputable def d_X7_hasRoom_17 := gq_9 db00b_76 eb_16
theorem db00b_77 : Pf_ prog_9_method_4_code [(0, [0x2a]), (1, [0xb4, 0x00, 0x2a]), (4, [0x11, 0x01, 0x90]), (7, [0xa2, 0x00, 0x36]), (10, [0x2a]), (11, [0xb4, 0x00, 0x0b]), (14, [0x2a]), (15, [0xb4, 0x00, 0x2a]), (18, [0x1b]), (19, [0x4f]), (20, [0x2a]), (21, [0xb4, 0x00, 0x0f]), (24, [0x2a]), (25, [0xb4, 0x00, 0x2a]), (28, [0x1c]), (29, [0x4f]), (30, [0x2a]), (31, [0xb4, 0x00, 0x12]), (34, [0x2a]), (35, [0xb4, 0x00, 0x2a]), (38, [0x1d]), (39, [0x4f]), (40, [0x2a]), (41, [0xb4, 0x00, 0x15])] := pf_ok prog_9_method_4_code _ 0 (by decide +kernel)
noncomputable def d_X7_write_0 := gq_0 db00b_77 eb_0
noncomputable def d_X7_write_1 := gq_1 db00b_77 eb_179
noncomputable def d_X7_write_4 := gq_2 db00b_77 eb_430
noncomputable def d_X7_write_7 := gq_3 db00b_77 eb_376
noncomputable def d_X7_write_10 := gq_4 db00b_77 eb_0
noncomputable def d_X7_write_11 := gq_5 db00b_77 eb_33
noncomputable def d_X7_write_14 := gq_6 db00b_77 eb_0
noncomputable def d_X7_write_15 := gq_7 db00b_77 eb_179
noncomputable def d_X7_write_18 := gq_8 db00b_77 eb_10
noncomputable def d_X7_write_19 := gq_9 db00b_77 eb_39
noncomputable def d_X7_write_20 := gq_10 db00b_77 eb_0
noncomputable def d_X7_write_21 := gq_11 db00b_77 eb_45
noncomputable def d_X7_write_24 := gq_12 db00b_77 eb_0
noncomputable def d_X7_write_25 := gq_13 db00b_77 eb_179
noncomputable def d_X7_write_28 := gq_14 db00b_77 eb_14
noncomputable def d_X7_write_29 := gq_15 db00b_77 eb_39
noncomputable def d_X7_write_30 := gq_16 db00b_77 eb_0
noncomputable def d_X7_write_31 := gq_17 db00b_77 eb_46
noncomputable def d_X7_write_34 := gq_18 db00b_77 eb_0
noncomputable def d_X7_write_35 := gq_19 db00b_77 eb_179
noncomputable def d_X7_write_38 := gq_20 db00b_77 eb_30
noncomputable def d_X7_write_39 := gq_21 db00b_77 eb_39
noncomputable def d_X7_write_40 := gq_22 db00b_77 eb_0
noncomputable def d_X7_write_41 := gq_23 db00b_77 eb_18
theorem db00b_78 : Pf_ prog_9_method_4_code [(44, [0x2a]), (45, [0xb4, 0x00, 0x2a]), (48, [0x15, 0x04]), (50, [0x4f]), (51, [0x2a]), (52, [0x59]), (53, [0xb4, 0x00, 0x2a]), (56, [0x04]), (57, [0x60]), (58, [0xb5, 0x00, 0x2a]), (61, [0xb1])] := pf_ok prog_9_method_4_code _ 44 (by decide +kernel)
noncomputable def d_X7_write_44 := gq_0 db00b_78 eb_0
noncomputable def d_X7_write_45 := gq_1 db00b_78 eb_179
noncomputable def d_X7_write_48 := gq_2 db00b_78 eb_77
noncomputable def d_X7_write_50 := gq_3 db00b_78 eb_39
noncomputable def d_X7_write_51 := gq_4 db00b_78 eb_0
noncomputable def d_X7_write_52 := gq_5 db00b_78 eb_47
noncomputable def d_X7_write_53 := gq_6 db00b_78 eb_179
noncomputable def d_X7_write_56 := gq_7 db00b_78 eb_20
noncomputable def d_X7_write_57 := gq_8 db00b_78 eb_36
noncomputable def d_X7_write_58 := gq_9 db00b_78 eb_105
noncomputable def d_X7_write_61 := gq_10 db00b_78 eb_8
theorem db00b_79 : Pf_ prog_9_method_5_code [(0, [0x1b]), (1, [0x9b, 0x00, 0x21]), (4, [0x1b]), (5, [0x2a]), (6, [0xb4, 0x00, 0x2a]), (9, [0xa2, 0x00, 0x19]), (12, [0x2a]), (13, [0xb4, 0x00, 0x18]), (16, [0x1b]), (17, [0x1c]), (18, [0x4f]), (19, [0x2a]), (20, [0xb4, 0x00, 0x1e]), (23, [0x1b]), (24, [0x1d]), (25, [0x4f]), (26, [0x2a]), (27, [0xb4, 0x00, 0x1b]), (30, [0x1b]), (31, [0x15, 0x04]), (33, [0x4f]), (34, [0xb1])] := pf_ok prog_9_method_5_code _ 0 (by decide +kernel)
noncomputable def d_X7_settle_0 := gq_0 db00b_79 eb_10
noncomputable def d_X7_settle_1 := gq_1 db00b_79 eb_431
noncomputable def d_X7_settle_4 := gq_2 db00b_79 eb_10
noncomputable def d_X7_settle_5 := gq_3 db00b_79 eb_0
noncomputable def d_X7_settle_6 := gq_4 db00b_79 eb_179
noncomputable def d_X7_settle_9 := gq_5 db00b_79 eb_432
noncomputable def d_X7_settle_12 := gq_6 db00b_79 eb_0
noncomputable def d_X7_settle_13 := gq_7 db00b_79 eb_109
noncomputable def d_X7_settle_16 := gq_8 db00b_79 eb_10
noncomputable def d_X7_settle_17 := gq_9 db00b_79 eb_14
noncomputable def d_X7_settle_18 := gq_10 db00b_79 eb_39
noncomputable def d_X7_settle_19 := gq_11 db00b_79 eb_0
noncomputable def d_X7_settle_20 := gq_12 db00b_79 eb_125
noncomputable def d_X7_settle_23 := gq_13 db00b_79 eb_10
noncomputable def d_X7_settle_24 := gq_14 db00b_79 eb_30
noncomputable def d_X7_settle_25 := gq_15 db00b_79 eb_39
noncomputable def d_X7_settle_26 := gq_16 db00b_79 eb_0
noncomputable def d_X7_settle_27 := gq_17 db00b_79 eb_122
noncomputable def d_X7_settle_30 := gq_18 db00b_79 eb_10
noncomputable def d_X7_settle_31 := gq_19 db00b_79 eb_77
noncomputable def d_X7_settle_33 := gq_20 db00b_79 eb_39
noncomputable def d_X7_settle_34 := gq_21 db00b_79 eb_8
theorem db00b_80 : Pf_ prog_9_method_6_code [(0, [0x2a]), (1, [0xb4, 0x00, 0x18]), (4, [0x1b]), (5, [0x2e]), (6, [0x99, 0x00, 0x16]), (9, [0x2a]), (10, [0xb4, 0x00, 0x1b]), (13, [0x1b]), (14, [0x2e]), (15, [0x1c]), (16, [0xa3, 0x00, 0x0c]), (19, [0x2a]), (20, [0xb4, 0x00, 0x18]), (23, [0x1b]), (24, [0x2e]), (25, [0xa7, 0x00, 0x04]), (28, [0x03]), (29, [0xac])] := pf_ok prog_9_method_6_code _ 0 (by decide +kernel)
noncomputable def d_X7_outcomeAt_0 := gq_0 db00b_80 eb_0
noncomputable def d_X7_outcomeAt_1 := gq_1 db00b_80 eb_109
noncomputable def d_X7_outcomeAt_4 := gq_2 db00b_80 eb_10
noncomputable def d_X7_outcomeAt_5 := gq_3 db00b_80 eb_38
noncomputable def d_X7_outcomeAt_6 := gq_4 db00b_80 eb_433
noncomputable def d_X7_outcomeAt_9 := gq_5 db00b_80 eb_0
noncomputable def d_X7_outcomeAt_10 := gq_6 db00b_80 eb_122
noncomputable def d_X7_outcomeAt_13 := gq_7 db00b_80 eb_10
noncomputable def d_X7_outcomeAt_14 := gq_8 db00b_80 eb_38
noncomputable def d_X7_outcomeAt_15 := gq_9 db00b_80 eb_14
noncomputable def d_X7_outcomeAt_16 := gq_10 db00b_80 eb_434
noncomputable def d_X7_outcomeAt_19 := gq_11 db00b_80 eb_0
noncomputable def d_X7_outcomeAt_20 := gq_12 db00b_80 eb_109
noncomputable def d_X7_outcomeAt_23 := gq_13 db00b_80 eb_10
noncomputable def d_X7_outcomeAt_24 := gq_14 db00b_80 eb_38
noncomputable def d_X7_outcomeAt_25 := gq_15 db00b_80 eb_21
noncomputable def d_X7_outcomeAt_28 := gq_16 db00b_80 eb_22
noncomputable def d_X7_outcomeAt_29 := gq_17 db00b_80 eb_16
theorem db00b_81 : Pf_ prog_9_method_7_code [(0, [0x2a]), (1, [0x1b]), (2, [0x1c]), (3, [0xb6, 0x00, 0x2e]), (6, [0x05]), (7, [0x9f, 0x00, 0x05]), (10, [0x02]), (11, [0xac]), (12, [0x2a]), (13, [0xb4, 0x00, 0x1e]), (16, [0x1b]), (17, [0x2e]), (18, [0x3e]), (19, [0x03]), (20, [0x36, 0x04]), (22, [0x15, 0x04]), (24, [0x2a]), (25, [0xb4, 0x00, 0x32]), (28, [0xa2, 0x00, 0x27]), (31, [0x2a]), (32, [0xb4, 0x00, 0x21]), (35, [0x15, 0x04]), (37, [0x2e]), (38, [0x1b])] := pf_ok prog_9_method_7_code _ 0 (by decide +kernel)
noncomputable def d_X7_causeAt_0 := gq_0 db00b_81 eb_0
noncomputable def d_X7_causeAt_1 := gq_1 db00b_81 eb_10
noncomputable def d_X7_causeAt_2 := gq_2 db00b_81 eb_14
noncomputable def d_X7_causeAt_3 := gq_3 db00b_81 eb_67
noncomputable def d_X7_causeAt_6 := gq_4 db00b_81 eb_11
noncomputable def d_X7_causeAt_7 := gq_5 db00b_81 eb_121
noncomputable def d_X7_causeAt_10 := gq_6 db00b_81 eb_27
noncomputable def d_X7_causeAt_11 := gq_7 db00b_81 eb_16
noncomputable def d_X7_causeAt_12 := gq_8 db00b_81 eb_0
noncomputable def d_X7_causeAt_13 := gq_9 db00b_81 eb_125
noncomputable def d_X7_causeAt_16 := gq_10 db00b_81 eb_10
noncomputable def d_X7_causeAt_17 := gq_11 db00b_81 eb_38
noncomputable def d_X7_causeAt_18 := gq_12 db00b_81 eb_29
noncomputable def d_X7_causeAt_19 := gq_13 db00b_81 eb_22
noncomputable def d_X7_causeAt_20 := gq_14 db00b_81 eb_134
noncomputable def d_X7_causeAt_22 := gq_15 db00b_81 eb_77
noncomputable def d_X7_causeAt_24 := gq_16 db00b_81 eb_0
noncomputable def d_X7_causeAt_25 := gq_17 db00b_81 eb_435
noncomputable def d_X7_causeAt_28 := gq_18 db00b_81 eb_436
noncomputable def d_X7_causeAt_31 := gq_19 db00b_81 eb_0
noncomputable def d_X7_causeAt_32 := gq_20 db00b_81 eb_110
noncomputable def d_X7_causeAt_35 := gq_21 db00b_81 eb_77
noncomputable def d_X7_causeAt_37 := gq_22 db00b_81 eb_38
noncomputable def d_X7_causeAt_38 := gq_23 db00b_81 eb_10
theorem db00b_82 : Pf_ prog_9_method_7_code [(39, [0xa0, 0x00, 0x16]), (42, [0x2a]), (43, [0xb4, 0x00, 0x27]), (46, [0x15, 0x04]), (48, [0x2e]), (49, [0x1c]), (50, [0xa3, 0x00, 0x0b]), (53, [0x2a]), (54, [0xb4, 0x00, 0x24]), (57, [0x15, 0x04]), (59, [0x2e]), (60, [0x3e]), (61, [0x84, 0x04, 0x01]), (64, [0xa7, 0xff, 0xd6]), (67, [0x1d]), (68, [0xac])] := pf_ok prog_9_method_7_code _ 39 (by decide +kernel)
noncomputable def d_X7_causeAt_39 := gq_0 db00b_82 eb_437
noncomputable def d_X7_causeAt_42 := gq_1 db00b_82 eb_0
noncomputable def d_X7_causeAt_43 := gq_2 db00b_82 eb_178
noncomputable def d_X7_causeAt_46 := gq_3 db00b_82 eb_77
noncomputable def d_X7_causeAt_48 := gq_4 db00b_82 eb_38
noncomputable def d_X7_causeAt_49 := gq_5 db00b_82 eb_14
noncomputable def d_X7_causeAt_50 := gq_6 db00b_82 eb_438
noncomputable def d_X7_causeAt_53 := gq_7 db00b_82 eb_0
noncomputable def d_X7_causeAt_54 := gq_8 db00b_82 eb_177
noncomputable def d_X7_causeAt_57 := gq_9 db00b_82 eb_77
noncomputable def d_X7_causeAt_59 := gq_10 db00b_82 eb_38
noncomputable def d_X7_causeAt_60 := gq_11 db00b_82 eb_29
noncomputable def d_X7_causeAt_61 := gq_12 db00b_82 eb_146
noncomputable def d_X7_causeAt_64 := gq_13 db00b_82 eb_439
noncomputable def d_X7_causeAt_67 := gq_14 db00b_82 eb_30
noncomputable def d_X7_causeAt_68 := gq_15 db00b_82 eb_16
theorem d_X7_tell_21 : decode prog_9_method_8_code 21 = .ok (.tableswitch 70 0 4 #[35, 42, 49, 56, 63], 35) := by decide +kernel
theorem db00b_83 : Pf_ prog_9_method_8_code [(0, [0x2a]), (1, [0x1b]), (2, [0xb6, 0x00, 0x35]), (5, [0x99, 0x00, 0x0d]), (8, [0x2a]), (9, [0xb4, 0x00, 0x15]), (12, [0x1b]), (13, [0x2e]), (14, [0x1c]), (15, [0xa4, 0x00, 0x05]), (18, [0x02]), (19, [0xac]), (20, [0x1d]), (56, [0x2a]), (57, [0xb4, 0x00, 0x0b]), (60, [0x1b]), (61, [0x2e]), (62, [0xac]), (63, [0x2a]), (64, [0xb4, 0x00, 0x0f]), (67, [0x1b]), (68, [0x2e]), (69, [0xac]), (70, [0x2a])] := pf_ok prog_9_method_8_code _ 0 (by decide +kernel)
noncomputable def d_X7_tell_0 := gq_0 db00b_83 eb_0
noncomputable def d_X7_tell_1 := gq_1 db00b_83 eb_10
noncomputable def d_X7_tell_2 := gq_2 db00b_83 eb_357
noncomputable def d_X7_tell_5 := gq_3 db00b_83 eb_120
noncomputable def d_X7_tell_8 := gq_4 db00b_83 eb_0
noncomputable def d_X7_tell_9 := gq_5 db00b_83 eb_18
noncomputable def d_X7_tell_12 := gq_6 db00b_83 eb_10
noncomputable def d_X7_tell_13 := gq_7 db00b_83 eb_38
noncomputable def d_X7_tell_14 := gq_8 db00b_83 eb_14
noncomputable def d_X7_tell_15 := gq_9 db00b_83 eb_337
noncomputable def d_X7_tell_18 := gq_10 db00b_83 eb_27
noncomputable def d_X7_tell_19 := gq_11 db00b_83 eb_16
noncomputable def d_X7_tell_20 := gq_12 db00b_83 eb_30
noncomputable def d_X7_tell_56 := gq_13 db00b_83 eb_0
noncomputable def d_X7_tell_57 := gq_14 db00b_83 eb_33
noncomputable def d_X7_tell_60 := gq_15 db00b_83 eb_10
noncomputable def d_X7_tell_61 := gq_16 db00b_83 eb_38
noncomputable def d_X7_tell_62 := gq_17 db00b_83 eb_16
noncomputable def d_X7_tell_63 := gq_18 db00b_83 eb_0
noncomputable def d_X7_tell_64 := gq_19 db00b_83 eb_45
noncomputable def d_X7_tell_67 := gq_20 db00b_83 eb_10
noncomputable def d_X7_tell_68 := gq_21 db00b_83 eb_38
noncomputable def d_X7_tell_69 := gq_22 db00b_83 eb_16
noncomputable def d_X7_tell_70 := gq_23 db00b_83 eb_0
theorem db00b_84 : Pf_ prog_9_method_8_code [(71, [0xb4, 0x00, 0x12]), (74, [0x1b]), (75, [0x2e]), (76, [0xac]), (77, [0x2a]), (78, [0x1b]), (79, [0x1c]), (80, [0xb6, 0x00, 0x2e]), (83, [0xac]), (84, [0x2a]), (85, [0x1b]), (86, [0x1c]), (87, [0xb6, 0x00, 0x39]), (90, [0xac]), (91, [0x02]), (92, [0xac])] := pf_ok prog_9_method_8_code _ 71 (by decide +kernel)
noncomputable def d_X7_tell_71 := gq_0 db00b_84 eb_46
noncomputable def d_X7_tell_74 := gq_1 db00b_84 eb_10
noncomputable def d_X7_tell_75 := gq_2 db00b_84 eb_38
noncomputable def d_X7_tell_76 := gq_3 db00b_84 eb_16
noncomputable def d_X7_tell_77 := gq_4 db00b_84 eb_0
noncomputable def d_X7_tell_78 := gq_5 db00b_84 eb_10
noncomputable def d_X7_tell_79 := gq_6 db00b_84 eb_14
noncomputable def d_X7_tell_80 := gq_7 db00b_84 eb_67
noncomputable def d_X7_tell_83 := gq_8 db00b_84 eb_16
noncomputable def d_X7_tell_84 := gq_9 db00b_84 eb_0
noncomputable def d_X7_tell_85 := gq_10 db00b_84 eb_10
noncomputable def d_X7_tell_86 := gq_11 db00b_84 eb_14
noncomputable def d_X7_tell_87 := gq_12 db00b_84 eb_360
noncomputable def d_X7_tell_90 := gq_13 db00b_84 eb_16
noncomputable def d_X7_tell_91 := gq_14 db00b_84 eb_27
noncomputable def d_X7_tell_92 := gq_15 db00b_84 eb_16
theorem db00b_85 : Pf_ prog_9_method_9_code [(0, [0x2a]), (1, [0x1b]), (2, [0xb6, 0x00, 0x35]), (5, [0x99, 0x00, 0x17]), (8, [0x2a]), (9, [0xb4, 0x00, 0x18]), (12, [0x1b]), (13, [0x2e]), (14, [0x05]), (15, [0xa0, 0x00, 0x0d]), (18, [0x2a]), (19, [0xb4, 0x00, 0x32]), (22, [0x11, 0x00, 0xc8]), (25, [0xa1, 0x00, 0x05]), (28, [0x03]), (29, [0xac]), (30, [0x2a]), (31, [0xb4, 0x00, 0x21]), (34, [0x2a]), (35, [0xb4, 0x00, 0x32]), (38, [0x1b]), (39, [0x4f]), (40, [0x2a]), (41, [0xb4, 0x00, 0x24])] := pf_ok prog_9_method_9_code _ 0 (by decide +kernel)
noncomputable def d_X7_tellAnew_0 := gq_0 db00b_85 eb_0
noncomputable def d_X7_tellAnew_1 := gq_1 db00b_85 eb_10
noncomputable def d_X7_tellAnew_2 := gq_2 db00b_85 eb_357
noncomputable def d_X7_tellAnew_5 := gq_3 db00b_85 eb_207
noncomputable def d_X7_tellAnew_8 := gq_4 db00b_85 eb_0
noncomputable def d_X7_tellAnew_9 := gq_5 db00b_85 eb_109
noncomputable def d_X7_tellAnew_12 := gq_6 db00b_85 eb_10
noncomputable def d_X7_tellAnew_13 := gq_7 db00b_85 eb_38
noncomputable def d_X7_tellAnew_14 := gq_8 db00b_85 eb_11
noncomputable def d_X7_tellAnew_15 := gq_9 db00b_85 eb_440
noncomputable def d_X7_tellAnew_18 := gq_10 db00b_85 eb_0
noncomputable def d_X7_tellAnew_19 := gq_11 db00b_85 eb_435
noncomputable def d_X7_tellAnew_22 := gq_12 db00b_85 eb_97
noncomputable def d_X7_tellAnew_25 := gq_13 db00b_85 eb_115
noncomputable def d_X7_tellAnew_28 := gq_14 db00b_85 eb_22
noncomputable def d_X7_tellAnew_29 := gq_15 db00b_85 eb_16
noncomputable def d_X7_tellAnew_30 := gq_16 db00b_85 eb_0
noncomputable def d_X7_tellAnew_31 := gq_17 db00b_85 eb_110
noncomputable def d_X7_tellAnew_34 := gq_18 db00b_85 eb_0
noncomputable def d_X7_tellAnew_35 := gq_19 db00b_85 eb_435
noncomputable def d_X7_tellAnew_38 := gq_20 db00b_85 eb_10
noncomputable def d_X7_tellAnew_39 := gq_21 db00b_85 eb_39
noncomputable def d_X7_tellAnew_40 := gq_22 db00b_85 eb_0
noncomputable def d_X7_tellAnew_41 := gq_23 db00b_85 eb_177
theorem db00b_86 : Pf_ prog_9_method_9_code [(44, [0x2a]), (45, [0xb4, 0x00, 0x32]), (48, [0x1c]), (49, [0x4f]), (50, [0x2a]), (51, [0xb4, 0x00, 0x27]), (54, [0x2a]), (55, [0xb4, 0x00, 0x32]), (58, [0x1d]), (59, [0x4f]), (60, [0x2a]), (61, [0x59]), (62, [0xb4, 0x00, 0x32]), (65, [0x04]), (66, [0x60]), (67, [0xb5, 0x00, 0x32]), (70, [0x04]), (71, [0xac])] := pf_ok prog_9_method_9_code _ 44 (by decide +kernel)
noncomputable def d_X7_tellAnew_44 := gq_0 db00b_86 eb_0
noncomputable def d_X7_tellAnew_45 := gq_1 db00b_86 eb_435
noncomputable def d_X7_tellAnew_48 := gq_2 db00b_86 eb_14
noncomputable def d_X7_tellAnew_49 := gq_3 db00b_86 eb_39
noncomputable def d_X7_tellAnew_50 := gq_4 db00b_86 eb_0
noncomputable def d_X7_tellAnew_51 := gq_5 db00b_86 eb_178
noncomputable def d_X7_tellAnew_54 := gq_6 db00b_86 eb_0
noncomputable def d_X7_tellAnew_55 := gq_7 db00b_86 eb_435
noncomputable def d_X7_tellAnew_58 := gq_8 db00b_86 eb_30
noncomputable def d_X7_tellAnew_59 := gq_9 db00b_86 eb_39
noncomputable def d_X7_tellAnew_60 := gq_10 db00b_86 eb_0
noncomputable def d_X7_tellAnew_61 := gq_11 db00b_86 eb_47
noncomputable def d_X7_tellAnew_62 := gq_12 db00b_86 eb_435
noncomputable def d_X7_tellAnew_65 := gq_13 db00b_86 eb_20
noncomputable def d_X7_tellAnew_66 := gq_14 db00b_86 eb_36
noncomputable def d_X7_tellAnew_67 := gq_15 db00b_86 eb_441
noncomputable def d_X7_tellAnew_70 := gq_16 db00b_86 eb_20
noncomputable def d_X7_tellAnew_71 := gq_17 db00b_86 eb_16
theorem db00b_87 : Pf_ prog_9_method_10_code [(0, [0x03]), (1, [0x3e]), (2, [0x03]), (3, [0x36, 0x04]), (5, [0x15, 0x04]), (7, [0x2a]), (8, [0xb4, 0x00, 0x2a]), (11, [0xa2, 0x00, 0x17]), (14, [0x2a]), (15, [0x15, 0x04]), (17, [0x1c]), (18, [0xb6, 0x00, 0x39]), (21, [0x1b]), (22, [0xa0, 0x00, 0x06]), (25, [0x84, 0x03, 0x01]), (28, [0x84, 0x04, 0x01]), (31, [0xa7, 0xff, 0xe6]), (34, [0x1d]), (35, [0xac])] := pf_ok prog_9_method_10_code _ 0 (by decide +kernel)
noncomputable def d_X7_countCause_0 := gq_0 db00b_87 eb_22
noncomputable def d_X7_countCause_1 := gq_1 db00b_87 eb_29
noncomputable def d_X7_countCause_2 := gq_2 db00b_87 eb_22
noncomputable def d_X7_countCause_3 := gq_3 db00b_87 eb_134
noncomputable def d_X7_countCause_5 := gq_4 db00b_87 eb_77
noncomputable def d_X7_countCause_7 := gq_5 db00b_87 eb_0
noncomputable def d_X7_countCause_8 := gq_6 db00b_87 eb_179
noncomputable def d_X7_countCause_11 := gq_7 db00b_87 eb_118
noncomputable def d_X7_countCause_14 := gq_8 db00b_87 eb_0
noncomputable def d_X7_countCause_15 := gq_9 db00b_87 eb_77
noncomputable def d_X7_countCause_17 := gq_10 db00b_87 eb_14
noncomputable def d_X7_countCause_18 := gq_11 db00b_87 eb_360
noncomputable def d_X7_countCause_21 := gq_12 db00b_87 eb_10
noncomputable def d_X7_countCause_22 := gq_13 db00b_87 eb_41
noncomputable def d_X7_countCause_25 := gq_14 db00b_87 eb_43
noncomputable def d_X7_countCause_28 := gq_15 db00b_87 eb_146
noncomputable def d_X7_countCause_31 := gq_16 db00b_87 eb_442
noncomputable def d_X7_countCause_34 := gq_17 db00b_87 eb_30
noncomputable def d_X7_countCause_35 := gq_18 db00b_87 eb_16
theorem db00b_88 : Pf_ prog_9_method_11_code [(0, [0x2a]), (1, [0xb4, 0x00, 0x0b]), (4, [0x1b]), (5, [0x2e]), (6, [0x1c]), (7, [0xa0, 0x00, 0x15]), (10, [0x2a]), (11, [0xb4, 0x00, 0x12]), (14, [0x1b]), (15, [0x2e]), (16, [0x11, 0x05, 0xa0]), (19, [0x6c]), (20, [0x1d]), (21, [0xa0, 0x00, 0x07]), (24, [0x04]), (25, [0xa7, 0x00, 0x04]), (28, [0x03]), (29, [0xac])] := pf_ok prog_9_method_11_code _ 0 (by decide +kernel)
noncomputable def d_X7_wasDue_0 := gq_0 db00b_88 eb_0
noncomputable def d_X7_wasDue_1 := gq_1 db00b_88 eb_33
noncomputable def d_X7_wasDue_4 := gq_2 db00b_88 eb_10
noncomputable def d_X7_wasDue_5 := gq_3 db00b_88 eb_38
noncomputable def d_X7_wasDue_6 := gq_4 db00b_88 eb_14
noncomputable def d_X7_wasDue_7 := gq_5 db00b_88 eb_443
noncomputable def d_X7_wasDue_10 := gq_6 db00b_88 eb_0
noncomputable def d_X7_wasDue_11 := gq_7 db00b_88 eb_46
noncomputable def d_X7_wasDue_14 := gq_8 db00b_88 eb_10
noncomputable def d_X7_wasDue_15 := gq_9 db00b_88 eb_38
noncomputable def d_X7_wasDue_16 := gq_10 db00b_88 eb_292
noncomputable def d_X7_wasDue_19 := gq_11 db00b_88 eb_222
noncomputable def d_X7_wasDue_20 := gq_12 db00b_88 eb_30
noncomputable def d_X7_wasDue_21 := gq_13 db00b_88 eb_136
noncomputable def d_X7_wasDue_24 := gq_14 db00b_88 eb_20
noncomputable def d_X7_wasDue_25 := gq_15 db00b_88 eb_21
noncomputable def d_X7_wasDue_28 := gq_16 db00b_88 eb_22
noncomputable def d_X7_wasDue_29 := gq_17 db00b_88 eb_16
theorem db00b_89 : Pf_ prog_9_method_12_code [(0, [0x03]), (1, [0x36, 0x04]), (3, [0x03]), (4, [0x36, 0x05]), (6, [0x15, 0x05]), (8, [0x2a]), (9, [0xb4, 0x00, 0x2a]), (12, [0xa2, 0x00, 0x22]), (15, [0x2a]), (16, [0x15, 0x05]), (18, [0x1b]), (19, [0x1c]), (20, [0xb6, 0x00, 0x3c]), (23, [0x99, 0x00, 0x11]), (26, [0x2a]), (27, [0x15, 0x05]), (29, [0x1d]), (30, [0xb6, 0x00, 0x2e]), (33, [0x04]), (34, [0xa0, 0x00, 0x06]), (37, [0x84, 0x04, 0x01]), (40, [0x84, 0x05, 0x01]), (43, [0xa7, 0xff, 0xdb]), (46, [0x15, 0x04])] := pf_ok prog_9_method_12_code _ 0 (by decide +kernel)
noncomputable def d_X7_countMet_0 := gq_0 db00b_89 eb_22
noncomputable def d_X7_countMet_1 := gq_1 db00b_89 eb_134
noncomputable def d_X7_countMet_3 := gq_2 db00b_89 eb_22
noncomputable def d_X7_countMet_4 := gq_3 db00b_89 eb_135
noncomputable def d_X7_countMet_6 := gq_4 db00b_89 eb_126
noncomputable def d_X7_countMet_8 := gq_5 db00b_89 eb_0
noncomputable def d_X7_countMet_9 := gq_6 db00b_89 eb_179
noncomputable def d_X7_countMet_12 := gq_7 db00b_89 eb_444
noncomputable def d_X7_countMet_15 := gq_8 db00b_89 eb_0
noncomputable def d_X7_countMet_16 := gq_9 db00b_89 eb_126
noncomputable def d_X7_countMet_18 := gq_10 db00b_89 eb_10
noncomputable def d_X7_countMet_19 := gq_11 db00b_89 eb_14
noncomputable def d_X7_countMet_20 := gq_12 db00b_89 eb_85
noncomputable def d_X7_countMet_23 := gq_13 db00b_89 eb_113
noncomputable def d_X7_countMet_26 := gq_14 db00b_89 eb_0
noncomputable def d_X7_countMet_27 := gq_15 db00b_89 eb_126
noncomputable def d_X7_countMet_29 := gq_16 db00b_89 eb_30
noncomputable def d_X7_countMet_30 := gq_17 db00b_89 eb_67
noncomputable def d_X7_countMet_33 := gq_18 db00b_89 eb_20
noncomputable def d_X7_countMet_34 := gq_19 db00b_89 eb_41
noncomputable def d_X7_countMet_37 := gq_20 db00b_89 eb_146
noncomputable def d_X7_countMet_40 := gq_21 db00b_89 eb_223
noncomputable def d_X7_countMet_43 := gq_22 db00b_89 eb_445
noncomputable def d_X7_countMet_46 := gq_23 db00b_89 eb_77
theorem db00b_90 : Pf_ prog_9_method_12_code [(48, [0xac])] := pf_ok prog_9_method_12_code _ 48 (by decide +kernel)
noncomputable def d_X7_countMet_48 := gq_0 db00b_90 eb_16
theorem db00b_91 : Pf_ prog_9_method_13_code [(0, [0x03]), (1, [0x36, 0x04]), (3, [0x03]), (4, [0x36, 0x05]), (6, [0x15, 0x05]), (8, [0x2a]), (9, [0xb4, 0x00, 0x2a]), (12, [0xa2, 0x00, 0x2c]), (15, [0x2a]), (16, [0x15, 0x05]), (18, [0x1b]), (19, [0x1c]), (20, [0xb6, 0x00, 0x3c]), (23, [0x99, 0x00, 0x1b]), (26, [0x2a]), (27, [0x15, 0x05]), (29, [0x1d]), (30, [0xb6, 0x00, 0x39]), (33, [0x36, 0x06]), (35, [0x15, 0x06]), (37, [0x04]), (38, [0x9f, 0x00, 0x09]), (41, [0x15, 0x06]), (43, [0x08])] := pf_ok prog_9_method_13_code _ 0 (by decide +kernel)
noncomputable def d_X7_countBlamed_0 := gq_0 db00b_91 eb_22
noncomputable def d_X7_countBlamed_1 := gq_1 db00b_91 eb_134
noncomputable def d_X7_countBlamed_3 := gq_2 db00b_91 eb_22
noncomputable def d_X7_countBlamed_4 := gq_3 db00b_91 eb_135
noncomputable def d_X7_countBlamed_6 := gq_4 db00b_91 eb_126
noncomputable def d_X7_countBlamed_8 := gq_5 db00b_91 eb_0
noncomputable def d_X7_countBlamed_9 := gq_6 db00b_91 eb_179
noncomputable def d_X7_countBlamed_12 := gq_7 db00b_91 eb_446
noncomputable def d_X7_countBlamed_15 := gq_8 db00b_91 eb_0
noncomputable def d_X7_countBlamed_16 := gq_9 db00b_91 eb_126
noncomputable def d_X7_countBlamed_18 := gq_10 db00b_91 eb_10
noncomputable def d_X7_countBlamed_19 := gq_11 db00b_91 eb_14
noncomputable def d_X7_countBlamed_20 := gq_12 db00b_91 eb_85
noncomputable def d_X7_countBlamed_23 := gq_13 db00b_91 eb_447
noncomputable def d_X7_countBlamed_26 := gq_14 db00b_91 eb_0
noncomputable def d_X7_countBlamed_27 := gq_15 db00b_91 eb_126
noncomputable def d_X7_countBlamed_29 := gq_16 db00b_91 eb_30
noncomputable def d_X7_countBlamed_30 := gq_17 db00b_91 eb_360
noncomputable def d_X7_countBlamed_33 := gq_18 db00b_91 eb_59
noncomputable def d_X7_countBlamed_35 := gq_19 db00b_91 eb_76
noncomputable def d_X7_countBlamed_37 := gq_20 db00b_91 eb_20
noncomputable def d_X7_countBlamed_38 := gq_21 db00b_91 eb_448
noncomputable def d_X7_countBlamed_41 := gq_22 db00b_91 eb_76
noncomputable def d_X7_countBlamed_43 := gq_23 db00b_91 eb_123
theorem db00b_92 : Pf_ prog_9_method_13_code [(44, [0xa1, 0x00, 0x06]), (47, [0x84, 0x04, 0x01]), (50, [0x84, 0x05, 0x01]), (53, [0xa7, 0xff, 0xd1]), (56, [0x15, 0x04]), (58, [0xac])] := pf_ok prog_9_method_13_code _ 44 (by decide +kernel)
noncomputable def d_X7_countBlamed_44 := gq_0 db00b_92 eb_449
noncomputable def d_X7_countBlamed_47 := gq_1 db00b_92 eb_146
noncomputable def d_X7_countBlamed_50 := gq_2 db00b_92 eb_223
noncomputable def d_X7_countBlamed_53 := gq_3 db00b_92 eb_450
noncomputable def d_X7_countBlamed_56 := gq_4 db00b_92 eb_77
noncomputable def d_X7_countBlamed_58 := gq_5 db00b_92 eb_16
theorem db00b_93 : Pf_ prog_10_method_1_code [(0, [0x2a]), (1, [0xb7, 0x00, 0x03]), (4, [0x2a]), (5, [0x11, 0x00, 0xa0]), (8, [0xbc, 0x0a]), (10, [0xb5, 0x00, 0x0b]), (13, [0x2a]), (14, [0x12, 0x0f]), (16, [0xb5, 0x00, 0x11]), (19, [0x2a]), (20, [0x11, 0x00, 0x96]), (23, [0xbc, 0x0a]), (25, [0xb5, 0x00, 0x17]), (28, [0x2a]), (29, [0x11, 0x00, 0xa4]), (32, [0xbc, 0x0a]), (34, [0xb5, 0x00, 0x1c]), (37, [0xb1])] := pf_ok prog_10_method_1_code _ 0 (by decide +kernel)
noncomputable def d_X8_init_0 := gq_0 db00b_93 eb_0
noncomputable def d_X8_init_1 := gq_1 db00b_93 eb_1
noncomputable def d_X8_init_4 := gq_2 db00b_93 eb_0
noncomputable def d_X8_init_5 := gq_3 db00b_93 eb_451
noncomputable def d_X8_init_8 := gq_4 db00b_93 eb_3
noncomputable def d_X8_init_10 := gq_5 db00b_93 eb_4
noncomputable def d_X8_init_13 := gq_6 db00b_93 eb_0
noncomputable def d_X8_init_14 := gq_7 db00b_93 eb_452
noncomputable def d_X8_init_16 := gq_8 db00b_93 eb_453
noncomputable def d_X8_init_19 := gq_9 db00b_93 eb_0
noncomputable def d_X8_init_20 := gq_10 db00b_93 eb_34
noncomputable def d_X8_init_23 := gq_11 db00b_93 eb_3
noncomputable def d_X8_init_25 := gq_12 db00b_93 eb_454
noncomputable def d_X8_init_28 := gq_13 db00b_93 eb_0
noncomputable def d_X8_init_29 := gq_14 db00b_93 eb_455
noncomputable def d_X8_init_32 := gq_15 db00b_93 eb_3
noncomputable def d_X8_init_34 := gq_16 db00b_93 eb_354
noncomputable def d_X8_init_37 := gq_17 db00b_93 eb_8
theorem db00b_94 : Pf_ prog_10_method_2_code [(0, [0x1b]), (1, [0xb8, 0x00, 0x1f]), (4, [0x1c]), (5, [0xb8, 0x00, 0x1f]), (8, [0x60]), (9, [0x1d]), (10, [0xb8, 0x00, 0x1f]), (13, [0x60]), (14, [0x15, 0x04]), (16, [0xb8, 0x00, 0x1f]), (19, [0x60]), (20, [0x15, 0x05]), (22, [0xb8, 0x00, 0x1f]), (25, [0x60]), (26, [0x36, 0x06]), (28, [0x2a]), (29, [0xb4, 0x00, 0x23]), (32, [0x15, 0x06]), (34, [0x60]), (35, [0x11, 0x00, 0xa0]), (38, [0xa4, 0x00, 0x05]), (41, [0x02]), (42, [0xac]), (43, [0x2a])] := pf_ok prog_10_method_2_code _ 0 (by decide +kernel)
noncomputable def d_X8_takeIn_0 := gq_0 db00b_94 eb_10
noncomputable def d_X8_takeIn_1 := gq_1 db00b_94 eb_456
noncomputable def d_X8_takeIn_4 := gq_2 db00b_94 eb_14
noncomputable def d_X8_takeIn_5 := gq_3 db00b_94 eb_456
noncomputable def d_X8_takeIn_8 := gq_4 db00b_94 eb_36
noncomputable def d_X8_takeIn_9 := gq_5 db00b_94 eb_30
noncomputable def d_X8_takeIn_10 := gq_6 db00b_94 eb_456
noncomputable def d_X8_takeIn_13 := gq_7 db00b_94 eb_36
noncomputable def d_X8_takeIn_14 := gq_8 db00b_94 eb_77
noncomputable def d_X8_takeIn_16 := gq_9 db00b_94 eb_456
noncomputable def d_X8_takeIn_19 := gq_10 db00b_94 eb_36
noncomputable def d_X8_takeIn_20 := gq_11 db00b_94 eb_126
noncomputable def d_X8_takeIn_22 := gq_12 db00b_94 eb_456
noncomputable def d_X8_takeIn_25 := gq_13 db00b_94 eb_36
noncomputable def d_X8_takeIn_26 := gq_14 db00b_94 eb_59
noncomputable def d_X8_takeIn_28 := gq_15 db00b_94 eb_0
noncomputable def d_X8_takeIn_29 := gq_16 db00b_94 eb_457
noncomputable def d_X8_takeIn_32 := gq_17 db00b_94 eb_76
noncomputable def d_X8_takeIn_34 := gq_18 db00b_94 eb_36
noncomputable def d_X8_takeIn_35 := gq_19 db00b_94 eb_451
noncomputable def d_X8_takeIn_38 := gq_20 db00b_94 eb_337
noncomputable def d_X8_takeIn_41 := gq_21 db00b_94 eb_27
noncomputable def d_X8_takeIn_42 := gq_22 db00b_94 eb_16
noncomputable def d_X8_takeIn_43 := gq_23 db00b_94 eb_0
theorem db00b_95 : Pf_ prog_10_method_2_code [(44, [0x1b]), (45, [0xb6, 0x00, 0x27]), (48, [0x2a]), (49, [0x1c]), (50, [0xb6, 0x00, 0x27]), (53, [0x2a]), (54, [0x1d]), (55, [0xb6, 0x00, 0x27]), (58, [0x2a]), (59, [0x15, 0x04]), (61, [0xb6, 0x00, 0x27]), (64, [0x2a]), (65, [0x15, 0x05]), (67, [0xb6, 0x00, 0x27]), (70, [0x2a]), (71, [0xb4, 0x00, 0x23]), (74, [0xac])] := pf_ok prog_10_method_2_code _ 44 (by decide +kernel)
noncomputable def d_X8_takeIn_44 := gq_0 db00b_95 eb_10
noncomputable def d_X8_takeIn_45 := gq_1 db00b_95 eb_50
noncomputable def d_X8_takeIn_48 := gq_2 db00b_95 eb_0
noncomputable def d_X8_takeIn_49 := gq_3 db00b_95 eb_14
noncomputable def d_X8_takeIn_50 := gq_4 db00b_95 eb_50
noncomputable def d_X8_takeIn_53 := gq_5 db00b_95 eb_0
noncomputable def d_X8_takeIn_54 := gq_6 db00b_95 eb_30
noncomputable def d_X8_takeIn_55 := gq_7 db00b_95 eb_50
noncomputable def d_X8_takeIn_58 := gq_8 db00b_95 eb_0
noncomputable def d_X8_takeIn_59 := gq_9 db00b_95 eb_77
noncomputable def d_X8_takeIn_61 := gq_10 db00b_95 eb_50
noncomputable def d_X8_takeIn_64 := gq_11 db00b_95 eb_0
noncomputable def d_X8_takeIn_65 := gq_12 db00b_95 eb_126
noncomputable def d_X8_takeIn_67 := gq_13 db00b_95 eb_50
noncomputable def d_X8_takeIn_70 := gq_14 db00b_95 eb_0
noncomputable def d_X8_takeIn_71 := gq_15 db00b_95 eb_457
noncomputable def d_X8_takeIn_74 := gq_16 db00b_95 eb_16
theorem db00b_96 : Pf_ prog_10_method_3_code [(0, [0x03]), (1, [0x3c]), (2, [0x10, 0x18]), (4, [0x3d]), (5, [0x1c]), (6, [0x9b, 0x00, 0x16]), (9, [0x1a]), (10, [0x1c]), (11, [0x7a]), (12, [0x11, 0x00, 0xff]), (15, [0x7e]), (16, [0x99, 0x00, 0x06]), (19, [0x84, 0x01, 0x01]), (22, [0x84, 0x02, 0xf8]), (25, [0xa7, 0xff, 0xec]), (28, [0x1b]), (29, [0xac])] := pf_ok prog_10_method_3_code _ 0 (by decide +kernel)
noncomputable def d_X8_signs_0 := gq_0 db00b_96 eb_22
noncomputable def d_X8_signs_1 := gq_1 db00b_96 eb_225
noncomputable def d_X8_signs_2 := gq_2 db00b_96 eb_458
noncomputable def d_X8_signs_4 := gq_3 db00b_96 eb_28
noncomputable def d_X8_signs_5 := gq_4 db00b_96 eb_14
noncomputable def d_X8_signs_6 := gq_5 db00b_96 eb_459
noncomputable def d_X8_signs_9 := gq_6 db00b_96 eb_9
noncomputable def d_X8_signs_10 := gq_7 db00b_96 eb_14
noncomputable def d_X8_signs_11 := gq_8 db00b_96 eb_57
noncomputable def d_X8_signs_12 := gq_9 db00b_96 eb_460
noncomputable def d_X8_signs_15 := gq_10 db00b_96 eb_56
noncomputable def d_X8_signs_16 := gq_11 db00b_96 eb_461
noncomputable def d_X8_signs_19 := gq_12 db00b_96 eb_231
noncomputable def d_X8_signs_22 := gq_13 db00b_96 eb_462
noncomputable def d_X8_signs_25 := gq_14 db00b_96 eb_463
noncomputable def d_X8_signs_28 := gq_15 db00b_96 eb_10
noncomputable def d_X8_signs_29 := gq_16 db00b_96 eb_16
theorem db00b_97 : Pf_ prog_10_method_4_code [(0, [0x10, 0x18]), (2, [0x3d]), (3, [0x1c]), (4, [0x9b, 0x00, 0x33]), (7, [0x1b]), (8, [0x1c]), (9, [0x7a]), (10, [0x11, 0x00, 0xff]), (13, [0x7e]), (14, [0x3e]), (15, [0x1d]), (16, [0x99, 0x00, 0x21]), (19, [0x2a]), (20, [0xb4, 0x00, 0x23]), (23, [0x11, 0x00, 0xa0]), (26, [0xa2, 0x00, 0x17]), (29, [0x2a]), (30, [0xb4, 0x00, 0x0b]), (33, [0x2a]), (34, [0xb4, 0x00, 0x23]), (37, [0x1d]), (38, [0x4f]), (39, [0x2a]), (40, [0x59])] := pf_ok prog_10_method_4_code _ 0 (by decide +kernel)
noncomputable def d_X8_append_0 := gq_0 db00b_97 eb_458
noncomputable def d_X8_append_2 := gq_1 db00b_97 eb_28
noncomputable def d_X8_append_3 := gq_2 db00b_97 eb_14
noncomputable def d_X8_append_4 := gq_3 db00b_97 eb_464
noncomputable def d_X8_append_7 := gq_4 db00b_97 eb_10
noncomputable def d_X8_append_8 := gq_5 db00b_97 eb_14
noncomputable def d_X8_append_9 := gq_6 db00b_97 eb_57
noncomputable def d_X8_append_10 := gq_7 db00b_97 eb_460
noncomputable def d_X8_append_13 := gq_8 db00b_97 eb_56
noncomputable def d_X8_append_14 := gq_9 db00b_97 eb_29
noncomputable def d_X8_append_15 := gq_10 db00b_97 eb_30
noncomputable def d_X8_append_16 := gq_11 db00b_97 eb_465
noncomputable def d_X8_append_19 := gq_12 db00b_97 eb_0
noncomputable def d_X8_append_20 := gq_13 db00b_97 eb_457
noncomputable def d_X8_append_23 := gq_14 db00b_97 eb_451
noncomputable def d_X8_append_26 := gq_15 db00b_97 eb_118
noncomputable def d_X8_append_29 := gq_16 db00b_97 eb_0
noncomputable def d_X8_append_30 := gq_17 db00b_97 eb_33
noncomputable def d_X8_append_33 := gq_18 db00b_97 eb_0
noncomputable def d_X8_append_34 := gq_19 db00b_97 eb_457
noncomputable def d_X8_append_37 := gq_20 db00b_97 eb_30
noncomputable def d_X8_append_38 := gq_21 db00b_97 eb_39
noncomputable def d_X8_append_39 := gq_22 db00b_97 eb_0
noncomputable def d_X8_append_40 := gq_23 db00b_97 eb_47
theorem db00b_98 : Pf_ prog_10_method_4_code [(41, [0xb4, 0x00, 0x23]), (44, [0x04]), (45, [0x60]), (46, [0xb5, 0x00, 0x23]), (49, [0x84, 0x02, 0xf8]), (52, [0xa7, 0xff, 0xcf]), (55, [0xb1])] := pf_ok prog_10_method_4_code _ 41 (by decide +kernel)
noncomputable def d_X8_append_41 := gq_0 db00b_98 eb_457
noncomputable def d_X8_append_44 := gq_1 db00b_98 eb_20
noncomputable def d_X8_append_45 := gq_2 db00b_98 eb_36
noncomputable def d_X8_append_46 := gq_3 db00b_98 eb_466
noncomputable def d_X8_append_49 := gq_4 db00b_98 eb_462
noncomputable def d_X8_append_52 := gq_5 db00b_98 eb_467
noncomputable def d_X8_append_55 := gq_6 db00b_98 eb_8
theorem db00b_99 : Pf_ prog_10_method_5_code [(0, [0x1b]), (1, [0x03]), (2, [0x2a]), (3, [0xb4, 0x00, 0x23]), (6, [0xb8, 0x00, 0x2b]), (9, [0x9a, 0x00, 0x05]), (12, [0x03]), (13, [0xac]), (14, [0x2a]), (15, [0x1b]), (16, [0xb5, 0x00, 0x23]), (19, [0x04]), (20, [0xac])] := pf_ok prog_10_method_5_code _ 0 (by decide +kernel)
noncomputable def d_X8_cut_0 := gq_0 db00b_99 eb_10
noncomputable def d_X8_cut_1 := gq_1 db00b_99 eb_22
noncomputable def d_X8_cut_2 := gq_2 db00b_99 eb_0
noncomputable def d_X8_cut_3 := gq_3 db00b_99 eb_457
noncomputable def d_X8_cut_6 := gq_4 db00b_99 eb_468
noncomputable def d_X8_cut_9 := gq_5 db00b_99 eb_152
noncomputable def d_X8_cut_12 := gq_6 db00b_99 eb_22
noncomputable def d_X8_cut_13 := gq_7 db00b_99 eb_16
noncomputable def d_X8_cut_14 := gq_8 db00b_99 eb_0
noncomputable def d_X8_cut_15 := gq_9 db00b_99 eb_10
noncomputable def d_X8_cut_16 := gq_10 db00b_99 eb_466
noncomputable def d_X8_cut_19 := gq_11 db00b_99 eb_20
noncomputable def d_X8_cut_20 := gq_12 db00b_99 eb_16
theorem db00b_100 : Pf_ prog_10_method_6_code [(0, [0x2a]), (1, [0x03]), (2, [0xb5, 0x00, 0x2f]), (5, [0x2a]), (6, [0x02]), (7, [0xb5, 0x00, 0x32]), (10, [0x2a]), (11, [0x2b]), (12, [0xb5, 0x00, 0x11]), (15, [0x2a]), (16, [0x03]), (17, [0xb5, 0x00, 0x35]), (20, [0x2a]), (21, [0x03]), (22, [0xb5, 0x00, 0x38]), (25, [0x2a]), (26, [0x03]), (27, [0xb5, 0x00, 0x3c]), (30, [0xb1])] := pf_ok prog_10_method_6_code _ 0 (by decide +kernel)
noncomputable def d_X8_restart_0 := gq_0 db00b_100 eb_0
noncomputable def d_X8_restart_1 := gq_1 db00b_100 eb_22
noncomputable def d_X8_restart_2 := gq_2 db00b_100 eb_469
noncomputable def d_X8_restart_5 := gq_3 db00b_100 eb_0
noncomputable def d_X8_restart_6 := gq_4 db00b_100 eb_27
noncomputable def d_X8_restart_7 := gq_5 db00b_100 eb_441
noncomputable def d_X8_restart_10 := gq_6 db00b_100 eb_0
noncomputable def d_X8_restart_11 := gq_7 db00b_100 eb_24
noncomputable def d_X8_restart_12 := gq_8 db00b_100 eb_453
noncomputable def d_X8_restart_15 := gq_9 db00b_100 eb_0
noncomputable def d_X8_restart_16 := gq_10 db00b_100 eb_22
noncomputable def d_X8_restart_17 := gq_11 db00b_100 eb_470
noncomputable def d_X8_restart_20 := gq_12 db00b_100 eb_0
noncomputable def d_X8_restart_21 := gq_13 db00b_100 eb_22
noncomputable def d_X8_restart_22 := gq_14 db00b_100 eb_471
noncomputable def d_X8_restart_25 := gq_15 db00b_100 eb_0
noncomputable def d_X8_restart_26 := gq_16 db00b_100 eb_22
noncomputable def d_X8_restart_27 := gq_17 db00b_100 eb_116
noncomputable def d_X8_restart_30 := gq_18 db00b_100 eb_8
theorem db00b_101 : Pf_ prog_10_method_7_code [(0, [0x2a]), (1, [0xb4, 0x00, 0x2f]), (4, [0x2a]), (5, [0xb4, 0x00, 0x23]), (8, [0xa2, 0x00, 0x1e]), (11, [0x2a]), (12, [0xb4, 0x00, 0x0b]), (15, [0x2a]), (16, [0xb4, 0x00, 0x2f]), (19, [0x2e]), (20, [0x10, 0x20]), (22, [0xa0, 0x00, 0x10]), (25, [0x2a]), (26, [0x59]), (27, [0xb4, 0x00, 0x2f]), (30, [0x04]), (31, [0x60]), (32, [0xb5, 0x00, 0x2f]), (35, [0xa7, 0xff, 0xdd]), (38, [0x2a]), (39, [0xb4, 0x00, 0x2f]), (42, [0x2a]), (43, [0xb4, 0x00, 0x23]), (46, [0xa2, 0x00, 0x0f])] := pf_ok prog_10_method_7_code _ 0 (by decide +kernel)
noncomputable def d_X8_peek_0 := gq_0 db00b_101 eb_0
noncomputable def d_X8_peek_1 := gq_1 db00b_101 eb_472
noncomputable def d_X8_peek_4 := gq_2 db00b_101 eb_0
noncomputable def d_X8_peek_5 := gq_3 db00b_101 eb_457
noncomputable def d_X8_peek_8 := gq_4 db00b_101 eb_250
noncomputable def d_X8_peek_11 := gq_5 db00b_101 eb_0
noncomputable def d_X8_peek_12 := gq_6 db00b_101 eb_33
noncomputable def d_X8_peek_15 := gq_7 db00b_101 eb_0
noncomputable def d_X8_peek_16 := gq_8 db00b_101 eb_472
noncomputable def d_X8_peek_19 := gq_9 db00b_101 eb_38
noncomputable def d_X8_peek_20 := gq_10 db00b_101 eb_473
noncomputable def d_X8_peek_22 := gq_11 db00b_101 eb_80
noncomputable def d_X8_peek_25 := gq_12 db00b_101 eb_0
noncomputable def d_X8_peek_26 := gq_13 db00b_101 eb_47
noncomputable def d_X8_peek_27 := gq_14 db00b_101 eb_472
noncomputable def d_X8_peek_30 := gq_15 db00b_101 eb_20
noncomputable def d_X8_peek_31 := gq_16 db00b_101 eb_36
noncomputable def d_X8_peek_32 := gq_17 db00b_101 eb_469
noncomputable def d_X8_peek_35 := gq_18 db00b_101 eb_151
noncomputable def d_X8_peek_38 := gq_19 db00b_101 eb_0
noncomputable def d_X8_peek_39 := gq_20 db00b_101 eb_472
noncomputable def d_X8_peek_42 := gq_21 db00b_101 eb_0
noncomputable def d_X8_peek_43 := gq_22 db00b_101 eb_457
noncomputable def d_X8_peek_46 := gq_23 db00b_101 eb_474
theorem db00b_102 : Pf_ prog_10_method_7_code [(49, [0x2a]), (50, [0xb4, 0x00, 0x0b]), (53, [0x2a]), (54, [0xb4, 0x00, 0x2f]), (57, [0x2e]), (58, [0xa7, 0x00, 0x04]), (61, [0x02]), (62, [0xac])] := pf_ok prog_10_method_7_code _ 49 (by decide +kernel)
noncomputable def d_X8_peek_49 := gq_0 db00b_102 eb_0
noncomputable def d_X8_peek_50 := gq_1 db00b_102 eb_33
noncomputable def d_X8_peek_53 := gq_2 db00b_102 eb_0
noncomputable def d_X8_peek_54 := gq_3 db00b_102 eb_472
noncomputable def d_X8_peek_57 := gq_4 db00b_102 eb_38
noncomputable def d_X8_peek_58 := gq_5 db00b_102 eb_21
noncomputable def d_X8_peek_61 := gq_6 db00b_102 eb_27
noncomputable def d_X8_peek_62 := gq_7 db00b_102 eb_16
theorem db00b_103 : Pf_ prog_10_method_8_code [(0, [0x2a]), (1, [0x2a]), (2, [0xb4, 0x00, 0x2f]), (5, [0xb5, 0x00, 0x32]), (8, [0x03]), (9, [0xac])] := pf_ok prog_10_method_8_code _ 0 (by decide +kernel)
noncomputable def d_X8_fail_0 := gq_0 db00b_103 eb_0
noncomputable def d_X8_fail_1 := gq_1 db00b_103 eb_0
noncomputable def d_X8_fail_2 := gq_2 db00b_103 eb_472
noncomputable def d_X8_fail_5 := gq_3 db00b_103 eb_441
noncomputable def d_X8_fail_8 := gq_4 db00b_103 eb_22
noncomputable def d_X8_fail_9 := gq_5 db00b_103 eb_16
theorem db00b_104 : Pf_ prog_10_method_9_code [(0, [0x2a]), (1, [0xb6, 0x00, 0x3f]), (4, [0x1b]), (5, [0x9f, 0x00, 0x08]), (8, [0x2a]), (9, [0xb6, 0x00, 0x43]), (12, [0xac]), (13, [0x2a]), (14, [0x59]), (15, [0xb4, 0x00, 0x2f]), (18, [0x04]), (19, [0x60]), (20, [0xb5, 0x00, 0x2f]), (23, [0x04]), (24, [0xac])] := pf_ok prog_10_method_9_code _ 0 (by decide +kernel)
noncomputable def d_X8_expect_0 := gq_0 db00b_104 eb_0
noncomputable def d_X8_expect_1 := gq_1 db00b_104 eb_361
noncomputable def d_X8_expect_4 := gq_2 db00b_104 eb_10
noncomputable def d_X8_expect_5 := gq_3 db00b_104 eb_475
noncomputable def d_X8_expect_8 := gq_4 db00b_104 eb_0
noncomputable def d_X8_expect_9 := gq_5 db00b_104 eb_218
noncomputable def d_X8_expect_12 := gq_6 db00b_104 eb_16
noncomputable def d_X8_expect_13 := gq_7 db00b_104 eb_0
noncomputable def d_X8_expect_14 := gq_8 db00b_104 eb_47
noncomputable def d_X8_expect_15 := gq_9 db00b_104 eb_472
noncomputable def d_X8_expect_18 := gq_10 db00b_104 eb_20
noncomputable def d_X8_expect_19 := gq_11 db00b_104 eb_36
noncomputable def d_X8_expect_20 := gq_12 db00b_104 eb_469
noncomputable def d_X8_expect_23 := gq_13 db00b_104 eb_20
noncomputable def d_X8_expect_24 := gq_14 db00b_104 eb_16
theorem db00b_105 : Pf_ prog_10_method_10_code [(0, [0x1a]), (1, [0x10, 0x30]), (3, [0xa1, 0x00, 0x0d]), (6, [0x1a]), (7, [0x10, 0x39]), (9, [0xa3, 0x00, 0x07]), (12, [0x04]), (13, [0xa7, 0x00, 0x04]), (16, [0x03]), (17, [0xac])] := pf_ok prog_10_method_10_code _ 0 (by decide +kernel)
noncomputable def d_X8_isDigit_0 := gq_0 db00b_105 eb_9
noncomputable def d_X8_isDigit_1 := gq_1 db00b_105 eb_320
noncomputable def d_X8_isDigit_3 := gq_2 db00b_105 eb_476
noncomputable def d_X8_isDigit_6 := gq_3 db00b_105 eb_9
noncomputable def d_X8_isDigit_7 := gq_4 db00b_105 eb_477
noncomputable def d_X8_isDigit_9 := gq_5 db00b_105 eb_114
noncomputable def d_X8_isDigit_12 := gq_6 db00b_105 eb_20
noncomputable def d_X8_isDigit_13 := gq_7 db00b_105 eb_21
noncomputable def d_X8_isDigit_16 := gq_8 db00b_105 eb_22
noncomputable def d_X8_isDigit_17 := gq_9 db00b_105 eb_16
theorem db00b_106 : Pf_ prog_10_method_11_code [(0, [0x03]), (1, [0x3e]), (2, [0x03]), (3, [0x36, 0x04]), (5, [0x2a]), (6, [0xb6, 0x00, 0x3f]), (9, [0xb8, 0x00, 0x47]), (12, [0x36, 0x05]), (14, [0x15, 0x05]), (16, [0x99, 0x00, 0x4f]), (19, [0x2a]), (20, [0xb4, 0x00, 0x2f]), (23, [0x2a]), (24, [0xb4, 0x00, 0x23]), (27, [0xa2, 0x00, 0x44]), (30, [0x2a]), (31, [0xb4, 0x00, 0x0b]), (34, [0x2a]), (35, [0xb4, 0x00, 0x2f]), (38, [0x2e]), (39, [0xb8, 0x00, 0x47]), (42, [0x99, 0x00, 0x35]), (45, [0x15, 0x04]), (47, [0x07])] := pf_ok prog_10_method_11_code _ 0 (by decide +kernel)
noncomputable def d_X8_readNumber_0 := gq_0 db00b_106 eb_22
noncomputable def d_X8_readNumber_1 := gq_1 db00b_106 eb_29
noncomputable def d_X8_readNumber_2 := gq_2 db00b_106 eb_22
noncomputable def d_X8_readNumber_3 := gq_3 db00b_106 eb_134
noncomputable def d_X8_readNumber_5 := gq_4 db00b_106 eb_0
noncomputable def d_X8_readNumber_6 := gq_5 db00b_106 eb_361
noncomputable def d_X8_readNumber_9 := gq_6 db00b_106 eb_119
noncomputable def d_X8_readNumber_12 := gq_7 db00b_106 eb_135
noncomputable def d_X8_readNumber_14 := gq_8 db00b_106 eb_126
noncomputable def d_X8_readNumber_16 := gq_9 db00b_106 eb_478
noncomputable def d_X8_readNumber_19 := gq_10 db00b_106 eb_0
noncomputable def d_X8_readNumber_20 := gq_11 db00b_106 eb_472
noncomputable def d_X8_readNumber_23 := gq_12 db00b_106 eb_0
noncomputable def d_X8_readNumber_24 := gq_13 db00b_106 eb_457
noncomputable def d_X8_readNumber_27 := gq_14 db00b_106 eb_325
noncomputable def d_X8_readNumber_30 := gq_15 db00b_106 eb_0
noncomputable def d_X8_readNumber_31 := gq_16 db00b_106 eb_33
noncomputable def d_X8_readNumber_34 := gq_17 db00b_106 eb_0
noncomputable def d_X8_readNumber_35 := gq_18 db00b_106 eb_472
noncomputable def d_X8_readNumber_38 := gq_19 db00b_106 eb_38
noncomputable def d_X8_readNumber_39 := gq_20 db00b_106 eb_119
noncomputable def d_X8_readNumber_42 := gq_21 db00b_106 eb_479
noncomputable def d_X8_readNumber_45 := gq_22 db00b_106 eb_77
noncomputable def d_X8_readNumber_47 := gq_23 db00b_106 eb_294
theorem db00b_107 : Pf_ prog_10_method_11_code [(48, [0xa0, 0x00, 0x0d]), (51, [0x2a]), (52, [0x2a]), (53, [0xb4, 0x00, 0x2f]), (56, [0xb5, 0x00, 0x32]), (59, [0x02]), (60, [0xac]), (61, [0x1d]), (62, [0x10, 0x0a]), (64, [0x68]), (65, [0x2a]), (66, [0xb4, 0x00, 0x0b]), (69, [0x2a]), (70, [0xb4, 0x00, 0x2f]), (73, [0x2e]), (74, [0x60]), (75, [0x10, 0x30]), (77, [0x64]), (78, [0x3e]), (79, [0x84, 0x04, 0x01]), (82, [0x2a]), (83, [0x59]), (84, [0xb4, 0x00, 0x2f]), (87, [0x04])] := pf_ok prog_10_method_11_code _ 48 (by decide +kernel)
noncomputable def d_X8_readNumber_48 := gq_0 db00b_107 eb_440
noncomputable def d_X8_readNumber_51 := gq_1 db00b_107 eb_0
noncomputable def d_X8_readNumber_52 := gq_2 db00b_107 eb_0
noncomputable def d_X8_readNumber_53 := gq_3 db00b_107 eb_472
noncomputable def d_X8_readNumber_56 := gq_4 db00b_107 eb_441
noncomputable def d_X8_readNumber_59 := gq_5 db00b_107 eb_27
noncomputable def d_X8_readNumber_60 := gq_6 db00b_107 eb_16
noncomputable def d_X8_readNumber_61 := gq_7 db00b_107 eb_30
noncomputable def d_X8_readNumber_62 := gq_8 db00b_107 eb_94
noncomputable def d_X8_readNumber_64 := gq_9 db00b_107 eb_35
noncomputable def d_X8_readNumber_65 := gq_10 db00b_107 eb_0
noncomputable def d_X8_readNumber_66 := gq_11 db00b_107 eb_33
noncomputable def d_X8_readNumber_69 := gq_12 db00b_107 eb_0
noncomputable def d_X8_readNumber_70 := gq_13 db00b_107 eb_472
noncomputable def d_X8_readNumber_73 := gq_14 db00b_107 eb_38
noncomputable def d_X8_readNumber_74 := gq_15 db00b_107 eb_36
noncomputable def d_X8_readNumber_75 := gq_16 db00b_107 eb_320
noncomputable def d_X8_readNumber_77 := gq_17 db00b_107 eb_49
noncomputable def d_X8_readNumber_78 := gq_18 db00b_107 eb_29
noncomputable def d_X8_readNumber_79 := gq_19 db00b_107 eb_146
noncomputable def d_X8_readNumber_82 := gq_20 db00b_107 eb_0
noncomputable def d_X8_readNumber_83 := gq_21 db00b_107 eb_47
noncomputable def d_X8_readNumber_84 := gq_22 db00b_107 eb_472
noncomputable def d_X8_readNumber_87 := gq_23 db00b_107 eb_20
theorem db00b_108 : Pf_ prog_10_method_11_code [(88, [0x60]), (89, [0xb5, 0x00, 0x2f]), (92, [0xa7, 0xff, 0xb2]), (95, [0x15, 0x05]), (97, [0x9a, 0x00, 0x0d]), (100, [0x2a]), (101, [0x2a]), (102, [0xb4, 0x00, 0x2f]), (105, [0xb5, 0x00, 0x32]), (108, [0x02]), (109, [0xac]), (110, [0x1d]), (111, [0x1b]), (112, [0x1c]), (113, [0xb8, 0x00, 0x2b]), (116, [0x9a, 0x00, 0x0f]), (119, [0x2a]), (120, [0x2a]), (121, [0xb4, 0x00, 0x2f]), (124, [0x04]), (125, [0x64]), (126, [0xb5, 0x00, 0x32]), (129, [0x02]), (130, [0xac])] := pf_ok prog_10_method_11_code _ 88 (by decide +kernel)
noncomputable def d_X8_readNumber_88 := gq_0 db00b_108 eb_36
noncomputable def d_X8_readNumber_89 := gq_1 db00b_108 eb_469
noncomputable def d_X8_readNumber_92 := gq_2 db00b_108 eb_480
noncomputable def d_X8_readNumber_95 := gq_3 db00b_108 eb_126
noncomputable def d_X8_readNumber_97 := gq_4 db00b_108 eb_481
noncomputable def d_X8_readNumber_100 := gq_5 db00b_108 eb_0
noncomputable def d_X8_readNumber_101 := gq_6 db00b_108 eb_0
noncomputable def d_X8_readNumber_102 := gq_7 db00b_108 eb_472
noncomputable def d_X8_readNumber_105 := gq_8 db00b_108 eb_441
noncomputable def d_X8_readNumber_108 := gq_9 db00b_108 eb_27
noncomputable def d_X8_readNumber_109 := gq_10 db00b_108 eb_16
noncomputable def d_X8_readNumber_110 := gq_11 db00b_108 eb_30
noncomputable def d_X8_readNumber_111 := gq_12 db00b_108 eb_10
noncomputable def d_X8_readNumber_112 := gq_13 db00b_108 eb_14
noncomputable def d_X8_readNumber_113 := gq_14 db00b_108 eb_468
noncomputable def d_X8_readNumber_116 := gq_15 db00b_108 eb_482
noncomputable def d_X8_readNumber_119 := gq_16 db00b_108 eb_0
noncomputable def d_X8_readNumber_120 := gq_17 db00b_108 eb_0
noncomputable def d_X8_readNumber_121 := gq_18 db00b_108 eb_472
noncomputable def d_X8_readNumber_124 := gq_19 db00b_108 eb_20
noncomputable def d_X8_readNumber_125 := gq_20 db00b_108 eb_49
noncomputable def d_X8_readNumber_126 := gq_21 db00b_108 eb_441
noncomputable def d_X8_readNumber_129 := gq_22 db00b_108 eb_27
noncomputable def d_X8_readNumber_130 := gq_23 db00b_108 eb_16
theorem db00b_109 : Pf_ prog_10_method_11_code [(131, [0x1d]), (132, [0xac])] := pf_ok prog_10_method_11_code _ 131 (by decide +kernel)
noncomputable def d_X8_readNumber_131 := gq_0 db00b_109 eb_30
noncomputable def d_X8_readNumber_132 := gq_1 db00b_109 eb_16
theorem db00b_110 : Pf_ prog_10_method_12_code [(0, [0x2a]), (1, [0x12, 0x0f]), (3, [0xb6, 0x00, 0x4b]), (6, [0x2a]), (7, [0x03]), (8, [0xb6, 0x00, 0x4f]), (11, [0x99, 0x00, 0x10]), (14, [0x2a]), (15, [0xb6, 0x00, 0x3f]), (18, [0x02]), (19, [0x9f, 0x00, 0x08]), (22, [0x2a]), (23, [0xb6, 0x00, 0x43]), (26, [0x57]), (27, [0x2a]), (28, [0xb4, 0x00, 0x32]), (31, [0xac])] := pf_ok prog_10_method_12_code _ 0 (by decide +kernel)
noncomputable def d_X8_readBeat_0 := gq_0 db00b_110 eb_0
noncomputable def d_X8_readBeat_1 := gq_1 db00b_110 eb_452
noncomputable def d_X8_readBeat_3 := gq_2 db00b_110 eb_143
noncomputable def d_X8_readBeat_6 := gq_3 db00b_110 eb_0
noncomputable def d_X8_readBeat_7 := gq_4 db00b_110 eb_22
noncomputable def d_X8_readBeat_8 := gq_5 db00b_110 eb_306
noncomputable def d_X8_readBeat_11 := gq_6 db00b_110 eb_137
noncomputable def d_X8_readBeat_14 := gq_7 db00b_110 eb_0
noncomputable def d_X8_readBeat_15 := gq_8 db00b_110 eb_361
noncomputable def d_X8_readBeat_18 := gq_9 db00b_110 eb_27
noncomputable def d_X8_readBeat_19 := gq_10 db00b_110 eb_475
noncomputable def d_X8_readBeat_22 := gq_11 db00b_110 eb_0
noncomputable def d_X8_readBeat_23 := gq_12 db00b_110 eb_218
noncomputable def d_X8_readBeat_26 := gq_13 db00b_110 eb_483
noncomputable def d_X8_readBeat_27 := gq_14 db00b_110 eb_0
noncomputable def d_X8_readBeat_28 := gq_15 db00b_110 eb_435
noncomputable def d_X8_readBeat_31 := gq_16 db00b_110 eb_16
theorem db00b_111 : Pf_ prog_10_method_13_code [(0, [0x2a]), (1, [0x1b]), (2, [0xb6, 0x00, 0x52]), (5, [0x3d]), (6, [0x03]), (7, [0x3e]), (8, [0x1d]), (9, [0x11, 0x00, 0xa0]), (12, [0xa2, 0x00, 0x26]), (15, [0x1c]), (16, [0x99, 0x00, 0x22]), (19, [0x2a]), (20, [0xb6, 0x00, 0x3f]), (23, [0x10, 0x3b]), (25, [0xa0, 0x00, 0x19]), (28, [0x2a]), (29, [0x59]), (30, [0xb4, 0x00, 0x2f]), (33, [0x04]), (34, [0x60]), (35, [0xb5, 0x00, 0x2f]), (38, [0x2a]), (39, [0x1b]), (40, [0xb6, 0x00, 0x52])] := pf_ok prog_10_method_13_code _ 0 (by decide +kernel)
noncomputable def d_X8_readSteps_0 := gq_0 db00b_111 eb_0
noncomputable def d_X8_readSteps_1 := gq_1 db00b_111 eb_10
noncomputable def d_X8_readSteps_2 := gq_2 db00b_111 eb_341
noncomputable def d_X8_readSteps_5 := gq_3 db00b_111 eb_28
noncomputable def d_X8_readSteps_6 := gq_4 db00b_111 eb_22
noncomputable def d_X8_readSteps_7 := gq_5 db00b_111 eb_29
noncomputable def d_X8_readSteps_8 := gq_6 db00b_111 eb_30
noncomputable def d_X8_readSteps_9 := gq_7 db00b_111 eb_451
noncomputable def d_X8_readSteps_12 := gq_8 db00b_111 eb_334
noncomputable def d_X8_readSteps_15 := gq_9 db00b_111 eb_14
noncomputable def d_X8_readSteps_16 := gq_10 db00b_111 eb_484
noncomputable def d_X8_readSteps_19 := gq_11 db00b_111 eb_0
noncomputable def d_X8_readSteps_20 := gq_12 db00b_111 eb_361
noncomputable def d_X8_readSteps_23 := gq_13 db00b_111 eb_485
noncomputable def d_X8_readSteps_25 := gq_14 db00b_111 eb_72
noncomputable def d_X8_readSteps_28 := gq_15 db00b_111 eb_0
noncomputable def d_X8_readSteps_29 := gq_16 db00b_111 eb_47
noncomputable def d_X8_readSteps_30 := gq_17 db00b_111 eb_472
noncomputable def d_X8_readSteps_33 := gq_18 db00b_111 eb_20
noncomputable def d_X8_readSteps_34 := gq_19 db00b_111 eb_36
noncomputable def d_X8_readSteps_35 := gq_20 db00b_111 eb_469
noncomputable def d_X8_readSteps_38 := gq_21 db00b_111 eb_0
noncomputable def d_X8_readSteps_39 := gq_22 db00b_111 eb_10
noncomputable def d_X8_readSteps_40 := gq_23 db00b_111 eb_341
theorem db00b_112 : Pf_ prog_10_method_13_code [(43, [0x3d]), (44, [0x84, 0x03, 0x01]), (47, [0xa7, 0xff, 0xd9]), (50, [0x1c]), (51, [0xac])] := pf_ok prog_10_method_13_code _ 43 (by decide +kernel)
noncomputable def d_X8_readSteps_43 := gq_0 db00b_112 eb_28
noncomputable def d_X8_readSteps_44 := gq_1 db00b_112 eb_43
noncomputable def d_X8_readSteps_47 := gq_2 db00b_112 eb_335
noncomputable def d_X8_readSteps_50 := gq_3 db00b_112 eb_14
noncomputable def d_X8_readSteps_51 := gq_4 db00b_112 eb_16
theorem d_X8_readStep_4 : decode prog_10_method_14_code 4 = .ok (.lookupswitch 140 #[(40, 134), (103, 52), (108, 116), (112, 101), (119, 76)], 52) := by decide +kernel
theorem db00b_113 : Pf_ prog_10_method_14_code [(0, [0x2a]), (1, [0xb6, 0x00, 0x3f]), (56, [0x2a]), (57, [0x59]), (58, [0xb4, 0x00, 0x2f]), (61, [0x04]), (62, [0x60]), (63, [0xb5, 0x00, 0x2f]), (66, [0x2a]), (67, [0x03]), (68, [0x2a]), (69, [0x03]), (70, [0x10, 0x0f]), (72, [0xb6, 0x00, 0x55]), (75, [0x03]), (76, [0xb6, 0x00, 0x59]), (79, [0xac]), (80, [0x2a]), (81, [0x59]), (82, [0xb4, 0x00, 0x2f]), (85, [0x04]), (86, [0x60]), (87, [0xb5, 0x00, 0x2f]), (90, [0x2a])] := pf_ok prog_10_method_14_code _ 0 (by decide +kernel)
noncomputable def d_X8_readStep_0 := gq_0 db00b_113 eb_0
noncomputable def d_X8_readStep_1 := gq_1 db00b_113 eb_361
noncomputable def d_X8_readStep_56 := gq_2 db00b_113 eb_0
noncomputable def d_X8_readStep_57 := gq_3 db00b_113 eb_47
noncomputable def d_X8_readStep_58 := gq_4 db00b_113 eb_472
noncomputable def d_X8_readStep_61 := gq_5 db00b_113 eb_20
noncomputable def d_X8_readStep_62 := gq_6 db00b_113 eb_36
noncomputable def d_X8_readStep_63 := gq_7 db00b_113 eb_469
noncomputable def d_X8_readStep_66 := gq_8 db00b_113 eb_0
noncomputable def d_X8_readStep_67 := gq_9 db00b_113 eb_22
noncomputable def d_X8_readStep_68 := gq_10 db00b_113 eb_0
noncomputable def d_X8_readStep_69 := gq_11 db00b_113 eb_22
noncomputable def d_X8_readStep_70 := gq_12 db00b_113 eb_58
noncomputable def d_X8_readStep_72 := gq_13 db00b_113 eb_486
noncomputable def d_X8_readStep_75 := gq_14 db00b_113 eb_22
noncomputable def d_X8_readStep_76 := gq_15 db00b_113 eb_487
noncomputable def d_X8_readStep_79 := gq_16 db00b_113 eb_16
noncomputable def d_X8_readStep_80 := gq_17 db00b_113 eb_0
noncomputable def d_X8_readStep_81 := gq_18 db00b_113 eb_47
noncomputable def d_X8_readStep_82 := gq_19 db00b_113 eb_472
noncomputable def d_X8_readStep_85 := gq_20 db00b_113 eb_20
noncomputable def d_X8_readStep_86 := gq_21 db00b_113 eb_36
noncomputable def d_X8_readStep_87 := gq_22 db00b_113 eb_469
noncomputable def d_X8_readStep_90 := gq_23 db00b_113 eb_0
theorem db00b_114 : Pf_ prog_10_method_14_code [(91, [0x04]), (92, [0x03]), (93, [0x2a]), (94, [0x04]), (95, [0x11, 0x00, 0xf0]), (98, [0xb6, 0x00, 0x55]), (101, [0xb6, 0x00, 0x59]), (104, [0xac]), (105, [0x2a]), (106, [0x59]), (107, [0xb4, 0x00, 0x2f]), (110, [0x04]), (111, [0x60]), (112, [0xb5, 0x00, 0x2f]), (115, [0x2a]), (116, [0xb6, 0x00, 0x5c]), (119, [0xac]), (120, [0x2a]), (121, [0x59]), (122, [0xb4, 0x00, 0x2f]), (125, [0x04])] := pf_ok prog_10_method_14_code _ 91 (by decide +kernel)
noncomputable def d_X8_readStep_91 := gq_0 db00b_114 eb_20
noncomputable def d_X8_readStep_92 := gq_1 db00b_114 eb_22
noncomputable def d_X8_readStep_93 := gq_2 db00b_114 eb_0
noncomputable def d_X8_readStep_94 := gq_3 db00b_114 eb_20
noncomputable def d_X8_readStep_95 := gq_4 db00b_114 eb_488
noncomputable def d_X8_readStep_98 := gq_5 db00b_114 eb_486
noncomputable def d_X8_readStep_101 := gq_6 db00b_114 eb_487
noncomputable def d_X8_readStep_104 := gq_7 db00b_114 eb_16
noncomputable def d_X8_readStep_105 := gq_8 db00b_114 eb_0
noncomputable def d_X8_readStep_106 := gq_9 db00b_114 eb_47
noncomputable def d_X8_readStep_107 := gq_10 db00b_114 eb_472
noncomputable def d_X8_readStep_110 := gq_11 db00b_114 eb_20
noncomputable def d_X8_readStep_111 := gq_12 db00b_114 eb_36
noncomputable def d_X8_readStep_112 := gq_13 db00b_114 eb_469
noncomputable def d_X8_readStep_115 := gq_14 db00b_114 eb_0
noncomputable def d_X8_readStep_116 := gq_15 db00b_114 eb_489
noncomputable def d_X8_readStep_119 := gq_16 db00b_114 eb_16
noncomputable def d_X8_readStep_120 := gq_17 db00b_114 eb_0
noncomputable def d_X8_readStep_121 := gq_18 db00b_114 eb_47
noncomputable def d_X8_readStep_122 := gq_19 db00b_114 eb_472
noncomputable def d_X8_readStep_125 := gq_20 db00b_114 eb_20
end
section
theorem db00c_0 : Pf_ prog_10_method_14_code [(126, [0x60]), (127, [0xb5, 0x00, 0x2f]), (130, [0x2a]), (131, [0x06]), (132, [0x03]), (133, [0x03]), (134, [0xb6, 0x00, 0x59]), (137, [0xac]), (138, [0x2a]), (139, [0x1b]), (140, [0xb6, 0x00, 0x5f]), (143, [0xac]), (144, [0x2a]), (145, [0xb6, 0x00, 0x43]), (148, [0xac])] := pf_ok prog_10_method_14_code _ 126 (by decide +kernel)
noncomputable def d_X8_readStep_126 := gq_0 db00c_0 eb_36
noncomputable def d_X8_readStep_127 := gq_1 db00c_0 eb_469
noncomputable def d_X8_readStep_130 := gq_2 db00c_0 eb_0
noncomputable def d_X8_readStep_131 := gq_3 db00c_0 eb_55
noncomputable def d_X8_readStep_132 := gq_4 db00c_0 eb_22
noncomputable def d_X8_readStep_133 := gq_5 db00c_0 eb_22
noncomputable def d_X8_readStep_134 := gq_6 db00c_0 eb_487
noncomputable def d_X8_readStep_137 := gq_7 db00c_0 eb_16
noncomputable def d_X8_readStep_138 := gq_8 db00c_0 eb_0
noncomputable def d_X8_readStep_139 := gq_9 db00c_0 eb_10
noncomputable def d_X8_readStep_140 := gq_10 db00c_0 eb_490
noncomputable def d_X8_readStep_143 := gq_11 db00c_0 eb_16
noncomputable def d_X8_readStep_144 := gq_12 db00c_0 eb_0
noncomputable def d_X8_readStep_145 := gq_13 db00c_0 eb_218
noncomputable def d_X8_readStep_148 := gq_14 db00c_0 eb_16
theorem db00c_1 : Pf_ prog_10_method_15_code [(0, [0x2a]), (1, [0x03]), (2, [0x10, 0x0f]), (4, [0xb6, 0x00, 0x55]), (7, [0x3c]), (8, [0x1b]), (9, [0x02]), (10, [0x9f, 0x00, 0x18]), (13, [0x2a]), (14, [0x05]), (15, [0x1b]), (16, [0x2a]), (17, [0x03]), (18, [0x11, 0x05, 0xa0]), (21, [0xb6, 0x00, 0x55]), (24, [0xb6, 0x00, 0x59]), (27, [0x99, 0x00, 0x07]), (30, [0x04]), (31, [0xa7, 0x00, 0x04]), (34, [0x03]), (35, [0xac])] := pf_ok prog_10_method_15_code _ 0 (by decide +kernel)
noncomputable def d_X8_readPoint_0 := gq_0 db00c_1 eb_0
noncomputable def d_X8_readPoint_1 := gq_1 db00c_1 eb_22
noncomputable def d_X8_readPoint_2 := gq_2 db00c_1 eb_58
noncomputable def d_X8_readPoint_4 := gq_3 db00c_1 eb_486
noncomputable def d_X8_readPoint_7 := gq_4 db00c_1 eb_225
noncomputable def d_X8_readPoint_8 := gq_5 db00c_1 eb_10
noncomputable def d_X8_readPoint_9 := gq_6 db00c_1 eb_27
noncomputable def d_X8_readPoint_10 := gq_7 db00c_1 eb_491
noncomputable def d_X8_readPoint_13 := gq_8 db00c_1 eb_0
noncomputable def d_X8_readPoint_14 := gq_9 db00c_1 eb_11
noncomputable def d_X8_readPoint_15 := gq_10 db00c_1 eb_10
noncomputable def d_X8_readPoint_16 := gq_11 db00c_1 eb_0
noncomputable def d_X8_readPoint_17 := gq_12 db00c_1 eb_22
noncomputable def d_X8_readPoint_18 := gq_13 db00c_1 eb_292
noncomputable def d_X8_readPoint_21 := gq_14 db00c_1 eb_486
noncomputable def d_X8_readPoint_24 := gq_15 db00c_1 eb_487
noncomputable def d_X8_readPoint_27 := gq_16 db00c_1 eb_124
noncomputable def d_X8_readPoint_30 := gq_17 db00c_1 eb_20
noncomputable def d_X8_readPoint_31 := gq_18 db00c_1 eb_21
noncomputable def d_X8_readPoint_34 := gq_19 db00c_1 eb_22
noncomputable def d_X8_readPoint_35 := gq_20 db00c_1 eb_16
theorem db00c_2 : Pf_ prog_10_method_16_code [(0, [0x1b]), (1, [0x07]), (2, [0xa1, 0x00, 0x08]), (5, [0x2a]), (6, [0xb6, 0x00, 0x43]), (9, [0xac]), (10, [0x2a]), (11, [0x59]), (12, [0xb4, 0x00, 0x2f]), (15, [0x04]), (16, [0x60]), (17, [0xb5, 0x00, 0x2f]), (20, [0x2a]), (21, [0xb4, 0x00, 0x35]), (24, [0x3d]), (25, [0x2a]), (26, [0x1b]), (27, [0x04]), (28, [0x60]), (29, [0xb6, 0x00, 0x4f]), (32, [0x99, 0x00, 0x0c]), (35, [0x2a]), (36, [0x10, 0x29]), (38, [0xb6, 0x00, 0x62])] := pf_ok prog_10_method_16_code _ 0 (by decide +kernel)
noncomputable def d_X8_readGroup_0 := gq_0 db00c_2 eb_10
noncomputable def d_X8_readGroup_1 := gq_1 db00c_2 eb_294
noncomputable def d_X8_readGroup_2 := gq_2 db00c_2 eb_351
noncomputable def d_X8_readGroup_5 := gq_3 db00c_2 eb_0
noncomputable def d_X8_readGroup_6 := gq_4 db00c_2 eb_218
noncomputable def d_X8_readGroup_9 := gq_5 db00c_2 eb_16
noncomputable def d_X8_readGroup_10 := gq_6 db00c_2 eb_0
noncomputable def d_X8_readGroup_11 := gq_7 db00c_2 eb_47
noncomputable def d_X8_readGroup_12 := gq_8 db00c_2 eb_472
noncomputable def d_X8_readGroup_15 := gq_9 db00c_2 eb_20
noncomputable def d_X8_readGroup_16 := gq_10 db00c_2 eb_36
noncomputable def d_X8_readGroup_17 := gq_11 db00c_2 eb_469
noncomputable def d_X8_readGroup_20 := gq_12 db00c_2 eb_0
noncomputable def d_X8_readGroup_21 := gq_13 db00c_2 eb_492
noncomputable def d_X8_readGroup_24 := gq_14 db00c_2 eb_28
noncomputable def d_X8_readGroup_25 := gq_15 db00c_2 eb_0
noncomputable def d_X8_readGroup_26 := gq_16 db00c_2 eb_10
noncomputable def d_X8_readGroup_27 := gq_17 db00c_2 eb_20
noncomputable def d_X8_readGroup_28 := gq_18 db00c_2 eb_36
noncomputable def d_X8_readGroup_29 := gq_19 db00c_2 eb_306
noncomputable def d_X8_readGroup_32 := gq_20 db00c_2 eb_51
noncomputable def d_X8_readGroup_35 := gq_21 db00c_2 eb_0
noncomputable def d_X8_readGroup_36 := gq_22 db00c_2 eb_493
noncomputable def d_X8_readGroup_38 := gq_23 db00c_2 eb_494
theorem db00c_3 : Pf_ prog_10_method_16_code [(41, [0x9a, 0x00, 0x05]), (44, [0x03]), (45, [0xac]), (46, [0x2a]), (47, [0x04]), (48, [0x10, 0x14]), (50, [0xb6, 0x00, 0x55]), (53, [0x3e]), (54, [0x1d]), (55, [0x02]), (56, [0xa0, 0x00, 0x05]), (59, [0x03]), (60, [0xac]), (61, [0x2a]), (62, [0xb4, 0x00, 0x35]), (65, [0x36, 0x04]), (67, [0x04]), (68, [0x36, 0x05]), (70, [0x15, 0x05]), (72, [0x1d]), (73, [0xa2, 0x00, 0x2b]), (76, [0x2a]), (77, [0xb4, 0x00, 0x38]), (80, [0x9a, 0x00, 0x24])] := pf_ok prog_10_method_16_code _ 41 (by decide +kernel)
noncomputable def d_X8_readGroup_41 := gq_0 db00c_3 eb_152
noncomputable def d_X8_readGroup_44 := gq_1 db00c_3 eb_22
noncomputable def d_X8_readGroup_45 := gq_2 db00c_3 eb_16
noncomputable def d_X8_readGroup_46 := gq_3 db00c_3 eb_0
noncomputable def d_X8_readGroup_47 := gq_4 db00c_3 eb_20
noncomputable def d_X8_readGroup_48 := gq_5 db00c_3 eb_495
noncomputable def d_X8_readGroup_50 := gq_6 db00c_3 eb_486
noncomputable def d_X8_readGroup_53 := gq_7 db00c_3 eb_29
noncomputable def d_X8_readGroup_54 := gq_8 db00c_3 eb_30
noncomputable def d_X8_readGroup_55 := gq_9 db00c_3 eb_27
noncomputable def d_X8_readGroup_56 := gq_10 db00c_3 eb_496
noncomputable def d_X8_readGroup_59 := gq_11 db00c_3 eb_22
noncomputable def d_X8_readGroup_60 := gq_12 db00c_3 eb_16
noncomputable def d_X8_readGroup_61 := gq_13 db00c_3 eb_0
noncomputable def d_X8_readGroup_62 := gq_14 db00c_3 eb_492
noncomputable def d_X8_readGroup_65 := gq_15 db00c_3 eb_134
noncomputable def d_X8_readGroup_67 := gq_16 db00c_3 eb_20
noncomputable def d_X8_readGroup_68 := gq_17 db00c_3 eb_135
noncomputable def d_X8_readGroup_70 := gq_18 db00c_3 eb_126
noncomputable def d_X8_readGroup_72 := gq_19 db00c_3 eb_30
noncomputable def d_X8_readGroup_73 := gq_20 db00c_3 eb_249
noncomputable def d_X8_readGroup_76 := gq_21 db00c_3 eb_0
noncomputable def d_X8_readGroup_77 := gq_22 db00c_3 eb_497
noncomputable def d_X8_readGroup_80 := gq_23 db00c_3 eb_498
theorem db00c_4 : Pf_ prog_10_method_16_code [(83, [0x1c]), (84, [0x36, 0x06]), (86, [0x15, 0x06]), (88, [0x15, 0x04]), (90, [0xa2, 0x00, 0x14]), (93, [0x2a]), (94, [0x2a]), (95, [0xb4, 0x00, 0x17]), (98, [0x15, 0x06]), (100, [0x2e]), (101, [0xb6, 0x00, 0x65]), (104, [0x84, 0x06, 0x01]), (107, [0xa7, 0xff, 0xeb]), (110, [0x84, 0x05, 0x01]), (113, [0xa7, 0xff, 0xd5]), (116, [0x04]), (117, [0xac])] := pf_ok prog_10_method_16_code _ 83 (by decide +kernel)
noncomputable def d_X8_readGroup_83 := gq_0 db00c_4 eb_14
noncomputable def d_X8_readGroup_84 := gq_1 db00c_4 eb_59
noncomputable def d_X8_readGroup_86 := gq_2 db00c_4 eb_76
noncomputable def d_X8_readGroup_88 := gq_3 db00c_4 eb_77
noncomputable def d_X8_readGroup_90 := gq_4 db00c_4 eb_499
noncomputable def d_X8_readGroup_93 := gq_5 db00c_4 eb_0
noncomputable def d_X8_readGroup_94 := gq_6 db00c_4 eb_0
noncomputable def d_X8_readGroup_95 := gq_7 db00c_4 eb_500
noncomputable def d_X8_readGroup_98 := gq_8 db00c_4 eb_76
noncomputable def d_X8_readGroup_100 := gq_9 db00c_4 eb_38
noncomputable def d_X8_readGroup_101 := gq_10 db00c_4 eb_501
noncomputable def d_X8_readGroup_104 := gq_11 db00c_4 eb_73
noncomputable def d_X8_readGroup_107 := gq_12 db00c_4 eb_502
noncomputable def d_X8_readGroup_110 := gq_13 db00c_4 eb_223
noncomputable def d_X8_readGroup_113 := gq_14 db00c_4 eb_342
noncomputable def d_X8_readGroup_116 := gq_15 db00c_4 eb_20
noncomputable def d_X8_readGroup_117 := gq_16 db00c_4 eb_16
theorem db00c_5 : Pf_ prog_10_method_17_code [(0, [0x1c]), (1, [0x02]), (2, [0x9f, 0x00, 0x08]), (5, [0x1d]), (6, [0x02]), (7, [0xa0, 0x00, 0x05]), (10, [0x03]), (11, [0xac]), (12, [0x2a]), (13, [0x1b]), (14, [0x1c]), (15, [0x1d]), (16, [0xb8, 0x00, 0x68]), (19, [0xb6, 0x00, 0x65]), (22, [0x04]), (23, [0xac])] := pf_ok prog_10_method_17_code _ 0 (by decide +kernel)
noncomputable def d_X8_addStep_0 := gq_0 db00c_5 eb_14
noncomputable def d_X8_addStep_1 := gq_1 db00c_5 eb_27
noncomputable def d_X8_addStep_2 := gq_2 db00c_5 eb_475
noncomputable def d_X8_addStep_5 := gq_3 db00c_5 eb_30
noncomputable def d_X8_addStep_6 := gq_4 db00c_5 eb_27
noncomputable def d_X8_addStep_7 := gq_5 db00c_5 eb_496
noncomputable def d_X8_addStep_10 := gq_6 db00c_5 eb_22
noncomputable def d_X8_addStep_11 := gq_7 db00c_5 eb_16
noncomputable def d_X8_addStep_12 := gq_8 db00c_5 eb_0
noncomputable def d_X8_addStep_13 := gq_9 db00c_5 eb_10
noncomputable def d_X8_addStep_14 := gq_10 db00c_5 eb_14
noncomputable def d_X8_addStep_15 := gq_11 db00c_5 eb_30
noncomputable def d_X8_addStep_16 := gq_12 db00c_5 eb_503
noncomputable def d_X8_addStep_19 := gq_13 db00c_5 eb_501
noncomputable def d_X8_addStep_22 := gq_14 db00c_5 eb_20
noncomputable def d_X8_addStep_23 := gq_15 db00c_5 eb_16
theorem db00c_6 : Pf_ prog_10_method_18_code [(0, [0x2a]), (1, [0xb4, 0x00, 0x35]), (4, [0x2a]), (5, [0xb4, 0x00, 0x17]), (8, [0xbe]), (9, [0xa2, 0x00, 0x1a]), (12, [0x2a]), (13, [0xb4, 0x00, 0x17]), (16, [0x2a]), (17, [0xb4, 0x00, 0x35]), (20, [0x1b]), (21, [0x4f]), (22, [0x2a]), (23, [0x59]), (24, [0xb4, 0x00, 0x35]), (27, [0x04]), (28, [0x60]), (29, [0xb5, 0x00, 0x35]), (32, [0xa7, 0x00, 0x08]), (35, [0x2a]), (36, [0x04]), (37, [0xb5, 0x00, 0x38]), (40, [0xb1])] := pf_ok prog_10_method_18_code _ 0 (by decide +kernel)
noncomputable def d_X8_appendStep_0 := gq_0 db00c_6 eb_0
noncomputable def d_X8_appendStep_1 := gq_1 db00c_6 eb_492
noncomputable def d_X8_appendStep_4 := gq_2 db00c_6 eb_0
noncomputable def d_X8_appendStep_5 := gq_3 db00c_6 eb_500
noncomputable def d_X8_appendStep_8 := gq_4 db00c_6 eb_53
noncomputable def d_X8_appendStep_9 := gq_5 db00c_6 eb_504
noncomputable def d_X8_appendStep_12 := gq_6 db00c_6 eb_0
noncomputable def d_X8_appendStep_13 := gq_7 db00c_6 eb_500
noncomputable def d_X8_appendStep_16 := gq_8 db00c_6 eb_0
noncomputable def d_X8_appendStep_17 := gq_9 db00c_6 eb_492
noncomputable def d_X8_appendStep_20 := gq_10 db00c_6 eb_10
noncomputable def d_X8_appendStep_21 := gq_11 db00c_6 eb_39
noncomputable def d_X8_appendStep_22 := gq_12 db00c_6 eb_0
noncomputable def d_X8_appendStep_23 := gq_13 db00c_6 eb_47
noncomputable def d_X8_appendStep_24 := gq_14 db00c_6 eb_492
noncomputable def d_X8_appendStep_27 := gq_15 db00c_6 eb_20
noncomputable def d_X8_appendStep_28 := gq_16 db00c_6 eb_36
noncomputable def d_X8_appendStep_29 := gq_17 db00c_6 eb_470
noncomputable def d_X8_appendStep_32 := gq_18 db00c_6 eb_505
noncomputable def d_X8_appendStep_35 := gq_19 db00c_6 eb_0
noncomputable def d_X8_appendStep_36 := gq_20 db00c_6 eb_20
noncomputable def d_X8_appendStep_37 := gq_21 db00c_6 eb_471
noncomputable def d_X8_appendStep_40 := gq_22 db00c_6 eb_8
theorem db00c_7 : Pf_ prog_10_method_19_code [(0, [0x2a]), (1, [0x1b]), (2, [0x99, 0x00, 0x08]), (5, [0x12, 0x6c]), (7, [0xa7, 0x00, 0x05]), (10, [0x12, 0x6e]), (12, [0xb6, 0x00, 0x4b]), (15, [0x1b]), (16, [0x99, 0x00, 0x0a]), (19, [0x2a]), (20, [0xb6, 0x00, 0x70]), (23, [0xa7, 0x00, 0x07]), (26, [0x2a]), (27, [0xb6, 0x00, 0x73]), (30, [0x3d]), (31, [0x03]), (32, [0x3e]), (33, [0x1d]), (34, [0x11, 0x00, 0xa0]), (37, [0xa2, 0x00, 0x30]), (40, [0x1c]), (41, [0x99, 0x00, 0x2c]), (44, [0x2a]), (45, [0xb6, 0x00, 0x3f])] := pf_ok prog_10_method_19_code _ 0 (by decide +kernel)
noncomputable def d_X8_readRule_0 := gq_0 db00c_7 eb_0
noncomputable def d_X8_readRule_1 := gq_1 db00c_7 eb_10
noncomputable def d_X8_readRule_2 := gq_2 db00c_7 eb_506
noncomputable def d_X8_readRule_5 := gq_3 db00c_7 eb_507
noncomputable def d_X8_readRule_7 := gq_4 db00c_7 eb_90
noncomputable def d_X8_readRule_10 := gq_5 db00c_7 eb_508
noncomputable def d_X8_readRule_12 := gq_6 db00c_7 eb_143
noncomputable def d_X8_readRule_15 := gq_7 db00c_7 eb_10
noncomputable def d_X8_readRule_16 := gq_8 db00c_7 eb_205
noncomputable def d_X8_readRule_19 := gq_9 db00c_7 eb_0
noncomputable def d_X8_readRule_20 := gq_10 db00c_7 eb_509
noncomputable def d_X8_readRule_23 := gq_11 db00c_7 eb_206
noncomputable def d_X8_readRule_26 := gq_12 db00c_7 eb_0
noncomputable def d_X8_readRule_27 := gq_13 db00c_7 eb_397
noncomputable def d_X8_readRule_30 := gq_14 db00c_7 eb_28
noncomputable def d_X8_readRule_31 := gq_15 db00c_7 eb_22
noncomputable def d_X8_readRule_32 := gq_16 db00c_7 eb_29
noncomputable def d_X8_readRule_33 := gq_17 db00c_7 eb_30
noncomputable def d_X8_readRule_34 := gq_18 db00c_7 eb_451
noncomputable def d_X8_readRule_37 := gq_19 db00c_7 eb_510
noncomputable def d_X8_readRule_40 := gq_20 db00c_7 eb_14
noncomputable def d_X8_readRule_41 := gq_21 db00c_7 eb_511
noncomputable def d_X8_readRule_44 := gq_22 db00c_7 eb_0
noncomputable def d_X8_readRule_45 := gq_23 db00c_7 eb_361
theorem db00c_8 : Pf_ prog_10_method_19_code [(48, [0x10, 0x3b]), (50, [0xa0, 0x00, 0x23]), (53, [0x2a]), (54, [0x59]), (55, [0xb4, 0x00, 0x2f]), (58, [0x04]), (59, [0x60]), (60, [0xb5, 0x00, 0x2f]), (63, [0x1b]), (64, [0x99, 0x00, 0x0a]), (67, [0x2a]), (68, [0xb6, 0x00, 0x70]), (71, [0xa7, 0x00, 0x07]), (74, [0x2a]), (75, [0xb6, 0x00, 0x73]), (78, [0x3d]), (79, [0x84, 0x03, 0x01]), (82, [0xa7, 0xff, 0xcf]), (85, [0x1c]), (86, [0x99, 0x00, 0x10]), (89, [0x2a]), (90, [0xb6, 0x00, 0x3f]), (93, [0x02]), (94, [0x9f, 0x00, 0x08])] := pf_ok prog_10_method_19_code _ 48 (by decide +kernel)
noncomputable def d_X8_readRule_48 := gq_0 db00c_8 eb_485
noncomputable def d_X8_readRule_50 := gq_1 db00c_8 eb_512
noncomputable def d_X8_readRule_53 := gq_2 db00c_8 eb_0
noncomputable def d_X8_readRule_54 := gq_3 db00c_8 eb_47
noncomputable def d_X8_readRule_55 := gq_4 db00c_8 eb_472
noncomputable def d_X8_readRule_58 := gq_5 db00c_8 eb_20
noncomputable def d_X8_readRule_59 := gq_6 db00c_8 eb_36
noncomputable def d_X8_readRule_60 := gq_7 db00c_8 eb_469
noncomputable def d_X8_readRule_63 := gq_8 db00c_8 eb_10
noncomputable def d_X8_readRule_64 := gq_9 db00c_8 eb_205
noncomputable def d_X8_readRule_67 := gq_10 db00c_8 eb_0
noncomputable def d_X8_readRule_68 := gq_11 db00c_8 eb_509
noncomputable def d_X8_readRule_71 := gq_12 db00c_8 eb_206
noncomputable def d_X8_readRule_74 := gq_13 db00c_8 eb_0
noncomputable def d_X8_readRule_75 := gq_14 db00c_8 eb_397
noncomputable def d_X8_readRule_78 := gq_15 db00c_8 eb_28
noncomputable def d_X8_readRule_79 := gq_16 db00c_8 eb_43
noncomputable def d_X8_readRule_82 := gq_17 db00c_8 eb_467
noncomputable def d_X8_readRule_85 := gq_18 db00c_8 eb_14
noncomputable def d_X8_readRule_86 := gq_19 db00c_8 eb_137
noncomputable def d_X8_readRule_89 := gq_20 db00c_8 eb_0
noncomputable def d_X8_readRule_90 := gq_21 db00c_8 eb_361
noncomputable def d_X8_readRule_93 := gq_22 db00c_8 eb_27
noncomputable def d_X8_readRule_94 := gq_23 db00c_8 eb_475
theorem db00c_9 : Pf_ prog_10_method_19_code [(97, [0x2a]), (98, [0xb6, 0x00, 0x43]), (101, [0x57]), (102, [0x2a]), (103, [0xb4, 0x00, 0x32]), (106, [0xac])] := pf_ok prog_10_method_19_code _ 97 (by decide +kernel)
noncomputable def d_X8_readRule_97 := gq_0 db00c_9 eb_0
noncomputable def d_X8_readRule_98 := gq_1 db00c_9 eb_218
noncomputable def d_X8_readRule_101 := gq_2 db00c_9 eb_483
noncomputable def d_X8_readRule_102 := gq_3 db00c_9 eb_0
noncomputable def d_X8_readRule_103 := gq_4 db00c_9 eb_435
noncomputable def d_X8_readRule_106 := gq_5 db00c_9 eb_16
theorem db00c_10 : Pf_ prog_10_method_20_code [(0, [0x2a]), (1, [0x03]), (2, [0xb6, 0x00, 0x76]), (5, [0x99, 0x00, 0x0c]), (8, [0x2a]), (9, [0x10, 0x3f]), (11, [0xb6, 0x00, 0x62]), (14, [0x9a, 0x00, 0x05]), (17, [0x03]), (18, [0xac]), (19, [0x2a]), (20, [0x06]), (21, [0x03]), (22, [0xb6, 0x00, 0x79]), (25, [0x3c]), (26, [0x2a]), (27, [0xb6, 0x00, 0x3f]), (30, [0x3d]), (31, [0x1c]), (32, [0x02]), (33, [0xa0, 0x00, 0x07]), (36, [0x02]), (37, [0xa7, 0x00, 0x0a]), (40, [0x12, 0x7c])] := pf_ok prog_10_method_20_code _ 0 (by decide +kernel)
noncomputable def d_X8_readActClause_0 := gq_0 db00c_10 eb_0
noncomputable def d_X8_readActClause_1 := gq_1 db00c_10 eb_22
noncomputable def d_X8_readActClause_2 := gq_2 db00c_10 eb_513
noncomputable def d_X8_readActClause_5 := gq_3 db00c_10 eb_51
noncomputable def d_X8_readActClause_8 := gq_4 db00c_10 eb_0
noncomputable def d_X8_readActClause_9 := gq_5 db00c_10 eb_514
noncomputable def d_X8_readActClause_11 := gq_6 db00c_10 eb_494
noncomputable def d_X8_readActClause_14 := gq_7 db00c_10 eb_152
noncomputable def d_X8_readActClause_17 := gq_8 db00c_10 eb_22
noncomputable def d_X8_readActClause_18 := gq_9 db00c_10 eb_16
noncomputable def d_X8_readActClause_19 := gq_10 db00c_10 eb_0
noncomputable def d_X8_readActClause_20 := gq_11 db00c_10 eb_55
noncomputable def d_X8_readActClause_21 := gq_12 db00c_10 eb_22
noncomputable def d_X8_readActClause_22 := gq_13 db00c_10 eb_515
noncomputable def d_X8_readActClause_25 := gq_14 db00c_10 eb_225
noncomputable def d_X8_readActClause_26 := gq_15 db00c_10 eb_0
noncomputable def d_X8_readActClause_27 := gq_16 db00c_10 eb_361
noncomputable def d_X8_readActClause_30 := gq_17 db00c_10 eb_28
noncomputable def d_X8_readActClause_31 := gq_18 db00c_10 eb_14
noncomputable def d_X8_readActClause_32 := gq_19 db00c_10 eb_27
noncomputable def d_X8_readActClause_33 := gq_20 db00c_10 eb_136
noncomputable def d_X8_readActClause_36 := gq_21 db00c_10 eb_27
noncomputable def d_X8_readActClause_37 := gq_22 db00c_10 eb_182
noncomputable def d_X8_readActClause_40 := gq_23 db00c_10 eb_516
theorem db00c_11 : Pf_ prog_10_method_20_code [(42, [0x1c]), (43, [0x92]), (44, [0xb6, 0x00, 0x7e]), (47, [0x3e]), (48, [0x1d]), (49, [0x9c, 0x00, 0x08]), (52, [0x2a]), (53, [0xb6, 0x00, 0x43]), (56, [0xac]), (57, [0x2a]), (58, [0x59]), (59, [0xb4, 0x00, 0x2f]), (62, [0x04]), (63, [0x60]), (64, [0xb5, 0x00, 0x2f]), (67, [0x2a]), (68, [0x03]), (69, [0x1d]), (70, [0xb6, 0x00, 0x79]), (73, [0x57]), (74, [0x2a]), (75, [0x1b]), (76, [0xb6, 0x00, 0x83]), (79, [0x04])] := pf_ok prog_10_method_20_code _ 42 (by decide +kernel)
noncomputable def d_X8_readActClause_42 := gq_0 db00c_11 eb_14
noncomputable def d_X8_readActClause_43 := gq_1 db00c_11 eb_517
noncomputable def d_X8_readActClause_44 := gq_2 db00c_11 eb_518
noncomputable def d_X8_readActClause_47 := gq_3 db00c_11 eb_29
noncomputable def d_X8_readActClause_48 := gq_4 db00c_11 eb_30
noncomputable def d_X8_readActClause_49 := gq_5 db00c_11 eb_519
noncomputable def d_X8_readActClause_52 := gq_6 db00c_11 eb_0
noncomputable def d_X8_readActClause_53 := gq_7 db00c_11 eb_218
noncomputable def d_X8_readActClause_56 := gq_8 db00c_11 eb_16
noncomputable def d_X8_readActClause_57 := gq_9 db00c_11 eb_0
noncomputable def d_X8_readActClause_58 := gq_10 db00c_11 eb_47
noncomputable def d_X8_readActClause_59 := gq_11 db00c_11 eb_472
noncomputable def d_X8_readActClause_62 := gq_12 db00c_11 eb_20
noncomputable def d_X8_readActClause_63 := gq_13 db00c_11 eb_36
noncomputable def d_X8_readActClause_64 := gq_14 db00c_11 eb_469
noncomputable def d_X8_readActClause_67 := gq_15 db00c_11 eb_0
noncomputable def d_X8_readActClause_68 := gq_16 db00c_11 eb_22
noncomputable def d_X8_readActClause_69 := gq_17 db00c_11 eb_30
noncomputable def d_X8_readActClause_70 := gq_18 db00c_11 eb_515
noncomputable def d_X8_readActClause_73 := gq_19 db00c_11 eb_483
noncomputable def d_X8_readActClause_74 := gq_20 db00c_11 eb_0
noncomputable def d_X8_readActClause_75 := gq_21 db00c_11 eb_10
noncomputable def d_X8_readActClause_76 := gq_22 db00c_11 eb_520
noncomputable def d_X8_readActClause_79 := gq_23 db00c_11 eb_20
theorem db00c_12 : Pf_ prog_10_method_20_code [(80, [0xac])] := pf_ok prog_10_method_20_code _ 80 (by decide +kernel)
noncomputable def d_X8_readActClause_80 := gq_0 db00c_12 eb_16
theorem db00c_13 : Pf_ prog_10_method_21_code [(0, [0x2a]), (1, [0xb6, 0x00, 0x3f]), (4, [0x3c]), (5, [0x1b]), (6, [0x10, 0x21]), (8, [0x9f, 0x00, 0x09]), (11, [0x1b]), (12, [0x10, 0x28]), (14, [0xa0, 0x00, 0x18]), (17, [0x2a]), (18, [0x03]), (19, [0xb6, 0x00, 0x76]), (22, [0x99, 0x00, 0x0e]), (25, [0x2a]), (26, [0xb6, 0x00, 0x86]), (29, [0x99, 0x00, 0x07]), (32, [0x04]), (33, [0xa7, 0x00, 0x04]), (36, [0x03]), (37, [0xac]), (38, [0x2a]), (39, [0x03]), (40, [0xb6, 0x00, 0x89]), (43, [0x9a, 0x00, 0x05])] := pf_ok prog_10_method_21_code _ 0 (by decide +kernel)
noncomputable def d_X8_readPayClause_0 := gq_0 db00c_13 eb_0
noncomputable def d_X8_readPayClause_1 := gq_1 db00c_13 eb_361
noncomputable def d_X8_readPayClause_4 := gq_2 db00c_13 eb_225
noncomputable def d_X8_readPayClause_5 := gq_3 db00c_13 eb_10
noncomputable def d_X8_readPayClause_6 := gq_4 db00c_13 eb_521
noncomputable def d_X8_readPayClause_8 := gq_5 db00c_13 eb_448
noncomputable def d_X8_readPayClause_11 := gq_6 db00c_13 eb_10
noncomputable def d_X8_readPayClause_12 := gq_7 db00c_13 eb_317
noncomputable def d_X8_readPayClause_14 := gq_8 db00c_13 eb_522
noncomputable def d_X8_readPayClause_17 := gq_9 db00c_13 eb_0
noncomputable def d_X8_readPayClause_18 := gq_10 db00c_13 eb_22
noncomputable def d_X8_readPayClause_19 := gq_11 db00c_13 eb_513
noncomputable def d_X8_readPayClause_22 := gq_12 db00c_13 eb_176
noncomputable def d_X8_readPayClause_25 := gq_13 db00c_13 eb_0
noncomputable def d_X8_readPayClause_26 := gq_14 db00c_13 eb_523
noncomputable def d_X8_readPayClause_29 := gq_15 db00c_13 eb_124
noncomputable def d_X8_readPayClause_32 := gq_16 db00c_13 eb_20
noncomputable def d_X8_readPayClause_33 := gq_17 db00c_13 eb_21
noncomputable def d_X8_readPayClause_36 := gq_18 db00c_13 eb_22
noncomputable def d_X8_readPayClause_37 := gq_19 db00c_13 eb_16
noncomputable def d_X8_readPayClause_38 := gq_20 db00c_13 eb_0
noncomputable def d_X8_readPayClause_39 := gq_21 db00c_13 eb_22
noncomputable def d_X8_readPayClause_40 := gq_22 db00c_13 eb_524
noncomputable def d_X8_readPayClause_43 := gq_23 db00c_13 eb_152
theorem db00c_14 : Pf_ prog_10_method_21_code [(46, [0x03]), (47, [0xac]), (48, [0x2a]), (49, [0xb6, 0x00, 0x3f]), (52, [0xb8, 0x00, 0x8c]), (55, [0x99, 0x00, 0x20]), (58, [0x2a]), (59, [0x03]), (60, [0xb6, 0x00, 0x8f]), (63, [0x99, 0x00, 0x16]), (66, [0x2a]), (67, [0x03]), (68, [0xb6, 0x00, 0x92]), (71, [0x99, 0x00, 0x0e]), (74, [0x2a]), (75, [0xb6, 0x00, 0x86]), (78, [0x99, 0x00, 0x07]), (81, [0x04]), (82, [0xa7, 0x00, 0x04]), (85, [0x03]), (86, [0xac]), (87, [0x2a]), (88, [0x02]), (89, [0xb6, 0x00, 0x83])] := pf_ok prog_10_method_21_code _ 46 (by decide +kernel)
noncomputable def d_X8_readPayClause_46 := gq_0 db00c_14 eb_22
noncomputable def d_X8_readPayClause_47 := gq_1 db00c_14 eb_16
noncomputable def d_X8_readPayClause_48 := gq_2 db00c_14 eb_0
noncomputable def d_X8_readPayClause_49 := gq_3 db00c_14 eb_361
noncomputable def d_X8_readPayClause_52 := gq_4 db00c_14 eb_525
noncomputable def d_X8_readPayClause_55 := gq_5 db00c_14 eb_261
noncomputable def d_X8_readPayClause_58 := gq_6 db00c_14 eb_0
noncomputable def d_X8_readPayClause_59 := gq_7 db00c_14 eb_22
noncomputable def d_X8_readPayClause_60 := gq_8 db00c_14 eb_422
noncomputable def d_X8_readPayClause_63 := gq_9 db00c_14 eb_433
noncomputable def d_X8_readPayClause_66 := gq_10 db00c_14 eb_0
noncomputable def d_X8_readPayClause_67 := gq_11 db00c_14 eb_22
noncomputable def d_X8_readPayClause_68 := gq_12 db00c_14 eb_526
noncomputable def d_X8_readPayClause_71 := gq_13 db00c_14 eb_176
noncomputable def d_X8_readPayClause_74 := gq_14 db00c_14 eb_0
noncomputable def d_X8_readPayClause_75 := gq_15 db00c_14 eb_523
noncomputable def d_X8_readPayClause_78 := gq_16 db00c_14 eb_124
noncomputable def d_X8_readPayClause_81 := gq_17 db00c_14 eb_20
noncomputable def d_X8_readPayClause_82 := gq_18 db00c_14 eb_21
noncomputable def d_X8_readPayClause_85 := gq_19 db00c_14 eb_22
noncomputable def d_X8_readPayClause_86 := gq_20 db00c_14 eb_16
noncomputable def d_X8_readPayClause_87 := gq_21 db00c_14 eb_0
noncomputable def d_X8_readPayClause_88 := gq_22 db00c_14 eb_27
noncomputable def d_X8_readPayClause_89 := gq_23 db00c_14 eb_520
theorem db00c_15 : Pf_ prog_10_method_21_code [(92, [0x04]), (93, [0xac])] := pf_ok prog_10_method_21_code _ 92 (by decide +kernel)
noncomputable def d_X8_readPayClause_92 := gq_0 db00c_15 eb_20
noncomputable def d_X8_readPayClause_93 := gq_1 db00c_15 eb_16
theorem db00c_16 : Pf_ prog_10_method_22_code [(0, [0x2a]), (1, [0x10, 0x3f]), (3, [0xb6, 0x00, 0x62]), (6, [0x9a, 0x00, 0x05]), (9, [0x03]), (10, [0xac]), (11, [0x2a]), (12, [0x06]), (13, [0x03]), (14, [0xb6, 0x00, 0x79]), (17, [0x3c]), (18, [0x2a]), (19, [0x03]), (20, [0xb6, 0x00, 0x89]), (23, [0x9a, 0x00, 0x05]), (26, [0x03]), (27, [0xac]), (28, [0x2a]), (29, [0x1b]), (30, [0xb6, 0x00, 0x83]), (33, [0x04]), (34, [0xac])] := pf_ok prog_10_method_22_code _ 0 (by decide +kernel)
noncomputable def d_X8_readPayAnswer_0 := gq_0 db00c_16 eb_0
noncomputable def d_X8_readPayAnswer_1 := gq_1 db00c_16 eb_514
noncomputable def d_X8_readPayAnswer_3 := gq_2 db00c_16 eb_494
noncomputable def d_X8_readPayAnswer_6 := gq_3 db00c_16 eb_152
noncomputable def d_X8_readPayAnswer_9 := gq_4 db00c_16 eb_22
noncomputable def d_X8_readPayAnswer_10 := gq_5 db00c_16 eb_16
noncomputable def d_X8_readPayAnswer_11 := gq_6 db00c_16 eb_0
noncomputable def d_X8_readPayAnswer_12 := gq_7 db00c_16 eb_55
noncomputable def d_X8_readPayAnswer_13 := gq_8 db00c_16 eb_22
noncomputable def d_X8_readPayAnswer_14 := gq_9 db00c_16 eb_515
noncomputable def d_X8_readPayAnswer_17 := gq_10 db00c_16 eb_225
noncomputable def d_X8_readPayAnswer_18 := gq_11 db00c_16 eb_0
noncomputable def d_X8_readPayAnswer_19 := gq_12 db00c_16 eb_22
noncomputable def d_X8_readPayAnswer_20 := gq_13 db00c_16 eb_524
noncomputable def d_X8_readPayAnswer_23 := gq_14 db00c_16 eb_152
noncomputable def d_X8_readPayAnswer_26 := gq_15 db00c_16 eb_22
noncomputable def d_X8_readPayAnswer_27 := gq_16 db00c_16 eb_16
noncomputable def d_X8_readPayAnswer_28 := gq_17 db00c_16 eb_0
noncomputable def d_X8_readPayAnswer_29 := gq_18 db00c_16 eb_10
noncomputable def d_X8_readPayAnswer_30 := gq_19 db00c_16 eb_520
noncomputable def d_X8_readPayAnswer_33 := gq_20 db00c_16 eb_20
noncomputable def d_X8_readPayAnswer_34 := gq_21 db00c_16 eb_16
theorem db00c_17 : Pf_ prog_10_method_23_code [(0, [0x2a]), (1, [0x07]), (2, [0x03]), (3, [0xb6, 0x00, 0x79]), (6, [0x57]), (7, [0x1b]), (8, [0x03]), (9, [0x2a]), (10, [0xb4, 0x00, 0x3c]), (13, [0x04]), (14, [0x64]), (15, [0xb8, 0x00, 0x2b]), (18, [0x99, 0x00, 0x11]), (21, [0x2a]), (22, [0xb4, 0x00, 0x1c]), (25, [0x1b]), (26, [0x06]), (27, [0x2a]), (28, [0xb4, 0x00, 0x3c]), (31, [0xb8, 0x00, 0x95]), (34, [0x4f]), (35, [0xb1])] := pf_ok prog_10_method_23_code _ 0 (by decide +kernel)
noncomputable def d_X8_endClause_0 := gq_0 db00c_17 eb_0
noncomputable def d_X8_endClause_1 := gq_1 db00c_17 eb_294
noncomputable def d_X8_endClause_2 := gq_2 db00c_17 eb_22
noncomputable def d_X8_endClause_3 := gq_3 db00c_17 eb_515
noncomputable def d_X8_endClause_6 := gq_4 db00c_17 eb_483
noncomputable def d_X8_endClause_7 := gq_5 db00c_17 eb_10
noncomputable def d_X8_endClause_8 := gq_6 db00c_17 eb_22
noncomputable def d_X8_endClause_9 := gq_7 db00c_17 eb_0
noncomputable def d_X8_endClause_10 := gq_8 db00c_17 eb_111
noncomputable def d_X8_endClause_13 := gq_9 db00c_17 eb_20
noncomputable def d_X8_endClause_14 := gq_10 db00c_17 eb_49
noncomputable def d_X8_endClause_15 := gq_11 db00c_17 eb_468
noncomputable def d_X8_endClause_18 := gq_12 db00c_17 eb_113
noncomputable def d_X8_endClause_21 := gq_13 db00c_17 eb_0
noncomputable def d_X8_endClause_22 := gq_14 db00c_17 eb_365
noncomputable def d_X8_endClause_25 := gq_15 db00c_17 eb_10
noncomputable def d_X8_endClause_26 := gq_16 db00c_17 eb_55
noncomputable def d_X8_endClause_27 := gq_17 db00c_17 eb_0
noncomputable def d_X8_endClause_28 := gq_18 db00c_17 eb_111
noncomputable def d_X8_endClause_31 := gq_19 db00c_17 eb_527
noncomputable def d_X8_endClause_34 := gq_20 db00c_17 eb_39
noncomputable def d_X8_endClause_35 := gq_21 db00c_17 eb_8
theorem db00c_18 : Pf_ prog_10_method_24_code [(0, [0x2a]), (1, [0xb4, 0x00, 0x3c]), (4, [0x2a]), (5, [0xb4, 0x00, 0x1c]), (8, [0xbe]), (9, [0xa1, 0x00, 0x05]), (12, [0x02]), (13, [0xac]), (14, [0x2a]), (15, [0xb4, 0x00, 0x1c]), (18, [0x2a]), (19, [0xb4, 0x00, 0x3c]), (22, [0x1b]), (23, [0x1c]), (24, [0xb8, 0x00, 0x95]), (27, [0x4f]), (28, [0x2a]), (29, [0x59]), (30, [0xb4, 0x00, 0x3c]), (33, [0x04]), (34, [0x60]), (35, [0xb5, 0x00, 0x3c]), (38, [0x2a]), (39, [0xb4, 0x00, 0x3c])] := pf_ok prog_10_method_24_code _ 0 (by decide +kernel)
noncomputable def d_X8_emit_0 := gq_0 db00c_18 eb_0
noncomputable def d_X8_emit_1 := gq_1 db00c_18 eb_111
noncomputable def d_X8_emit_4 := gq_2 db00c_18 eb_0
noncomputable def d_X8_emit_5 := gq_3 db00c_18 eb_365
noncomputable def d_X8_emit_8 := gq_4 db00c_18 eb_53
noncomputable def d_X8_emit_9 := gq_5 db00c_18 eb_115
noncomputable def d_X8_emit_12 := gq_6 db00c_18 eb_27
noncomputable def d_X8_emit_13 := gq_7 db00c_18 eb_16
noncomputable def d_X8_emit_14 := gq_8 db00c_18 eb_0
noncomputable def d_X8_emit_15 := gq_9 db00c_18 eb_365
noncomputable def d_X8_emit_18 := gq_10 db00c_18 eb_0
noncomputable def d_X8_emit_19 := gq_11 db00c_18 eb_111
noncomputable def d_X8_emit_22 := gq_12 db00c_18 eb_10
noncomputable def d_X8_emit_23 := gq_13 db00c_18 eb_14
noncomputable def d_X8_emit_24 := gq_14 db00c_18 eb_527
noncomputable def d_X8_emit_27 := gq_15 db00c_18 eb_39
noncomputable def d_X8_emit_28 := gq_16 db00c_18 eb_0
noncomputable def d_X8_emit_29 := gq_17 db00c_18 eb_47
noncomputable def d_X8_emit_30 := gq_18 db00c_18 eb_111
noncomputable def d_X8_emit_33 := gq_19 db00c_18 eb_20
noncomputable def d_X8_emit_34 := gq_20 db00c_18 eb_36
noncomputable def d_X8_emit_35 := gq_21 db00c_18 eb_116
noncomputable def d_X8_emit_38 := gq_22 db00c_18 eb_0
noncomputable def d_X8_emit_39 := gq_23 db00c_18 eb_111
theorem db00c_19 : Pf_ prog_10_method_24_code [(42, [0x04]), (43, [0x64]), (44, [0xac])] := pf_ok prog_10_method_24_code _ 42 (by decide +kernel)
noncomputable def d_X8_emit_42 := gq_0 db00c_19 eb_20
noncomputable def d_X8_emit_43 := gq_1 db00c_19 eb_49
noncomputable def d_X8_emit_44 := gq_2 db00c_19 eb_16
theorem db00c_20 : Pf_ prog_10_method_25_code [(0, [0x2a]), (1, [0x1b]), (2, [0xb6, 0x00, 0x97]), (5, [0x99, 0x00, 0x0f]), (8, [0x2a]), (9, [0x1b]), (10, [0xb6, 0x00, 0x92]), (13, [0x99, 0x00, 0x07]), (16, [0x04]), (17, [0xa7, 0x00, 0x04]), (20, [0x03]), (21, [0xac])] := pf_ok prog_10_method_25_code _ 0 (by decide +kernel)
noncomputable def d_X8_readCondition_0 := gq_0 db00c_20 eb_0
noncomputable def d_X8_readCondition_1 := gq_1 db00c_20 eb_10
noncomputable def d_X8_readCondition_2 := gq_2 db00c_20 eb_528
noncomputable def d_X8_readCondition_5 := gq_3 db00c_20 eb_297
noncomputable def d_X8_readCondition_8 := gq_4 db00c_20 eb_0
noncomputable def d_X8_readCondition_9 := gq_5 db00c_20 eb_10
noncomputable def d_X8_readCondition_10 := gq_6 db00c_20 eb_526
noncomputable def d_X8_readCondition_13 := gq_7 db00c_20 eb_124
noncomputable def d_X8_readCondition_16 := gq_8 db00c_20 eb_20
noncomputable def d_X8_readCondition_17 := gq_9 db00c_20 eb_21
noncomputable def d_X8_readCondition_20 := gq_10 db00c_20 eb_22
noncomputable def d_X8_readCondition_21 := gq_11 db00c_20 eb_16
theorem db00c_21 : Pf_ prog_10_method_26_code [(0, [0x2a]), (1, [0x1b]), (2, [0xb6, 0x00, 0x9a]), (5, [0x3d]), (6, [0x03]), (7, [0x3e]), (8, [0x1d]), (9, [0x11, 0x00, 0xa0]), (12, [0xa2, 0x00, 0x3e]), (15, [0x1c]), (16, [0x99, 0x00, 0x3a]), (19, [0x2a]), (20, [0xb6, 0x00, 0x3f]), (23, [0x10, 0x7c]), (25, [0xa0, 0x00, 0x31]), (28, [0x2a]), (29, [0x59]), (30, [0xb4, 0x00, 0x2f]), (33, [0x04]), (34, [0x60]), (35, [0xb5, 0x00, 0x2f]), (38, [0x2a]), (39, [0x1b]), (40, [0xb6, 0x00, 0x97])] := pf_ok prog_10_method_26_code _ 0 (by decide +kernel)
noncomputable def d_X8_readMoreParts_0 := gq_0 db00c_21 eb_0
noncomputable def d_X8_readMoreParts_1 := gq_1 db00c_21 eb_10
noncomputable def d_X8_readMoreParts_2 := gq_2 db00c_21 eb_529
noncomputable def d_X8_readMoreParts_5 := gq_3 db00c_21 eb_28
noncomputable def d_X8_readMoreParts_6 := gq_4 db00c_21 eb_22
noncomputable def d_X8_readMoreParts_7 := gq_5 db00c_21 eb_29
noncomputable def d_X8_readMoreParts_8 := gq_6 db00c_21 eb_30
noncomputable def d_X8_readMoreParts_9 := gq_7 db00c_21 eb_451
noncomputable def d_X8_readMoreParts_12 := gq_8 db00c_21 eb_349
noncomputable def d_X8_readMoreParts_15 := gq_9 db00c_21 eb_14
noncomputable def d_X8_readMoreParts_16 := gq_10 db00c_21 eb_530
noncomputable def d_X8_readMoreParts_19 := gq_11 db00c_21 eb_0
noncomputable def d_X8_readMoreParts_20 := gq_12 db00c_21 eb_361
noncomputable def d_X8_readMoreParts_23 := gq_13 db00c_21 eb_531
noncomputable def d_X8_readMoreParts_25 := gq_14 db00c_21 eb_532
noncomputable def d_X8_readMoreParts_28 := gq_15 db00c_21 eb_0
noncomputable def d_X8_readMoreParts_29 := gq_16 db00c_21 eb_47
noncomputable def d_X8_readMoreParts_30 := gq_17 db00c_21 eb_472
noncomputable def d_X8_readMoreParts_33 := gq_18 db00c_21 eb_20
noncomputable def d_X8_readMoreParts_34 := gq_19 db00c_21 eb_36
noncomputable def d_X8_readMoreParts_35 := gq_20 db00c_21 eb_469
noncomputable def d_X8_readMoreParts_38 := gq_21 db00c_21 eb_0
noncomputable def d_X8_readMoreParts_39 := gq_22 db00c_21 eb_10
noncomputable def d_X8_readMoreParts_40 := gq_23 db00c_21 eb_528
theorem db00c_22 : Pf_ prog_10_method_26_code [(43, [0x99, 0x00, 0x0f]), (46, [0x2a]), (47, [0x1b]), (48, [0xb6, 0x00, 0x9a]), (51, [0x99, 0x00, 0x07]), (54, [0x04]), (55, [0xa7, 0x00, 0x04]), (58, [0x03]), (59, [0x3d]), (60, [0x2a]), (61, [0x10, 0x0c]), (63, [0x03]), (64, [0xb6, 0x00, 0x79]), (67, [0x57]), (68, [0x84, 0x03, 0x01]), (71, [0xa7, 0xff, 0xc1]), (74, [0x1c]), (75, [0xac])] := pf_ok prog_10_method_26_code _ 43 (by decide +kernel)
noncomputable def d_X8_readMoreParts_43 := gq_0 db00c_22 eb_297
noncomputable def d_X8_readMoreParts_46 := gq_1 db00c_22 eb_0
noncomputable def d_X8_readMoreParts_47 := gq_2 db00c_22 eb_10
noncomputable def d_X8_readMoreParts_48 := gq_3 db00c_22 eb_529
noncomputable def d_X8_readMoreParts_51 := gq_4 db00c_22 eb_124
noncomputable def d_X8_readMoreParts_54 := gq_5 db00c_22 eb_20
noncomputable def d_X8_readMoreParts_55 := gq_6 db00c_22 eb_21
noncomputable def d_X8_readMoreParts_58 := gq_7 db00c_22 eb_22
noncomputable def d_X8_readMoreParts_59 := gq_8 db00c_22 eb_28
noncomputable def d_X8_readMoreParts_60 := gq_9 db00c_22 eb_0
noncomputable def d_X8_readMoreParts_61 := gq_10 db00c_22 eb_5
noncomputable def d_X8_readMoreParts_63 := gq_11 db00c_22 eb_22
noncomputable def d_X8_readMoreParts_64 := gq_12 db00c_22 eb_515
noncomputable def d_X8_readMoreParts_67 := gq_13 db00c_22 eb_483
noncomputable def d_X8_readMoreParts_68 := gq_14 db00c_22 eb_43
noncomputable def d_X8_readMoreParts_71 := gq_15 db00c_22 eb_533
noncomputable def d_X8_readMoreParts_74 := gq_16 db00c_22 eb_14
noncomputable def d_X8_readMoreParts_75 := gq_17 db00c_22 eb_16
theorem db00c_23 : Pf_ prog_10_method_27_code [(0, [0x04]), (1, [0x3d]), (2, [0x03]), (3, [0x3e]), (4, [0x1d]), (5, [0x11, 0x00, 0xa0]), (8, [0xa2, 0x00, 0x2e]), (11, [0x1c]), (12, [0x99, 0x00, 0x2a]), (15, [0x2a]), (16, [0xb6, 0x00, 0x3f]), (19, [0x10, 0x26]), (21, [0xa0, 0x00, 0x21]), (24, [0x2a]), (25, [0x59]), (26, [0xb4, 0x00, 0x2f]), (29, [0x04]), (30, [0x60]), (31, [0xb5, 0x00, 0x2f]), (34, [0x2a]), (35, [0x1b]), (36, [0xb6, 0x00, 0x97]), (39, [0x3d]), (40, [0x2a])] := pf_ok prog_10_method_27_code _ 0 (by decide +kernel)
noncomputable def d_X8_readMoreUnits_0 := gq_0 db00c_23 eb_20
noncomputable def d_X8_readMoreUnits_1 := gq_1 db00c_23 eb_28
noncomputable def d_X8_readMoreUnits_2 := gq_2 db00c_23 eb_22
noncomputable def d_X8_readMoreUnits_3 := gq_3 db00c_23 eb_29
noncomputable def d_X8_readMoreUnits_4 := gq_4 db00c_23 eb_30
noncomputable def d_X8_readMoreUnits_5 := gq_5 db00c_23 eb_451
noncomputable def d_X8_readMoreUnits_8 := gq_6 db00c_23 eb_32
noncomputable def d_X8_readMoreUnits_11 := gq_7 db00c_23 eb_14
noncomputable def d_X8_readMoreUnits_12 := gq_8 db00c_23 eb_534
noncomputable def d_X8_readMoreUnits_15 := gq_9 db00c_23 eb_0
noncomputable def d_X8_readMoreUnits_16 := gq_10 db00c_23 eb_361
noncomputable def d_X8_readMoreUnits_19 := gq_11 db00c_23 eb_535
noncomputable def d_X8_readMoreUnits_21 := gq_12 db00c_23 eb_536
noncomputable def d_X8_readMoreUnits_24 := gq_13 db00c_23 eb_0
noncomputable def d_X8_readMoreUnits_25 := gq_14 db00c_23 eb_47
noncomputable def d_X8_readMoreUnits_26 := gq_15 db00c_23 eb_472
noncomputable def d_X8_readMoreUnits_29 := gq_16 db00c_23 eb_20
noncomputable def d_X8_readMoreUnits_30 := gq_17 db00c_23 eb_36
noncomputable def d_X8_readMoreUnits_31 := gq_18 db00c_23 eb_469
noncomputable def d_X8_readMoreUnits_34 := gq_19 db00c_23 eb_0
noncomputable def d_X8_readMoreUnits_35 := gq_20 db00c_23 eb_10
noncomputable def d_X8_readMoreUnits_36 := gq_21 db00c_23 eb_528
noncomputable def d_X8_readMoreUnits_39 := gq_22 db00c_23 eb_28
noncomputable def d_X8_readMoreUnits_40 := gq_23 db00c_23 eb_0
theorem db00c_24 : Pf_ prog_10_method_27_code [(41, [0x10, 0x0b]), (43, [0x03]), (44, [0xb6, 0x00, 0x79]), (47, [0x57]), (48, [0x84, 0x03, 0x01]), (51, [0xa7, 0xff, 0xd1]), (54, [0x1c]), (55, [0xac])] := pf_ok prog_10_method_27_code _ 41 (by decide +kernel)
noncomputable def d_X8_readMoreUnits_41 := gq_0 db00c_24 eb_331
noncomputable def d_X8_readMoreUnits_43 := gq_1 db00c_24 eb_22
noncomputable def d_X8_readMoreUnits_44 := gq_2 db00c_24 eb_515
noncomputable def d_X8_readMoreUnits_47 := gq_3 db00c_24 eb_483
noncomputable def d_X8_readMoreUnits_48 := gq_4 db00c_24 eb_43
noncomputable def d_X8_readMoreUnits_51 := gq_5 db00c_24 eb_450
noncomputable def d_X8_readMoreUnits_54 := gq_6 db00c_24 eb_14
noncomputable def d_X8_readMoreUnits_55 := gq_7 db00c_24 eb_16
theorem db00c_25 : Pf_ prog_10_method_28_code [(0, [0x2a]), (1, [0xb6, 0x00, 0x3f]), (4, [0x3d]), (5, [0x1c]), (6, [0x10, 0x21]), (8, [0x9f, 0x00, 0x1f]), (11, [0x1c]), (12, [0x10, 0x28]), (14, [0x9f, 0x00, 0x19]), (17, [0x2a]), (18, [0x1b]), (19, [0xb6, 0x00, 0x89]), (22, [0x99, 0x00, 0x0f]), (25, [0x2a]), (26, [0x1b]), (27, [0xb6, 0x00, 0x8f]), (30, [0x99, 0x00, 0x07]), (33, [0x04]), (34, [0xa7, 0x00, 0x04]), (37, [0x03]), (38, [0xac]), (39, [0x1b]), (40, [0x10, 0x06]), (42, [0xa1, 0x00, 0x08])] := pf_ok prog_10_method_28_code _ 0 (by decide +kernel)
noncomputable def d_X8_readUnit_0 := gq_0 db00c_25 eb_0
noncomputable def d_X8_readUnit_1 := gq_1 db00c_25 eb_361
noncomputable def d_X8_readUnit_4 := gq_2 db00c_25 eb_28
noncomputable def d_X8_readUnit_5 := gq_3 db00c_25 eb_14
noncomputable def d_X8_readUnit_6 := gq_4 db00c_25 eb_521
noncomputable def d_X8_readUnit_8 := gq_5 db00c_25 eb_537
noncomputable def d_X8_readUnit_11 := gq_6 db00c_25 eb_14
noncomputable def d_X8_readUnit_12 := gq_7 db00c_25 eb_317
noncomputable def d_X8_readUnit_14 := gq_8 db00c_25 eb_538
noncomputable def d_X8_readUnit_17 := gq_9 db00c_25 eb_0
noncomputable def d_X8_readUnit_18 := gq_10 db00c_25 eb_10
noncomputable def d_X8_readUnit_19 := gq_11 db00c_25 eb_524
noncomputable def d_X8_readUnit_22 := gq_12 db00c_25 eb_297
noncomputable def d_X8_readUnit_25 := gq_13 db00c_25 eb_0
noncomputable def d_X8_readUnit_26 := gq_14 db00c_25 eb_10
noncomputable def d_X8_readUnit_27 := gq_15 db00c_25 eb_422
noncomputable def d_X8_readUnit_30 := gq_16 db00c_25 eb_124
noncomputable def d_X8_readUnit_33 := gq_17 db00c_25 eb_20
noncomputable def d_X8_readUnit_34 := gq_18 db00c_25 eb_21
noncomputable def d_X8_readUnit_37 := gq_19 db00c_25 eb_22
noncomputable def d_X8_readUnit_38 := gq_20 db00c_25 eb_16
noncomputable def d_X8_readUnit_39 := gq_21 db00c_25 eb_10
noncomputable def d_X8_readUnit_40 := gq_22 db00c_25 eb_15
noncomputable def d_X8_readUnit_42 := gq_23 db00c_25 eb_351
theorem db00c_26 : Pf_ prog_10_method_28_code [(45, [0x2a]), (46, [0xb6, 0x00, 0x43]), (49, [0xac]), (50, [0x2a]), (51, [0x59]), (52, [0xb4, 0x00, 0x2f]), (55, [0x04]), (56, [0x60]), (57, [0xb5, 0x00, 0x2f]), (60, [0x1c]), (61, [0x10, 0x28]), (63, [0xa0, 0x00, 0x1c]), (66, [0x2a]), (67, [0x1b]), (68, [0x04]), (69, [0x60]), (70, [0xb6, 0x00, 0x76]), (73, [0x99, 0x00, 0x10]), (76, [0x2a]), (77, [0x10, 0x29]), (79, [0xb6, 0x00, 0x62]), (82, [0x99, 0x00, 0x07]), (85, [0x04]), (86, [0xa7, 0x00, 0x04])] := pf_ok prog_10_method_28_code _ 45 (by decide +kernel)
noncomputable def d_X8_readUnit_45 := gq_0 db00c_26 eb_0
noncomputable def d_X8_readUnit_46 := gq_1 db00c_26 eb_218
noncomputable def d_X8_readUnit_49 := gq_2 db00c_26 eb_16
noncomputable def d_X8_readUnit_50 := gq_3 db00c_26 eb_0
noncomputable def d_X8_readUnit_51 := gq_4 db00c_26 eb_47
noncomputable def d_X8_readUnit_52 := gq_5 db00c_26 eb_472
noncomputable def d_X8_readUnit_55 := gq_6 db00c_26 eb_20
noncomputable def d_X8_readUnit_56 := gq_7 db00c_26 eb_36
noncomputable def d_X8_readUnit_57 := gq_8 db00c_26 eb_469
noncomputable def d_X8_readUnit_60 := gq_9 db00c_26 eb_14
noncomputable def d_X8_readUnit_61 := gq_10 db00c_26 eb_317
noncomputable def d_X8_readUnit_63 := gq_11 db00c_26 eb_539
noncomputable def d_X8_readUnit_66 := gq_12 db00c_26 eb_0
noncomputable def d_X8_readUnit_67 := gq_13 db00c_26 eb_10
noncomputable def d_X8_readUnit_68 := gq_14 db00c_26 eb_20
noncomputable def d_X8_readUnit_69 := gq_15 db00c_26 eb_36
noncomputable def d_X8_readUnit_70 := gq_16 db00c_26 eb_513
noncomputable def d_X8_readUnit_73 := gq_17 db00c_26 eb_137
noncomputable def d_X8_readUnit_76 := gq_18 db00c_26 eb_0
noncomputable def d_X8_readUnit_77 := gq_19 db00c_26 eb_493
noncomputable def d_X8_readUnit_79 := gq_20 db00c_26 eb_494
noncomputable def d_X8_readUnit_82 := gq_21 db00c_26 eb_124
noncomputable def d_X8_readUnit_85 := gq_22 db00c_26 eb_20
noncomputable def d_X8_readUnit_86 := gq_23 db00c_26 eb_21
theorem db00c_27 : Pf_ prog_10_method_28_code [(89, [0x03]), (90, [0xac]), (91, [0x2a]), (92, [0x1b]), (93, [0x04]), (94, [0x60]), (95, [0xb6, 0x00, 0x97]), (98, [0x3e]), (99, [0x2a]), (100, [0x05]), (101, [0x03]), (102, [0xb6, 0x00, 0x79]), (105, [0x57]), (106, [0x1d]), (107, [0xac])] := pf_ok prog_10_method_28_code _ 89 (by decide +kernel)
noncomputable def d_X8_readUnit_89 := gq_0 db00c_27 eb_22
noncomputable def d_X8_readUnit_90 := gq_1 db00c_27 eb_16
noncomputable def d_X8_readUnit_91 := gq_2 db00c_27 eb_0
noncomputable def d_X8_readUnit_92 := gq_3 db00c_27 eb_10
noncomputable def d_X8_readUnit_93 := gq_4 db00c_27 eb_20
noncomputable def d_X8_readUnit_94 := gq_5 db00c_27 eb_36
noncomputable def d_X8_readUnit_95 := gq_6 db00c_27 eb_528
noncomputable def d_X8_readUnit_98 := gq_7 db00c_27 eb_29
noncomputable def d_X8_readUnit_99 := gq_8 db00c_27 eb_0
noncomputable def d_X8_readUnit_100 := gq_9 db00c_27 eb_11
noncomputable def d_X8_readUnit_101 := gq_10 db00c_27 eb_22
noncomputable def d_X8_readUnit_102 := gq_11 db00c_27 eb_515
noncomputable def d_X8_readUnit_105 := gq_12 db00c_27 eb_483
noncomputable def d_X8_readUnit_106 := gq_13 db00c_27 eb_30
noncomputable def d_X8_readUnit_107 := gq_14 db00c_27 eb_16
theorem db00c_28 : Pf_ prog_10_method_29_code [(0, [0x1a]), (1, [0x10, 0x3d]), (3, [0x9f, 0x00, 0x0f]), (6, [0x1a]), (7, [0x10, 0x3c]), (9, [0x9f, 0x00, 0x09]), (12, [0x1a]), (13, [0x10, 0x3e]), (15, [0xa0, 0x00, 0x07]), (18, [0x04]), (19, [0xa7, 0x00, 0x04]), (22, [0x03]), (23, [0xac])] := pf_ok prog_10_method_29_code _ 0 (by decide +kernel)
noncomputable def d_X8_isComparison_0 := gq_0 db00c_28 eb_9
noncomputable def d_X8_isComparison_1 := gq_1 db00c_28 eb_540
noncomputable def d_X8_isComparison_3 := gq_2 db00c_28 eb_541
noncomputable def d_X8_isComparison_6 := gq_3 db00c_28 eb_9
noncomputable def d_X8_isComparison_7 := gq_4 db00c_28 eb_293
noncomputable def d_X8_isComparison_9 := gq_5 db00c_28 eb_448
noncomputable def d_X8_isComparison_12 := gq_6 db00c_28 eb_9
noncomputable def d_X8_isComparison_13 := gq_7 db00c_28 eb_542
noncomputable def d_X8_isComparison_15 := gq_8 db00c_28 eb_136
noncomputable def d_X8_isComparison_18 := gq_9 db00c_28 eb_20
noncomputable def d_X8_isComparison_19 := gq_10 db00c_28 eb_21
noncomputable def d_X8_isComparison_22 := gq_11 db00c_28 eb_22
noncomputable def d_X8_isComparison_23 := gq_12 db00c_28 eb_16
theorem db00c_29 : Pf_ prog_10_method_30_code [(0, [0x2a]), (1, [0xb6, 0x00, 0x3f]), (4, [0x3d]), (5, [0x1c]), (6, [0xb8, 0x00, 0x8c]), (9, [0x9a, 0x00, 0x08]), (12, [0x2a]), (13, [0xb6, 0x00, 0x43]), (16, [0xac]), (17, [0x2a]), (18, [0x59]), (19, [0xb4, 0x00, 0x2f]), (22, [0x04]), (23, [0x60]), (24, [0xb5, 0x00, 0x2f]), (27, [0x2a]), (28, [0x1b]), (29, [0xb6, 0x00, 0x89]), (32, [0x3e]), (33, [0x2a]), (34, [0x1c]), (35, [0x10, 0x3d]), (37, [0xa0, 0x00, 0x08]), (40, [0x10, 0x08])] := pf_ok prog_10_method_30_code _ 0 (by decide +kernel)
noncomputable def d_X8_readComparison_0 := gq_0 db00c_29 eb_0
noncomputable def d_X8_readComparison_1 := gq_1 db00c_29 eb_361
noncomputable def d_X8_readComparison_4 := gq_2 db00c_29 eb_28
noncomputable def d_X8_readComparison_5 := gq_3 db00c_29 eb_14
noncomputable def d_X8_readComparison_6 := gq_4 db00c_29 eb_525
noncomputable def d_X8_readComparison_9 := gq_5 db00c_29 eb_543
noncomputable def d_X8_readComparison_12 := gq_6 db00c_29 eb_0
noncomputable def d_X8_readComparison_13 := gq_7 db00c_29 eb_218
noncomputable def d_X8_readComparison_16 := gq_8 db00c_29 eb_16
noncomputable def d_X8_readComparison_17 := gq_9 db00c_29 eb_0
noncomputable def d_X8_readComparison_18 := gq_10 db00c_29 eb_47
noncomputable def d_X8_readComparison_19 := gq_11 db00c_29 eb_472
noncomputable def d_X8_readComparison_22 := gq_12 db00c_29 eb_20
noncomputable def d_X8_readComparison_23 := gq_13 db00c_29 eb_36
noncomputable def d_X8_readComparison_24 := gq_14 db00c_29 eb_469
noncomputable def d_X8_readComparison_27 := gq_15 db00c_29 eb_0
noncomputable def d_X8_readComparison_28 := gq_16 db00c_29 eb_10
noncomputable def d_X8_readComparison_29 := gq_17 db00c_29 eb_524
noncomputable def d_X8_readComparison_32 := gq_18 db00c_29 eb_29
noncomputable def d_X8_readComparison_33 := gq_19 db00c_29 eb_0
noncomputable def d_X8_readComparison_34 := gq_20 db00c_29 eb_14
noncomputable def d_X8_readComparison_35 := gq_21 db00c_29 eb_540
noncomputable def d_X8_readComparison_37 := gq_22 db00c_29 eb_544
noncomputable def d_X8_readComparison_40 := gq_23 db00c_29 eb_95
theorem db00c_30 : Pf_ prog_10_method_30_code [(42, [0xa7, 0x00, 0x10]), (45, [0x1c]), (46, [0x10, 0x3c]), (48, [0xa0, 0x00, 0x08]), (51, [0x10, 0x09]), (53, [0xa7, 0x00, 0x05]), (56, [0x10, 0x0a]), (58, [0x03]), (59, [0xb6, 0x00, 0x79]), (62, [0x57]), (63, [0x1d]), (64, [0xac])] := pf_ok prog_10_method_30_code _ 42 (by decide +kernel)
noncomputable def d_X8_readComparison_42 := gq_0 db00c_30 eb_545
noncomputable def d_X8_readComparison_45 := gq_1 db00c_30 eb_14
noncomputable def d_X8_readComparison_46 := gq_2 db00c_30 eb_293
noncomputable def d_X8_readComparison_48 := gq_3 db00c_30 eb_544
noncomputable def d_X8_readComparison_51 := gq_4 db00c_30 eb_290
noncomputable def d_X8_readComparison_53 := gq_5 db00c_30 eb_90
noncomputable def d_X8_readComparison_56 := gq_6 db00c_30 eb_94
noncomputable def d_X8_readComparison_58 := gq_7 db00c_30 eb_22
noncomputable def d_X8_readComparison_59 := gq_8 db00c_30 eb_515
noncomputable def d_X8_readComparison_62 := gq_9 db00c_30 eb_483
noncomputable def d_X8_readComparison_63 := gq_10 db00c_30 eb_30
noncomputable def d_X8_readComparison_64 := gq_11 db00c_30 eb_16
theorem db00c_31 : Pf_ prog_10_method_31_code [(0, [0x2a]), (1, [0x1b]), (2, [0xb6, 0x00, 0x9d]), (5, [0x3d]), (6, [0x03]), (7, [0x3e]), (8, [0x1d]), (9, [0x11, 0x00, 0xa0]), (12, [0xa2, 0x00, 0x48]), (15, [0x1c]), (16, [0x99, 0x00, 0x44]), (19, [0x2a]), (20, [0xb6, 0x00, 0x3f]), (23, [0x10, 0x2b]), (25, [0x9f, 0x00, 0x0c]), (28, [0x2a]), (29, [0xb6, 0x00, 0x3f]), (32, [0x10, 0x2d]), (34, [0xa0, 0x00, 0x32]), (37, [0x2a]), (38, [0xb6, 0x00, 0x3f]), (41, [0x10, 0x2b]), (43, [0xa0, 0x00, 0x07]), (46, [0x08])] := pf_ok prog_10_method_31_code _ 0 (by decide +kernel)
noncomputable def d_X8_readSum_0 := gq_0 db00c_31 eb_0
noncomputable def d_X8_readSum_1 := gq_1 db00c_31 eb_10
noncomputable def d_X8_readSum_2 := gq_2 db00c_31 eb_546
noncomputable def d_X8_readSum_5 := gq_3 db00c_31 eb_28
noncomputable def d_X8_readSum_6 := gq_4 db00c_31 eb_22
noncomputable def d_X8_readSum_7 := gq_5 db00c_31 eb_29
noncomputable def d_X8_readSum_8 := gq_6 db00c_31 eb_30
noncomputable def d_X8_readSum_9 := gq_7 db00c_31 eb_451
noncomputable def d_X8_readSum_12 := gq_8 db00c_31 eb_311
noncomputable def d_X8_readSum_15 := gq_9 db00c_31 eb_14
noncomputable def d_X8_readSum_16 := gq_10 db00c_31 eb_547
noncomputable def d_X8_readSum_19 := gq_11 db00c_31 eb_0
noncomputable def d_X8_readSum_20 := gq_12 db00c_31 eb_361
noncomputable def d_X8_readSum_23 := gq_13 db00c_31 eb_548
noncomputable def d_X8_readSum_25 := gq_14 db00c_31 eb_549
noncomputable def d_X8_readSum_28 := gq_15 db00c_31 eb_0
noncomputable def d_X8_readSum_29 := gq_16 db00c_31 eb_361
noncomputable def d_X8_readSum_32 := gq_17 db00c_31 eb_550
noncomputable def d_X8_readSum_34 := gq_18 db00c_31 eb_551
noncomputable def d_X8_readSum_37 := gq_19 db00c_31 eb_0
noncomputable def d_X8_readSum_38 := gq_20 db00c_31 eb_361
noncomputable def d_X8_readSum_41 := gq_21 db00c_31 eb_548
noncomputable def d_X8_readSum_43 := gq_22 db00c_31 eb_136
noncomputable def d_X8_readSum_46 := gq_23 db00c_31 eb_123
theorem db00c_32 : Pf_ prog_10_method_31_code [(47, [0xa7, 0x00, 0x05]), (50, [0x10, 0x06]), (52, [0x36, 0x04]), (54, [0x2a]), (55, [0x59]), (56, [0xb4, 0x00, 0x2f]), (59, [0x04]), (60, [0x60]), (61, [0xb5, 0x00, 0x2f]), (64, [0x2a]), (65, [0x1b]), (66, [0xb6, 0x00, 0x9d]), (69, [0x3d]), (70, [0x2a]), (71, [0x15, 0x04]), (73, [0x03]), (74, [0xb6, 0x00, 0x79]), (77, [0x57]), (78, [0x84, 0x03, 0x01]), (81, [0xa7, 0xff, 0xb7]), (84, [0x1c]), (85, [0xac])] := pf_ok prog_10_method_31_code _ 47 (by decide +kernel)
noncomputable def d_X8_readSum_47 := gq_0 db00c_32 eb_90
noncomputable def d_X8_readSum_50 := gq_1 db00c_32 eb_15
noncomputable def d_X8_readSum_52 := gq_2 db00c_32 eb_134
noncomputable def d_X8_readSum_54 := gq_3 db00c_32 eb_0
noncomputable def d_X8_readSum_55 := gq_4 db00c_32 eb_47
noncomputable def d_X8_readSum_56 := gq_5 db00c_32 eb_472
noncomputable def d_X8_readSum_59 := gq_6 db00c_32 eb_20
noncomputable def d_X8_readSum_60 := gq_7 db00c_32 eb_36
noncomputable def d_X8_readSum_61 := gq_8 db00c_32 eb_469
noncomputable def d_X8_readSum_64 := gq_9 db00c_32 eb_0
noncomputable def d_X8_readSum_65 := gq_10 db00c_32 eb_10
noncomputable def d_X8_readSum_66 := gq_11 db00c_32 eb_546
noncomputable def d_X8_readSum_69 := gq_12 db00c_32 eb_28
noncomputable def d_X8_readSum_70 := gq_13 db00c_32 eb_0
noncomputable def d_X8_readSum_71 := gq_14 db00c_32 eb_77
noncomputable def d_X8_readSum_73 := gq_15 db00c_32 eb_22
noncomputable def d_X8_readSum_74 := gq_16 db00c_32 eb_515
noncomputable def d_X8_readSum_77 := gq_17 db00c_32 eb_483
noncomputable def d_X8_readSum_78 := gq_18 db00c_32 eb_43
noncomputable def d_X8_readSum_81 := gq_19 db00c_32 eb_552
noncomputable def d_X8_readSum_84 := gq_20 db00c_32 eb_14
noncomputable def d_X8_readSum_85 := gq_21 db00c_32 eb_16
theorem db00c_33 : Pf_ prog_10_method_32_code [(0, [0x2a]), (1, [0x1b]), (2, [0xb6, 0x00, 0xa0]), (5, [0x3d]), (6, [0x03]), (7, [0x3e]), (8, [0x1d]), (9, [0x11, 0x00, 0xa0]), (12, [0xa2, 0x00, 0x2e]), (15, [0x1c]), (16, [0x99, 0x00, 0x2a]), (19, [0x2a]), (20, [0xb6, 0x00, 0x3f]), (23, [0x10, 0x2a]), (25, [0xa0, 0x00, 0x21]), (28, [0x2a]), (29, [0x59]), (30, [0xb4, 0x00, 0x2f]), (33, [0x04]), (34, [0x60]), (35, [0xb5, 0x00, 0x2f]), (38, [0x2a]), (39, [0x1b]), (40, [0xb6, 0x00, 0xa0])] := pf_ok prog_10_method_32_code _ 0 (by decide +kernel)
noncomputable def d_X8_readTerm_0 := gq_0 db00c_33 eb_0
noncomputable def d_X8_readTerm_1 := gq_1 db00c_33 eb_10
noncomputable def d_X8_readTerm_2 := gq_2 db00c_33 eb_553
noncomputable def d_X8_readTerm_5 := gq_3 db00c_33 eb_28
noncomputable def d_X8_readTerm_6 := gq_4 db00c_33 eb_22
noncomputable def d_X8_readTerm_7 := gq_5 db00c_33 eb_29
noncomputable def d_X8_readTerm_8 := gq_6 db00c_33 eb_30
noncomputable def d_X8_readTerm_9 := gq_7 db00c_33 eb_451
noncomputable def d_X8_readTerm_12 := gq_8 db00c_33 eb_32
noncomputable def d_X8_readTerm_15 := gq_9 db00c_33 eb_14
noncomputable def d_X8_readTerm_16 := gq_10 db00c_33 eb_534
noncomputable def d_X8_readTerm_19 := gq_11 db00c_33 eb_0
noncomputable def d_X8_readTerm_20 := gq_12 db00c_33 eb_361
noncomputable def d_X8_readTerm_23 := gq_13 db00c_33 eb_554
noncomputable def d_X8_readTerm_25 := gq_14 db00c_33 eb_536
noncomputable def d_X8_readTerm_28 := gq_15 db00c_33 eb_0
noncomputable def d_X8_readTerm_29 := gq_16 db00c_33 eb_47
noncomputable def d_X8_readTerm_30 := gq_17 db00c_33 eb_472
noncomputable def d_X8_readTerm_33 := gq_18 db00c_33 eb_20
noncomputable def d_X8_readTerm_34 := gq_19 db00c_33 eb_36
noncomputable def d_X8_readTerm_35 := gq_20 db00c_33 eb_469
noncomputable def d_X8_readTerm_38 := gq_21 db00c_33 eb_0
noncomputable def d_X8_readTerm_39 := gq_22 db00c_33 eb_10
noncomputable def d_X8_readTerm_40 := gq_23 db00c_33 eb_553
theorem db00c_34 : Pf_ prog_10_method_32_code [(43, [0x3d]), (44, [0x2a]), (45, [0x10, 0x07]), (47, [0x03]), (48, [0xb6, 0x00, 0x79]), (51, [0x57]), (52, [0x84, 0x03, 0x01]), (55, [0xa7, 0xff, 0xd1]), (58, [0x1c]), (59, [0xac])] := pf_ok prog_10_method_32_code _ 43 (by decide +kernel)
noncomputable def d_X8_readTerm_43 := gq_0 db00c_34 eb_28
noncomputable def d_X8_readTerm_44 := gq_1 db00c_34 eb_0
noncomputable def d_X8_readTerm_45 := gq_2 db00c_34 eb_133
noncomputable def d_X8_readTerm_47 := gq_3 db00c_34 eb_22
noncomputable def d_X8_readTerm_48 := gq_4 db00c_34 eb_515
noncomputable def d_X8_readTerm_51 := gq_5 db00c_34 eb_483
noncomputable def d_X8_readTerm_52 := gq_6 db00c_34 eb_43
noncomputable def d_X8_readTerm_55 := gq_7 db00c_34 eb_450
noncomputable def d_X8_readTerm_58 := gq_8 db00c_34 eb_14
noncomputable def d_X8_readTerm_59 := gq_9 db00c_34 eb_16
theorem db00c_35 : Pf_ prog_10_method_33_code [(0, [0x2a]), (1, [0xb6, 0x00, 0x3f]), (4, [0x3d]), (5, [0x1c]), (6, [0xb8, 0x00, 0x47]), (9, [0x99, 0x00, 0x1e]), (12, [0x2a]), (13, [0x03]), (14, [0x11, 0x27, 0x0f]), (17, [0xb6, 0x00, 0x55]), (20, [0x3e]), (21, [0x2a]), (22, [0x03]), (23, [0x1d]), (24, [0xb6, 0x00, 0x79]), (27, [0x57]), (28, [0x1d]), (29, [0x02]), (30, [0x9f, 0x00, 0x07]), (33, [0x04]), (34, [0xa7, 0x00, 0x04]), (37, [0x03]), (38, [0xac]), (39, [0x1c])] := pf_ok prog_10_method_33_code _ 0 (by decide +kernel)
noncomputable def d_X8_readAtom_0 := gq_0 db00c_35 eb_0
noncomputable def d_X8_readAtom_1 := gq_1 db00c_35 eb_361
noncomputable def d_X8_readAtom_4 := gq_2 db00c_35 eb_28
noncomputable def d_X8_readAtom_5 := gq_3 db00c_35 eb_14
noncomputable def d_X8_readAtom_6 := gq_4 db00c_35 eb_119
noncomputable def d_X8_readAtom_9 := gq_5 db00c_35 eb_555
noncomputable def d_X8_readAtom_12 := gq_6 db00c_35 eb_0
noncomputable def d_X8_readAtom_13 := gq_7 db00c_35 eb_22
noncomputable def d_X8_readAtom_14 := gq_8 db00c_35 eb_556
noncomputable def d_X8_readAtom_17 := gq_9 db00c_35 eb_486
noncomputable def d_X8_readAtom_20 := gq_10 db00c_35 eb_29
noncomputable def d_X8_readAtom_21 := gq_11 db00c_35 eb_0
noncomputable def d_X8_readAtom_22 := gq_12 db00c_35 eb_22
noncomputable def d_X8_readAtom_23 := gq_13 db00c_35 eb_30
noncomputable def d_X8_readAtom_24 := gq_14 db00c_35 eb_515
noncomputable def d_X8_readAtom_27 := gq_15 db00c_35 eb_483
noncomputable def d_X8_readAtom_28 := gq_16 db00c_35 eb_30
noncomputable def d_X8_readAtom_29 := gq_17 db00c_35 eb_27
noncomputable def d_X8_readAtom_30 := gq_18 db00c_35 eb_557
noncomputable def d_X8_readAtom_33 := gq_19 db00c_35 eb_20
noncomputable def d_X8_readAtom_34 := gq_20 db00c_35 eb_21
noncomputable def d_X8_readAtom_37 := gq_21 db00c_35 eb_22
noncomputable def d_X8_readAtom_38 := gq_22 db00c_35 eb_16
noncomputable def d_X8_readAtom_39 := gq_23 db00c_35 eb_14
theorem db00c_36 : Pf_ prog_10_method_33_code [(40, [0x10, 0x5b]), (42, [0xa0, 0x00, 0x31]), (45, [0x1b]), (46, [0x10, 0x06]), (48, [0xa1, 0x00, 0x08]), (51, [0x2a]), (52, [0xb6, 0x00, 0x43]), (55, [0xac]), (56, [0x2a]), (57, [0x59]), (58, [0xb4, 0x00, 0x2f]), (61, [0x04]), (62, [0x60]), (63, [0xb5, 0x00, 0x2f]), (66, [0x2a]), (67, [0x1b]), (68, [0x04]), (69, [0x60]), (70, [0xb6, 0x00, 0x89]), (73, [0x99, 0x00, 0x10]), (76, [0x2a]), (77, [0x10, 0x5d]), (79, [0xb6, 0x00, 0x62]), (82, [0x99, 0x00, 0x07])] := pf_ok prog_10_method_33_code _ 40 (by decide +kernel)
noncomputable def d_X8_readAtom_40 := gq_0 db00c_36 eb_558
noncomputable def d_X8_readAtom_42 := gq_1 db00c_36 eb_532
noncomputable def d_X8_readAtom_45 := gq_2 db00c_36 eb_10
noncomputable def d_X8_readAtom_46 := gq_3 db00c_36 eb_15
noncomputable def d_X8_readAtom_48 := gq_4 db00c_36 eb_351
noncomputable def d_X8_readAtom_51 := gq_5 db00c_36 eb_0
noncomputable def d_X8_readAtom_52 := gq_6 db00c_36 eb_218
noncomputable def d_X8_readAtom_55 := gq_7 db00c_36 eb_16
noncomputable def d_X8_readAtom_56 := gq_8 db00c_36 eb_0
noncomputable def d_X8_readAtom_57 := gq_9 db00c_36 eb_47
noncomputable def d_X8_readAtom_58 := gq_10 db00c_36 eb_472
noncomputable def d_X8_readAtom_61 := gq_11 db00c_36 eb_20
noncomputable def d_X8_readAtom_62 := gq_12 db00c_36 eb_36
noncomputable def d_X8_readAtom_63 := gq_13 db00c_36 eb_469
noncomputable def d_X8_readAtom_66 := gq_14 db00c_36 eb_0
noncomputable def d_X8_readAtom_67 := gq_15 db00c_36 eb_10
noncomputable def d_X8_readAtom_68 := gq_16 db00c_36 eb_20
noncomputable def d_X8_readAtom_69 := gq_17 db00c_36 eb_36
noncomputable def d_X8_readAtom_70 := gq_18 db00c_36 eb_524
noncomputable def d_X8_readAtom_73 := gq_19 db00c_36 eb_137
noncomputable def d_X8_readAtom_76 := gq_20 db00c_36 eb_0
noncomputable def d_X8_readAtom_77 := gq_21 db00c_36 eb_559
noncomputable def d_X8_readAtom_79 := gq_22 db00c_36 eb_494
noncomputable def d_X8_readAtom_82 := gq_23 db00c_36 eb_124
theorem db00c_37 : Pf_ prog_10_method_33_code [(85, [0x04]), (86, [0xa7, 0x00, 0x04]), (89, [0x03]), (90, [0xac]), (91, [0x1c]), (92, [0x02]), (93, [0xa0, 0x00, 0x07]), (96, [0x02]), (97, [0xa7, 0x00, 0x0c]), (100, [0x2a]), (101, [0xb4, 0x00, 0x11]), (104, [0x1c]), (105, [0x92]), (106, [0xb6, 0x00, 0x7e]), (109, [0x3e]), (110, [0x1d]), (111, [0x9c, 0x00, 0x08]), (114, [0x2a]), (115, [0xb6, 0x00, 0x43]), (118, [0xac]), (119, [0x2a]), (120, [0x59]), (121, [0xb4, 0x00, 0x2f]), (124, [0x04])] := pf_ok prog_10_method_33_code _ 85 (by decide +kernel)
noncomputable def d_X8_readAtom_85 := gq_0 db00c_37 eb_20
noncomputable def d_X8_readAtom_86 := gq_1 db00c_37 eb_21
noncomputable def d_X8_readAtom_89 := gq_2 db00c_37 eb_22
noncomputable def d_X8_readAtom_90 := gq_3 db00c_37 eb_16
noncomputable def d_X8_readAtom_91 := gq_4 db00c_37 eb_14
noncomputable def d_X8_readAtom_92 := gq_5 db00c_37 eb_27
noncomputable def d_X8_readAtom_93 := gq_6 db00c_37 eb_136
noncomputable def d_X8_readAtom_96 := gq_7 db00c_37 eb_27
noncomputable def d_X8_readAtom_97 := gq_8 db00c_37 eb_560
noncomputable def d_X8_readAtom_100 := gq_9 db00c_37 eb_0
noncomputable def d_X8_readAtom_101 := gq_10 db00c_37 eb_561
noncomputable def d_X8_readAtom_104 := gq_11 db00c_37 eb_14
noncomputable def d_X8_readAtom_105 := gq_12 db00c_37 eb_517
noncomputable def d_X8_readAtom_106 := gq_13 db00c_37 eb_518
noncomputable def d_X8_readAtom_109 := gq_14 db00c_37 eb_29
noncomputable def d_X8_readAtom_110 := gq_15 db00c_37 eb_30
noncomputable def d_X8_readAtom_111 := gq_16 db00c_37 eb_519
noncomputable def d_X8_readAtom_114 := gq_17 db00c_37 eb_0
noncomputable def d_X8_readAtom_115 := gq_18 db00c_37 eb_218
noncomputable def d_X8_readAtom_118 := gq_19 db00c_37 eb_16
noncomputable def d_X8_readAtom_119 := gq_20 db00c_37 eb_0
noncomputable def d_X8_readAtom_120 := gq_21 db00c_37 eb_47
noncomputable def d_X8_readAtom_121 := gq_22 db00c_37 eb_472
noncomputable def d_X8_readAtom_124 := gq_23 db00c_37 eb_20
theorem db00c_38 : Pf_ prog_10_method_33_code [(125, [0x60]), (126, [0xb5, 0x00, 0x2f]), (129, [0x2a]), (130, [0x04]), (131, [0x1d]), (132, [0xb6, 0x00, 0x79]), (135, [0x57]), (136, [0x04]), (137, [0xac])] := pf_ok prog_10_method_33_code _ 125 (by decide +kernel)
noncomputable def d_X8_readAtom_125 := gq_0 db00c_38 eb_36
noncomputable def d_X8_readAtom_126 := gq_1 db00c_38 eb_469
noncomputable def d_X8_readAtom_129 := gq_2 db00c_38 eb_0
noncomputable def d_X8_readAtom_130 := gq_3 db00c_38 eb_20
noncomputable def d_X8_readAtom_131 := gq_4 db00c_38 eb_30
noncomputable def d_X8_readAtom_132 := gq_5 db00c_38 eb_515
noncomputable def d_X8_readAtom_135 := gq_6 db00c_38 eb_483
noncomputable def d_X8_readAtom_136 := gq_7 db00c_38 eb_20
noncomputable def d_X8_readAtom_137 := gq_8 db00c_38 eb_16
theorem db00c_39 : Pf_ prog_11_method_1_code [(0, [0x2a]), (1, [0xb7, 0x00, 0x03]), (4, [0x2a]), (5, [0x11, 0x01, 0x00]), (8, [0xbc, 0x0a]), (10, [0xb5, 0x00, 0x09]), (13, [0x03]), (14, [0x3c]), (15, [0x1b]), (16, [0x2a]), (17, [0xb4, 0x00, 0x09]), (20, [0xbe]), (21, [0xa2, 0x00, 0x20]), (24, [0x2a]), (25, [0xb4, 0x00, 0x09]), (28, [0x1b]), (29, [0x1b]), (30, [0x10, 0x10]), (32, [0x6c]), (33, [0x1b]), (34, [0x10, 0x10]), (36, [0x70]), (37, [0xa0, 0x00, 0x07]), (40, [0x03])] := pf_ok prog_11_method_1_code _ 0 (by decide +kernel)
noncomputable def d_X9_init_0 := gq_0 db00c_39 eb_0
noncomputable def d_X9_init_1 := gq_1 db00c_39 eb_1
noncomputable def d_X9_init_4 := gq_2 db00c_39 eb_0
noncomputable def d_X9_init_5 := gq_3 db00c_39 eb_235
noncomputable def d_X9_init_8 := gq_4 db00c_39 eb_3
noncomputable def d_X9_init_10 := gq_5 db00c_39 eb_196
noncomputable def d_X9_init_13 := gq_6 db00c_39 eb_22
noncomputable def d_X9_init_14 := gq_7 db00c_39 eb_225
noncomputable def d_X9_init_15 := gq_8 db00c_39 eb_10
noncomputable def d_X9_init_16 := gq_9 db00c_39 eb_0
noncomputable def d_X9_init_17 := gq_10 db00c_39 eb_562
noncomputable def d_X9_init_20 := gq_11 db00c_39 eb_53
noncomputable def d_X9_init_21 := gq_12 db00c_39 eb_307
noncomputable def d_X9_init_24 := gq_13 db00c_39 eb_0
noncomputable def d_X9_init_25 := gq_14 db00c_39 eb_562
noncomputable def d_X9_init_28 := gq_15 db00c_39 eb_10
noncomputable def d_X9_init_29 := gq_16 db00c_39 eb_10
noncomputable def d_X9_init_30 := gq_17 db00c_39 eb_100
noncomputable def d_X9_init_32 := gq_18 db00c_39 eb_222
noncomputable def d_X9_init_33 := gq_19 db00c_39 eb_10
noncomputable def d_X9_init_34 := gq_20 db00c_39 eb_100
noncomputable def d_X9_init_36 := gq_21 db00c_39 eb_221
noncomputable def d_X9_init_37 := gq_22 db00c_39 eb_136
noncomputable def d_X9_init_40 := gq_23 db00c_39 eb_22
theorem db00c_40 : Pf_ prog_11_method_1_code [(41, [0xa7, 0x00, 0x05]), (44, [0x12, 0x0f]), (46, [0x4f]), (47, [0x84, 0x01, 0x01]), (50, [0xa7, 0xff, 0xdd]), (53, [0xb1])] := pf_ok prog_11_method_1_code _ 41 (by decide +kernel)
noncomputable def d_X9_init_41 := gq_0 db00c_40 eb_90
noncomputable def d_X9_init_44 := gq_1 db00c_40 eb_452
noncomputable def d_X9_init_46 := gq_2 db00c_40 eb_39
noncomputable def d_X9_init_47 := gq_3 db00c_40 eb_231
noncomputable def d_X9_init_50 := gq_4 db00c_40 eb_151
noncomputable def d_X9_init_53 := gq_5 db00c_40 eb_8
theorem db00c_41 : Pf_ prog_11_method_2_code [(0, [0x1b]), (1, [0xb8, 0x00, 0x10]), (4, [0x99, 0x00, 0x0a]), (7, [0x1c]), (8, [0xb8, 0x00, 0x10]), (11, [0x9a, 0x00, 0x05]), (14, [0x02]), (15, [0xac]), (16, [0x2a]), (17, [0xb4, 0x00, 0x09]), (20, [0x1b]), (21, [0x10, 0x10]), (23, [0x68]), (24, [0x1c]), (25, [0x60]), (26, [0x2e]), (27, [0x3e]), (28, [0x1d]), (29, [0x12, 0x0f]), (31, [0xa1, 0x00, 0x07]), (34, [0x02]), (35, [0xa7, 0x00, 0x04]), (38, [0x1d]), (39, [0xac])] := pf_ok prog_11_method_2_code _ 0 (by decide +kernel)
noncomputable def d_X9_minutes_0 := gq_0 db00c_41 eb_10
noncomputable def d_X9_minutes_1 := gq_1 db00c_41 eb_563
noncomputable def d_X9_minutes_4 := gq_2 db00c_41 eb_205
noncomputable def d_X9_minutes_7 := gq_3 db00c_41 eb_14
noncomputable def d_X9_minutes_8 := gq_4 db00c_41 eb_563
noncomputable def d_X9_minutes_11 := gq_5 db00c_41 eb_152
noncomputable def d_X9_minutes_14 := gq_6 db00c_41 eb_27
noncomputable def d_X9_minutes_15 := gq_7 db00c_41 eb_16
noncomputable def d_X9_minutes_16 := gq_8 db00c_41 eb_0
noncomputable def d_X9_minutes_17 := gq_9 db00c_41 eb_562
noncomputable def d_X9_minutes_20 := gq_10 db00c_41 eb_10
noncomputable def d_X9_minutes_21 := gq_11 db00c_41 eb_100
noncomputable def d_X9_minutes_23 := gq_12 db00c_41 eb_35
noncomputable def d_X9_minutes_24 := gq_13 db00c_41 eb_14
noncomputable def d_X9_minutes_25 := gq_14 db00c_41 eb_36
noncomputable def d_X9_minutes_26 := gq_15 db00c_41 eb_38
noncomputable def d_X9_minutes_27 := gq_16 db00c_41 eb_29
noncomputable def d_X9_minutes_28 := gq_17 db00c_41 eb_30
noncomputable def d_X9_minutes_29 := gq_18 db00c_41 eb_452
noncomputable def d_X9_minutes_31 := gq_19 db00c_41 eb_156
noncomputable def d_X9_minutes_34 := gq_20 db00c_41 eb_27
noncomputable def d_X9_minutes_35 := gq_21 db00c_41 eb_21
noncomputable def d_X9_minutes_38 := gq_22 db00c_41 eb_30
noncomputable def d_X9_minutes_39 := gq_23 db00c_41 eb_16
theorem db00c_42 : Pf_ prog_11_method_3_code [(0, [0x2a]), (1, [0xb4, 0x00, 0x14]), (4, [0x10, 0x28]), (6, [0xa1, 0x00, 0x05]), (9, [0x02]), (10, [0xac]), (11, [0x03]), (12, [0x36, 0x04]), (14, [0x15, 0x04]), (16, [0x10, 0x10]), (18, [0xa2, 0x00, 0x75]), (21, [0x03]), (22, [0x36, 0x05]), (24, [0x15, 0x05]), (26, [0x10, 0x10]), (28, [0xa2, 0x00, 0x65]), (31, [0x2a]), (32, [0xb4, 0x00, 0x09]), (35, [0x15, 0x04]), (37, [0x10, 0x10]), (39, [0x68]), (40, [0x1b]), (41, [0x60]), (42, [0x2e])] := pf_ok prog_11_method_3_code _ 0 (by decide +kernel)
noncomputable def d_X9_lay_0 := gq_0 db00c_42 eb_0
noncomputable def d_X9_lay_1 := gq_1 db00c_42 eb_564
noncomputable def d_X9_lay_4 := gq_2 db00c_42 eb_317
noncomputable def d_X9_lay_6 := gq_3 db00c_42 eb_115
noncomputable def d_X9_lay_9 := gq_4 db00c_42 eb_27
noncomputable def d_X9_lay_10 := gq_5 db00c_42 eb_16
noncomputable def d_X9_lay_11 := gq_6 db00c_42 eb_22
noncomputable def d_X9_lay_12 := gq_7 db00c_42 eb_134
noncomputable def d_X9_lay_14 := gq_8 db00c_42 eb_77
noncomputable def d_X9_lay_16 := gq_9 db00c_42 eb_100
noncomputable def d_X9_lay_18 := gq_10 db00c_42 eb_565
noncomputable def d_X9_lay_21 := gq_11 db00c_42 eb_22
noncomputable def d_X9_lay_22 := gq_12 db00c_42 eb_135
noncomputable def d_X9_lay_24 := gq_13 db00c_42 eb_126
noncomputable def d_X9_lay_26 := gq_14 db00c_42 eb_100
noncomputable def d_X9_lay_28 := gq_15 db00c_42 eb_343
noncomputable def d_X9_lay_31 := gq_16 db00c_42 eb_0
noncomputable def d_X9_lay_32 := gq_17 db00c_42 eb_562
noncomputable def d_X9_lay_35 := gq_18 db00c_42 eb_77
noncomputable def d_X9_lay_37 := gq_19 db00c_42 eb_100
noncomputable def d_X9_lay_39 := gq_20 db00c_42 eb_35
noncomputable def d_X9_lay_40 := gq_21 db00c_42 eb_10
noncomputable def d_X9_lay_41 := gq_22 db00c_42 eb_36
noncomputable def d_X9_lay_42 := gq_23 db00c_42 eb_38
theorem db00c_43 : Pf_ prog_11_method_3_code [(43, [0x1d]), (44, [0x60]), (45, [0x2a]), (46, [0xb4, 0x00, 0x09]), (49, [0x1c]), (50, [0x10, 0x10]), (52, [0x68]), (53, [0x15, 0x05]), (55, [0x60]), (56, [0x2e]), (57, [0x60]), (58, [0x36, 0x06]), (60, [0x2a]), (61, [0xb4, 0x00, 0x09]), (64, [0x15, 0x04]), (66, [0x10, 0x10]), (68, [0x68]), (69, [0x1c]), (70, [0x60]), (71, [0x2e]), (72, [0x1d]), (73, [0x60]), (74, [0x2a]), (75, [0xb4, 0x00, 0x09])] := pf_ok prog_11_method_3_code _ 43 (by decide +kernel)
noncomputable def d_X9_lay_43 := gq_0 db00c_43 eb_30
noncomputable def d_X9_lay_44 := gq_1 db00c_43 eb_36
noncomputable def d_X9_lay_45 := gq_2 db00c_43 eb_0
noncomputable def d_X9_lay_46 := gq_3 db00c_43 eb_562
noncomputable def d_X9_lay_49 := gq_4 db00c_43 eb_14
noncomputable def d_X9_lay_50 := gq_5 db00c_43 eb_100
noncomputable def d_X9_lay_52 := gq_6 db00c_43 eb_35
noncomputable def d_X9_lay_53 := gq_7 db00c_43 eb_126
noncomputable def d_X9_lay_55 := gq_8 db00c_43 eb_36
noncomputable def d_X9_lay_56 := gq_9 db00c_43 eb_38
noncomputable def d_X9_lay_57 := gq_10 db00c_43 eb_36
noncomputable def d_X9_lay_58 := gq_11 db00c_43 eb_59
noncomputable def d_X9_lay_60 := gq_12 db00c_43 eb_0
noncomputable def d_X9_lay_61 := gq_13 db00c_43 eb_562
noncomputable def d_X9_lay_64 := gq_14 db00c_43 eb_77
noncomputable def d_X9_lay_66 := gq_15 db00c_43 eb_100
noncomputable def d_X9_lay_68 := gq_16 db00c_43 eb_35
noncomputable def d_X9_lay_69 := gq_17 db00c_43 eb_14
noncomputable def d_X9_lay_70 := gq_18 db00c_43 eb_36
noncomputable def d_X9_lay_71 := gq_19 db00c_43 eb_38
noncomputable def d_X9_lay_72 := gq_20 db00c_43 eb_30
noncomputable def d_X9_lay_73 := gq_21 db00c_43 eb_36
noncomputable def d_X9_lay_74 := gq_22 db00c_43 eb_0
noncomputable def d_X9_lay_75 := gq_23 db00c_43 eb_562
theorem db00c_44 : Pf_ prog_11_method_3_code [(78, [0x1b]), (79, [0x10, 0x10]), (81, [0x68]), (82, [0x15, 0x05]), (84, [0x60]), (85, [0x2e]), (86, [0x60]), (87, [0x36, 0x07]), (89, [0x15, 0x04]), (91, [0x10, 0x10]), (93, [0x68]), (94, [0x15, 0x05]), (96, [0x60]), (97, [0x36, 0x08]), (99, [0x2a]), (100, [0xb4, 0x00, 0x09]), (103, [0x15, 0x08]), (105, [0x2a]), (106, [0xb4, 0x00, 0x09]), (109, [0x15, 0x08]), (111, [0x2e]), (112, [0x15, 0x06]), (114, [0x15, 0x07]), (116, [0xb8, 0x00, 0x18])] := pf_ok prog_11_method_3_code _ 78 (by decide +kernel)
noncomputable def d_X9_lay_78 := gq_0 db00c_44 eb_10
noncomputable def d_X9_lay_79 := gq_1 db00c_44 eb_100
noncomputable def d_X9_lay_81 := gq_2 db00c_44 eb_35
noncomputable def d_X9_lay_82 := gq_3 db00c_44 eb_126
noncomputable def d_X9_lay_84 := gq_4 db00c_44 eb_36
noncomputable def d_X9_lay_85 := gq_5 db00c_44 eb_38
noncomputable def d_X9_lay_86 := gq_6 db00c_44 eb_36
noncomputable def d_X9_lay_87 := gq_7 db00c_44 eb_60
noncomputable def d_X9_lay_89 := gq_8 db00c_44 eb_77
noncomputable def d_X9_lay_91 := gq_9 db00c_44 eb_100
noncomputable def d_X9_lay_93 := gq_10 db00c_44 eb_35
noncomputable def d_X9_lay_94 := gq_11 db00c_44 eb_126
noncomputable def d_X9_lay_96 := gq_12 db00c_44 eb_36
noncomputable def d_X9_lay_97 := gq_13 db00c_44 eb_62
noncomputable def d_X9_lay_99 := gq_14 db00c_44 eb_0
noncomputable def d_X9_lay_100 := gq_15 db00c_44 eb_562
noncomputable def d_X9_lay_103 := gq_16 db00c_44 eb_65
noncomputable def d_X9_lay_105 := gq_17 db00c_44 eb_0
noncomputable def d_X9_lay_106 := gq_18 db00c_44 eb_562
noncomputable def d_X9_lay_109 := gq_19 db00c_44 eb_65
noncomputable def d_X9_lay_111 := gq_20 db00c_44 eb_38
noncomputable def d_X9_lay_112 := gq_21 db00c_44 eb_76
noncomputable def d_X9_lay_114 := gq_22 db00c_44 eb_74
noncomputable def d_X9_lay_116 := gq_23 db00c_44 eb_566
theorem db00c_45 : Pf_ prog_11_method_3_code [(119, [0xb8, 0x00, 0x18]), (122, [0x4f]), (123, [0x84, 0x05, 0x01]), (126, [0xa7, 0xff, 0x9a]), (129, [0x84, 0x04, 0x01]), (132, [0xa7, 0xff, 0x8a]), (135, [0x2a]), (136, [0x59]), (137, [0xb4, 0x00, 0x14]), (140, [0x04]), (141, [0x60]), (142, [0xb5, 0x00, 0x14]), (145, [0x2a]), (146, [0xb4, 0x00, 0x14]), (149, [0x04]), (150, [0x64]), (151, [0xac])] := pf_ok prog_11_method_3_code _ 119 (by decide +kernel)
noncomputable def d_X9_lay_119 := gq_0 db00c_45 eb_566
noncomputable def d_X9_lay_122 := gq_1 db00c_45 eb_39
noncomputable def d_X9_lay_123 := gq_2 db00c_45 eb_223
noncomputable def d_X9_lay_126 := gq_3 db00c_45 eb_567
noncomputable def d_X9_lay_129 := gq_4 db00c_45 eb_146
noncomputable def d_X9_lay_132 := gq_5 db00c_45 eb_568
noncomputable def d_X9_lay_135 := gq_6 db00c_45 eb_0
noncomputable def d_X9_lay_136 := gq_7 db00c_45 eb_47
noncomputable def d_X9_lay_137 := gq_8 db00c_45 eb_564
noncomputable def d_X9_lay_140 := gq_9 db00c_45 eb_20
noncomputable def d_X9_lay_141 := gq_10 db00c_45 eb_36
noncomputable def d_X9_lay_142 := gq_11 db00c_45 eb_569
noncomputable def d_X9_lay_145 := gq_12 db00c_45 eb_0
noncomputable def d_X9_lay_146 := gq_13 db00c_45 eb_564
noncomputable def d_X9_lay_149 := gq_14 db00c_45 eb_20
noncomputable def d_X9_lay_150 := gq_15 db00c_45 eb_49
noncomputable def d_X9_lay_151 := gq_16 db00c_45 eb_16
theorem db00c_46 : Pf_ prog_12_method_1_code [(0, [0x2a]), (1, [0xb7, 0x00, 0x03]), (4, [0x2a]), (5, [0x10, 0x14]), (7, [0xbc, 0x0a]), (9, [0xb5, 0x00, 0x0b]), (12, [0x2a]), (13, [0x10, 0x14]), (15, [0xbc, 0x0a]), (17, [0xb5, 0x00, 0x0f]), (20, [0x2a]), (21, [0x10, 0x14]), (23, [0xbc, 0x0a]), (25, [0xb5, 0x00, 0x12]), (28, [0x2a]), (29, [0x11, 0x0c, 0xd0]), (32, [0xbc, 0x0a]), (34, [0xb5, 0x00, 0x15]), (37, [0x2a]), (38, [0x11, 0x00, 0xa4]), (41, [0xbc, 0x0a]), (43, [0xb5, 0x00, 0x18]), (46, [0xb1])] := pf_ok prog_12_method_1_code _ 0 (by decide +kernel)
noncomputable def d_X10_init_0 := gq_0 db00c_46 eb_0
noncomputable def d_X10_init_1 := gq_1 db00c_46 eb_1
noncomputable def d_X10_init_4 := gq_2 db00c_46 eb_0
noncomputable def d_X10_init_5 := gq_3 db00c_46 eb_495
noncomputable def d_X10_init_7 := gq_4 db00c_46 eb_3
noncomputable def d_X10_init_9 := gq_5 db00c_46 eb_4
noncomputable def d_X10_init_12 := gq_6 db00c_46 eb_0
noncomputable def d_X10_init_13 := gq_7 db00c_46 eb_495
noncomputable def d_X10_init_15 := gq_8 db00c_46 eb_3
noncomputable def d_X10_init_17 := gq_9 db00c_46 eb_6
noncomputable def d_X10_init_20 := gq_10 db00c_46 eb_0
noncomputable def d_X10_init_21 := gq_11 db00c_46 eb_495
noncomputable def d_X10_init_23 := gq_12 db00c_46 eb_3
noncomputable def d_X10_init_25 := gq_13 db00c_46 eb_7
noncomputable def d_X10_init_28 := gq_14 db00c_46 eb_0
noncomputable def d_X10_init_29 := gq_15 db00c_46 eb_570
noncomputable def d_X10_init_32 := gq_16 db00c_46 eb_3
noncomputable def d_X10_init_34 := gq_17 db00c_46 eb_48
noncomputable def d_X10_init_37 := gq_18 db00c_46 eb_0
noncomputable def d_X10_init_38 := gq_19 db00c_46 eb_455
noncomputable def d_X10_init_41 := gq_20 db00c_46 eb_3
noncomputable def d_X10_init_43 := gq_21 db00c_46 eb_96
noncomputable def d_X10_init_46 := gq_22 db00c_46 eb_8
theorem db00c_47 : Pf_ prog_12_method_2_code [(0, [0x1a]), (1, [0x1b]), (2, [0x07]), (3, [0x78]), (4, [0x80]), (5, [0xac])] := pf_ok prog_12_method_2_code _ 0 (by decide +kernel)
noncomputable def d_X10_pack_0 := gq_0 db00c_47 eb_9
noncomputable def d_X10_pack_1 := gq_1 db00c_47 eb_10
noncomputable def d_X10_pack_2 := gq_2 db00c_47 eb_294
noncomputable def d_X10_pack_3 := gq_3 db00c_47 eb_12
noncomputable def d_X10_pack_4 := gq_4 db00c_47 eb_13
noncomputable def d_X10_pack_5 := gq_5 db00c_47 eb_16
theorem db00c_48 : Pf_ prog_12_method_3_code [(0, [0x2a]), (1, [0xb4, 0x00, 0x1b]), (4, [0x10, 0x14]), (6, [0xa1, 0x00, 0x05]), (9, [0x02]), (10, [0xac]), (11, [0x2a]), (12, [0xb4, 0x00, 0x0b]), (15, [0x2a]), (16, [0xb4, 0x00, 0x1b]), (19, [0x1b]), (20, [0x4f]), (21, [0x2a]), (22, [0xb4, 0x00, 0x0f]), (25, [0x2a]), (26, [0xb4, 0x00, 0x1b]), (29, [0x1c]), (30, [0x4f]), (31, [0x2a]), (32, [0xb4, 0x00, 0x12]), (35, [0x2a]), (36, [0xb4, 0x00, 0x1b]), (39, [0x2d]), (40, [0xb4, 0x00, 0x1f])] := pf_ok prog_12_method_3_code _ 0 (by decide +kernel)
noncomputable def d_X10_keep_0 := gq_0 db00c_48 eb_0
noncomputable def d_X10_keep_1 := gq_1 db00c_48 eb_122
noncomputable def d_X10_keep_4 := gq_2 db00c_48 eb_495
noncomputable def d_X10_keep_6 := gq_3 db00c_48 eb_115
noncomputable def d_X10_keep_9 := gq_4 db00c_48 eb_27
noncomputable def d_X10_keep_10 := gq_5 db00c_48 eb_16
noncomputable def d_X10_keep_11 := gq_6 db00c_48 eb_0
noncomputable def d_X10_keep_12 := gq_7 db00c_48 eb_33
noncomputable def d_X10_keep_15 := gq_8 db00c_48 eb_0
noncomputable def d_X10_keep_16 := gq_9 db00c_48 eb_122
noncomputable def d_X10_keep_19 := gq_10 db00c_48 eb_10
noncomputable def d_X10_keep_20 := gq_11 db00c_48 eb_39
noncomputable def d_X10_keep_21 := gq_12 db00c_48 eb_0
noncomputable def d_X10_keep_22 := gq_13 db00c_48 eb_45
noncomputable def d_X10_keep_25 := gq_14 db00c_48 eb_0
noncomputable def d_X10_keep_26 := gq_15 db00c_48 eb_122
noncomputable def d_X10_keep_29 := gq_16 db00c_48 eb_14
noncomputable def d_X10_keep_30 := gq_17 db00c_48 eb_39
noncomputable def d_X10_keep_31 := gq_18 db00c_48 eb_0
noncomputable def d_X10_keep_32 := gq_19 db00c_48 eb_46
noncomputable def d_X10_keep_35 := gq_20 db00c_48 eb_0
noncomputable def d_X10_keep_36 := gq_21 db00c_48 eb_122
noncomputable def d_X10_keep_39 := gq_22 db00c_48 eb_315
noncomputable def d_X10_keep_40 := gq_23 db00c_48 eb_31
theorem db00c_49 : Pf_ prog_12_method_3_code [(43, [0x4f]), (44, [0x2d]), (45, [0xb4, 0x00, 0x24]), (48, [0x03]), (49, [0x2a]), (50, [0xb4, 0x00, 0x15]), (53, [0x2a]), (54, [0xb4, 0x00, 0x1b]), (57, [0x11, 0x00, 0xa4]), (60, [0x68]), (61, [0x2d]), (62, [0xb4, 0x00, 0x1f]), (65, [0xb8, 0x00, 0x27]), (68, [0x2a]), (69, [0x59]), (70, [0xb4, 0x00, 0x1b]), (73, [0x04]), (74, [0x60]), (75, [0xb5, 0x00, 0x1b]), (78, [0x2a]), (79, [0xb4, 0x00, 0x1b]), (82, [0x04]), (83, [0x64]), (84, [0xac])] := pf_ok prog_12_method_3_code _ 43 (by decide +kernel)
noncomputable def d_X10_keep_43 := gq_0 db00c_49 eb_39
noncomputable def d_X10_keep_44 := gq_1 db00c_49 eb_315
noncomputable def d_X10_keep_45 := gq_2 db00c_49 eb_177
noncomputable def d_X10_keep_48 := gq_3 db00c_49 eb_22
noncomputable def d_X10_keep_49 := gq_4 db00c_49 eb_0
noncomputable def d_X10_keep_50 := gq_5 db00c_49 eb_18
noncomputable def d_X10_keep_53 := gq_6 db00c_49 eb_0
noncomputable def d_X10_keep_54 := gq_7 db00c_49 eb_122
noncomputable def d_X10_keep_57 := gq_8 db00c_49 eb_455
noncomputable def d_X10_keep_60 := gq_9 db00c_49 eb_35
noncomputable def d_X10_keep_61 := gq_10 db00c_49 eb_315
noncomputable def d_X10_keep_62 := gq_11 db00c_49 eb_31
noncomputable def d_X10_keep_65 := gq_12 db00c_49 eb_571
noncomputable def d_X10_keep_68 := gq_13 db00c_49 eb_0
noncomputable def d_X10_keep_69 := gq_14 db00c_49 eb_47
noncomputable def d_X10_keep_70 := gq_15 db00c_49 eb_122
noncomputable def d_X10_keep_73 := gq_16 db00c_49 eb_20
noncomputable def d_X10_keep_74 := gq_17 db00c_49 eb_36
noncomputable def d_X10_keep_75 := gq_18 db00c_49 eb_98
noncomputable def d_X10_keep_78 := gq_19 db00c_49 eb_0
noncomputable def d_X10_keep_79 := gq_20 db00c_49 eb_122
noncomputable def d_X10_keep_82 := gq_21 db00c_49 eb_20
noncomputable def d_X10_keep_83 := gq_22 db00c_49 eb_49
noncomputable def d_X10_keep_84 := gq_23 db00c_49 eb_16
theorem db00c_50 : Pf_ prog_12_method_4_code [(0, [0x02]), (1, [0x3e]), (2, [0x03]), (3, [0x36, 0x04]), (5, [0x15, 0x04]), (7, [0x2a]), (8, [0xb4, 0x00, 0x1b]), (11, [0xa2, 0x00, 0x37]), (14, [0x2a]), (15, [0xb4, 0x00, 0x0f]), (18, [0x15, 0x04]), (20, [0x2e]), (21, [0x1c]), (22, [0xa3, 0x00, 0x26]), (25, [0x2a]), (26, [0xb4, 0x00, 0x0b]), (29, [0x15, 0x04]), (31, [0x2e]), (32, [0x1b]), (33, [0xa3, 0x00, 0x1b]), (36, [0x1d]), (37, [0x02]), (38, [0x9f, 0x00, 0x13]), (41, [0x2a])] := pf_ok prog_12_method_4_code _ 0 (by decide +kernel)
noncomputable def d_X10_inForce_0 := gq_0 db00c_50 eb_27
noncomputable def d_X10_inForce_1 := gq_1 db00c_50 eb_29
noncomputable def d_X10_inForce_2 := gq_2 db00c_50 eb_22
noncomputable def d_X10_inForce_3 := gq_3 db00c_50 eb_134
noncomputable def d_X10_inForce_5 := gq_4 db00c_50 eb_77
noncomputable def d_X10_inForce_7 := gq_5 db00c_50 eb_0
noncomputable def d_X10_inForce_8 := gq_6 db00c_50 eb_122
noncomputable def d_X10_inForce_11 := gq_7 db00c_50 eb_572
noncomputable def d_X10_inForce_14 := gq_8 db00c_50 eb_0
noncomputable def d_X10_inForce_15 := gq_9 db00c_50 eb_45
noncomputable def d_X10_inForce_18 := gq_10 db00c_50 eb_77
noncomputable def d_X10_inForce_20 := gq_11 db00c_50 eb_38
noncomputable def d_X10_inForce_21 := gq_12 db00c_50 eb_14
noncomputable def d_X10_inForce_22 := gq_13 db00c_50 eb_573
noncomputable def d_X10_inForce_25 := gq_14 db00c_50 eb_0
noncomputable def d_X10_inForce_26 := gq_15 db00c_50 eb_33
noncomputable def d_X10_inForce_29 := gq_16 db00c_50 eb_77
noncomputable def d_X10_inForce_31 := gq_17 db00c_50 eb_38
noncomputable def d_X10_inForce_32 := gq_18 db00c_50 eb_10
noncomputable def d_X10_inForce_33 := gq_19 db00c_50 eb_574
noncomputable def d_X10_inForce_36 := gq_20 db00c_50 eb_30
noncomputable def d_X10_inForce_37 := gq_21 db00c_50 eb_27
noncomputable def d_X10_inForce_38 := gq_22 db00c_50 eb_575
noncomputable def d_X10_inForce_41 := gq_23 db00c_50 eb_0
theorem db00c_51 : Pf_ prog_12_method_4_code [(42, [0xb4, 0x00, 0x0b]), (45, [0x15, 0x04]), (47, [0x2e]), (48, [0x2a]), (49, [0xb4, 0x00, 0x0b]), (52, [0x1d]), (53, [0x2e]), (54, [0xa1, 0x00, 0x06]), (57, [0x15, 0x04]), (59, [0x3e]), (60, [0x84, 0x04, 0x01]), (63, [0xa7, 0xff, 0xc6]), (66, [0x1d]), (67, [0xac])] := pf_ok prog_12_method_4_code _ 42 (by decide +kernel)
noncomputable def d_X10_inForce_42 := gq_0 db00c_51 eb_33
noncomputable def d_X10_inForce_45 := gq_1 db00c_51 eb_77
noncomputable def d_X10_inForce_47 := gq_2 db00c_51 eb_38
noncomputable def d_X10_inForce_48 := gq_3 db00c_51 eb_0
noncomputable def d_X10_inForce_49 := gq_4 db00c_51 eb_33
noncomputable def d_X10_inForce_52 := gq_5 db00c_51 eb_30
noncomputable def d_X10_inForce_53 := gq_6 db00c_51 eb_38
noncomputable def d_X10_inForce_54 := gq_7 db00c_51 eb_449
noncomputable def d_X10_inForce_57 := gq_8 db00c_51 eb_77
noncomputable def d_X10_inForce_59 := gq_9 db00c_51 eb_29
noncomputable def d_X10_inForce_60 := gq_10 db00c_51 eb_146
noncomputable def d_X10_inForce_63 := gq_11 db00c_51 eb_576
noncomputable def d_X10_inForce_66 := gq_12 db00c_51 eb_30
noncomputable def d_X10_inForce_67 := gq_13 db00c_51 eb_16
theorem db00c_52 : Pf_ prog_12_method_5_code [(0, [0x1b]), (1, [0x03]), (2, [0x2a]), (3, [0xb4, 0x00, 0x1b]), (6, [0x04]), (7, [0x64]), (8, [0xb8, 0x00, 0x2d]), (11, [0x9a, 0x00, 0x05]), (14, [0x03]), (15, [0xac]), (16, [0x03]), (17, [0x36, 0x04]), (19, [0x03]), (20, [0x36, 0x05]), (22, [0x15, 0x05]), (24, [0x2a]), (25, [0xb4, 0x00, 0x12]), (28, [0x1b]), (29, [0x2e]), (30, [0xa2, 0x00, 0xe6]), (33, [0x2a]), (34, [0xb4, 0x00, 0x15]), (37, [0x1b]), (38, [0x11, 0x00, 0xa4])] := pf_ok prog_12_method_5_code _ 0 (by decide +kernel)
noncomputable def d_X10_answer_0 := gq_0 db00c_52 eb_10
noncomputable def d_X10_answer_1 := gq_1 db00c_52 eb_22
noncomputable def d_X10_answer_2 := gq_2 db00c_52 eb_0
noncomputable def d_X10_answer_3 := gq_3 db00c_52 eb_122
noncomputable def d_X10_answer_6 := gq_4 db00c_52 eb_20
noncomputable def d_X10_answer_7 := gq_5 db00c_52 eb_49
noncomputable def d_X10_answer_8 := gq_6 db00c_52 eb_577
noncomputable def d_X10_answer_11 := gq_7 db00c_52 eb_152
noncomputable def d_X10_answer_14 := gq_8 db00c_52 eb_22
noncomputable def d_X10_answer_15 := gq_9 db00c_52 eb_16
noncomputable def d_X10_answer_16 := gq_10 db00c_52 eb_22
noncomputable def d_X10_answer_17 := gq_11 db00c_52 eb_134
noncomputable def d_X10_answer_19 := gq_12 db00c_52 eb_22
noncomputable def d_X10_answer_20 := gq_13 db00c_52 eb_135
noncomputable def d_X10_answer_22 := gq_14 db00c_52 eb_126
noncomputable def d_X10_answer_24 := gq_15 db00c_52 eb_0
noncomputable def d_X10_answer_25 := gq_16 db00c_52 eb_46
noncomputable def d_X10_answer_28 := gq_17 db00c_52 eb_10
noncomputable def d_X10_answer_29 := gq_18 db00c_52 eb_38
noncomputable def d_X10_answer_30 := gq_19 db00c_52 eb_578
noncomputable def d_X10_answer_33 := gq_20 db00c_52 eb_0
noncomputable def d_X10_answer_34 := gq_21 db00c_52 eb_18
noncomputable def d_X10_answer_37 := gq_22 db00c_52 eb_10
noncomputable def d_X10_answer_38 := gq_23 db00c_52 eb_455
theorem db00c_53 : Pf_ prog_12_method_5_code [(41, [0x68]), (42, [0x15, 0x05]), (44, [0x60]), (45, [0x2e]), (46, [0x10, 0x0f]), (48, [0x7e]), (49, [0x36, 0x06]), (51, [0x2a]), (52, [0xb4, 0x00, 0x15]), (55, [0x1b]), (56, [0x11, 0x00, 0xa4]), (59, [0x68]), (60, [0x15, 0x05]), (62, [0x60]), (63, [0x2e]), (64, [0x07]), (65, [0x7a]), (66, [0x36, 0x07]), (68, [0x15, 0x06]), (70, [0x99, 0x00, 0x09]), (73, [0x15, 0x06]), (75, [0x04]), (76, [0xa0, 0x00, 0x2e]), (79, [0x15, 0x04])] := pf_ok prog_12_method_5_code _ 41 (by decide +kernel)
noncomputable def d_X10_answer_41 := gq_0 db00c_53 eb_35
noncomputable def d_X10_answer_42 := gq_1 db00c_53 eb_126
noncomputable def d_X10_answer_44 := gq_2 db00c_53 eb_36
noncomputable def d_X10_answer_45 := gq_3 db00c_53 eb_38
noncomputable def d_X10_answer_46 := gq_4 db00c_53 eb_58
noncomputable def d_X10_answer_48 := gq_5 db00c_53 eb_56
noncomputable def d_X10_answer_49 := gq_6 db00c_53 eb_59
noncomputable def d_X10_answer_51 := gq_7 db00c_53 eb_0
noncomputable def d_X10_answer_52 := gq_8 db00c_53 eb_18
noncomputable def d_X10_answer_55 := gq_9 db00c_53 eb_10
noncomputable def d_X10_answer_56 := gq_10 db00c_53 eb_455
noncomputable def d_X10_answer_59 := gq_11 db00c_53 eb_35
noncomputable def d_X10_answer_60 := gq_12 db00c_53 eb_126
noncomputable def d_X10_answer_62 := gq_13 db00c_53 eb_36
noncomputable def d_X10_answer_63 := gq_14 db00c_53 eb_38
noncomputable def d_X10_answer_64 := gq_15 db00c_53 eb_294
noncomputable def d_X10_answer_65 := gq_16 db00c_53 eb_57
noncomputable def d_X10_answer_66 := gq_17 db00c_53 eb_60
noncomputable def d_X10_answer_68 := gq_18 db00c_53 eb_76
noncomputable def d_X10_answer_70 := gq_19 db00c_53 eb_252
noncomputable def d_X10_answer_73 := gq_20 db00c_53 eb_76
noncomputable def d_X10_answer_75 := gq_21 db00c_53 eb_20
noncomputable def d_X10_answer_76 := gq_22 db00c_53 eb_579
noncomputable def d_X10_answer_79 := gq_23 db00c_53 eb_77
theorem db00c_54 : Pf_ prog_12_method_5_code [(81, [0x2a]), (82, [0xb4, 0x00, 0x18]), (85, [0xbe]), (86, [0xa1, 0x00, 0x05]), (89, [0x03]), (90, [0xac]), (91, [0x2a]), (92, [0xb4, 0x00, 0x18]), (95, [0x15, 0x04]), (97, [0x15, 0x06]), (99, [0x9a, 0x00, 0x08]), (102, [0x15, 0x07]), (104, [0xa7, 0x00, 0x0b]), (107, [0x2c]), (108, [0x1d]), (109, [0x15, 0x07]), (111, [0x60]), (112, [0xb8, 0x00, 0x31]), (115, [0x4f]), (116, [0x84, 0x04, 0x01]), (119, [0xa7, 0x00, 0x87]), (122, [0x15, 0x06]), (124, [0x08]), (125, [0xa1, 0x00, 0x2f])] := pf_ok prog_12_method_5_code _ 81 (by decide +kernel)
noncomputable def d_X10_answer_81 := gq_0 db00c_54 eb_0
noncomputable def d_X10_answer_82 := gq_1 db00c_54 eb_109
noncomputable def d_X10_answer_85 := gq_2 db00c_54 eb_53
noncomputable def d_X10_answer_86 := gq_3 db00c_54 eb_115
noncomputable def d_X10_answer_89 := gq_4 db00c_54 eb_22
noncomputable def d_X10_answer_90 := gq_5 db00c_54 eb_16
noncomputable def d_X10_answer_91 := gq_6 db00c_54 eb_0
noncomputable def d_X10_answer_92 := gq_7 db00c_54 eb_109
noncomputable def d_X10_answer_95 := gq_8 db00c_54 eb_77
noncomputable def d_X10_answer_97 := gq_9 db00c_54 eb_76
noncomputable def d_X10_answer_99 := gq_10 db00c_54 eb_543
noncomputable def d_X10_answer_102 := gq_11 db00c_54 eb_74
noncomputable def d_X10_answer_104 := gq_12 db00c_54 eb_580
noncomputable def d_X10_answer_107 := gq_13 db00c_54 eb_304
noncomputable def d_X10_answer_108 := gq_14 db00c_54 eb_30
noncomputable def d_X10_answer_109 := gq_15 db00c_54 eb_74
noncomputable def d_X10_answer_111 := gq_16 db00c_54 eb_36
noncomputable def d_X10_answer_112 := gq_17 db00c_54 eb_581
noncomputable def d_X10_answer_115 := gq_18 db00c_54 eb_39
noncomputable def d_X10_answer_116 := gq_19 db00c_54 eb_146
noncomputable def d_X10_answer_119 := gq_20 db00c_54 eb_582
noncomputable def d_X10_answer_122 := gq_21 db00c_54 eb_76
noncomputable def d_X10_answer_124 := gq_22 db00c_54 eb_123
noncomputable def d_X10_answer_125 := gq_23 db00c_54 eb_583
theorem db00c_55 : Pf_ prog_12_method_5_code [(128, [0x15, 0x04]), (130, [0x05]), (131, [0xa2, 0x00, 0x05]), (134, [0x03]), (135, [0xac]), (136, [0x84, 0x04, 0xff]), (139, [0x2a]), (140, [0xb4, 0x00, 0x18]), (143, [0x15, 0x04]), (145, [0x04]), (146, [0x64]), (147, [0x15, 0x06]), (149, [0x2a]), (150, [0xb4, 0x00, 0x18]), (153, [0x15, 0x04]), (155, [0x04]), (156, [0x64]), (157, [0x2e]), (158, [0x2a]), (159, [0xb4, 0x00, 0x18]), (162, [0x15, 0x04]), (164, [0x2e]), (165, [0xb8, 0x00, 0x35]), (168, [0x4f])] := pf_ok prog_12_method_5_code _ 128 (by decide +kernel)
noncomputable def d_X10_answer_128 := gq_0 db00c_55 eb_77
noncomputable def d_X10_answer_130 := gq_1 db00c_55 eb_11
noncomputable def d_X10_answer_131 := gq_2 db00c_55 eb_584
noncomputable def d_X10_answer_134 := gq_3 db00c_55 eb_22
noncomputable def d_X10_answer_135 := gq_4 db00c_55 eb_16
noncomputable def d_X10_answer_136 := gq_5 db00c_55 eb_421
noncomputable def d_X10_answer_139 := gq_6 db00c_55 eb_0
noncomputable def d_X10_answer_140 := gq_7 db00c_55 eb_109
noncomputable def d_X10_answer_143 := gq_8 db00c_55 eb_77
noncomputable def d_X10_answer_145 := gq_9 db00c_55 eb_20
noncomputable def d_X10_answer_146 := gq_10 db00c_55 eb_49
noncomputable def d_X10_answer_147 := gq_11 db00c_55 eb_76
noncomputable def d_X10_answer_149 := gq_12 db00c_55 eb_0
noncomputable def d_X10_answer_150 := gq_13 db00c_55 eb_109
noncomputable def d_X10_answer_153 := gq_14 db00c_55 eb_77
noncomputable def d_X10_answer_155 := gq_15 db00c_55 eb_20
noncomputable def d_X10_answer_156 := gq_16 db00c_55 eb_49
noncomputable def d_X10_answer_157 := gq_17 db00c_55 eb_38
noncomputable def d_X10_answer_158 := gq_18 db00c_55 eb_0
noncomputable def d_X10_answer_159 := gq_19 db00c_55 eb_109
noncomputable def d_X10_answer_162 := gq_20 db00c_55 eb_77
noncomputable def d_X10_answer_164 := gq_21 db00c_55 eb_38
noncomputable def d_X10_answer_165 := gq_22 db00c_55 eb_585
noncomputable def d_X10_answer_168 := gq_23 db00c_55 eb_39
theorem db00c_56 : Pf_ prog_12_method_5_code [(169, [0xa7, 0x00, 0x55]), (172, [0x15, 0x04]), (174, [0x04]), (175, [0xa2, 0x00, 0x05]), (178, [0x03]), (179, [0xac]), (180, [0x15, 0x06]), (182, [0x05]), (183, [0xa0, 0x00, 0x1a]), (186, [0x2a]), (187, [0xb4, 0x00, 0x18]), (190, [0x15, 0x04]), (192, [0x04]), (193, [0x64]), (194, [0x04]), (195, [0x2a]), (196, [0xb4, 0x00, 0x18]), (199, [0x15, 0x04]), (201, [0x04]), (202, [0x64]), (203, [0x2e]), (204, [0x64]), (205, [0x4f]), (206, [0xa7, 0x00, 0x30])] := pf_ok prog_12_method_5_code _ 169 (by decide +kernel)
noncomputable def d_X10_answer_169 := gq_0 db00c_56 eb_586
noncomputable def d_X10_answer_172 := gq_1 db00c_56 eb_77
noncomputable def d_X10_answer_174 := gq_2 db00c_56 eb_20
noncomputable def d_X10_answer_175 := gq_3 db00c_56 eb_584
noncomputable def d_X10_answer_178 := gq_4 db00c_56 eb_22
noncomputable def d_X10_answer_179 := gq_5 db00c_56 eb_16
noncomputable def d_X10_answer_180 := gq_6 db00c_56 eb_76
noncomputable def d_X10_answer_182 := gq_7 db00c_56 eb_11
noncomputable def d_X10_answer_183 := gq_8 db00c_56 eb_282
noncomputable def d_X10_answer_186 := gq_9 db00c_56 eb_0
noncomputable def d_X10_answer_187 := gq_10 db00c_56 eb_109
noncomputable def d_X10_answer_190 := gq_11 db00c_56 eb_77
noncomputable def d_X10_answer_192 := gq_12 db00c_56 eb_20
noncomputable def d_X10_answer_193 := gq_13 db00c_56 eb_49
noncomputable def d_X10_answer_194 := gq_14 db00c_56 eb_20
noncomputable def d_X10_answer_195 := gq_15 db00c_56 eb_0
noncomputable def d_X10_answer_196 := gq_16 db00c_56 eb_109
noncomputable def d_X10_answer_199 := gq_17 db00c_56 eb_77
noncomputable def d_X10_answer_201 := gq_18 db00c_56 eb_20
noncomputable def d_X10_answer_202 := gq_19 db00c_56 eb_49
noncomputable def d_X10_answer_203 := gq_20 db00c_56 eb_38
noncomputable def d_X10_answer_204 := gq_21 db00c_56 eb_49
noncomputable def d_X10_answer_205 := gq_22 db00c_56 eb_39
noncomputable def d_X10_answer_206 := gq_23 db00c_56 eb_587
theorem db00c_57 : Pf_ prog_12_method_5_code [(209, [0x15, 0x06]), (211, [0x07]), (212, [0xa0, 0x00, 0x0d]), (215, [0x2a]), (216, [0xb4, 0x00, 0x18]), (219, [0x15, 0x04]), (221, [0x04]), (222, [0x64]), (223, [0x2e]), (224, [0xac]), (225, [0x84, 0x04, 0xff]), (228, [0x2a]), (229, [0xb4, 0x00, 0x18]), (232, [0x15, 0x04]), (234, [0x2e]), (235, [0x9a, 0x00, 0x0f]), (238, [0x15, 0x05]), (240, [0x15, 0x07]), (242, [0x04]), (243, [0x64]), (244, [0xb8, 0x00, 0x39]), (247, [0xa7, 0x00, 0x05]), (250, [0x15, 0x05]), (252, [0x36, 0x05])] := pf_ok prog_12_method_5_code _ 209 (by decide +kernel)
noncomputable def d_X10_answer_209 := gq_0 db00c_57 eb_76
noncomputable def d_X10_answer_211 := gq_1 db00c_57 eb_294
noncomputable def d_X10_answer_212 := gq_2 db00c_57 eb_440
noncomputable def d_X10_answer_215 := gq_3 db00c_57 eb_0
noncomputable def d_X10_answer_216 := gq_4 db00c_57 eb_109
noncomputable def d_X10_answer_219 := gq_5 db00c_57 eb_77
noncomputable def d_X10_answer_221 := gq_6 db00c_57 eb_20
noncomputable def d_X10_answer_222 := gq_7 db00c_57 eb_49
noncomputable def d_X10_answer_223 := gq_8 db00c_57 eb_38
noncomputable def d_X10_answer_224 := gq_9 db00c_57 eb_16
noncomputable def d_X10_answer_225 := gq_10 db00c_57 eb_421
noncomputable def d_X10_answer_228 := gq_11 db00c_57 eb_0
noncomputable def d_X10_answer_229 := gq_12 db00c_57 eb_109
noncomputable def d_X10_answer_232 := gq_13 db00c_57 eb_77
noncomputable def d_X10_answer_234 := gq_14 db00c_57 eb_38
noncomputable def d_X10_answer_235 := gq_15 db00c_57 eb_482
noncomputable def d_X10_answer_238 := gq_16 db00c_57 eb_126
noncomputable def d_X10_answer_240 := gq_17 db00c_57 eb_74
noncomputable def d_X10_answer_242 := gq_18 db00c_57 eb_20
noncomputable def d_X10_answer_243 := gq_19 db00c_57 eb_49
noncomputable def d_X10_answer_244 := gq_20 db00c_57 eb_84
noncomputable def d_X10_answer_247 := gq_21 db00c_57 eb_90
noncomputable def d_X10_answer_250 := gq_22 db00c_57 eb_126
noncomputable def d_X10_answer_252 := gq_23 db00c_57 eb_135
theorem db00c_58 : Pf_ prog_12_method_5_code [(254, [0x84, 0x05, 0x01]), (257, [0xa7, 0xff, 0x15]), (260, [0x03]), (261, [0xac])] := pf_ok prog_12_method_5_code _ 254 (by decide +kernel)
noncomputable def d_X10_answer_254 := gq_0 db00c_58 eb_223
noncomputable def d_X10_answer_257 := gq_1 db00c_58 eb_588
noncomputable def d_X10_answer_260 := gq_2 db00c_58 eb_22
noncomputable def d_X10_answer_261 := gq_3 db00c_58 eb_16
theorem db00c_59 : Pf_ prog_12_method_6_code [(0, [0x1b]), (1, [0x03]), (2, [0x2a]), (3, [0xbe]), (4, [0x04]), (5, [0x64]), (6, [0xb8, 0x00, 0x2d]), (9, [0x99, 0x00, 0x09]), (12, [0x2a]), (13, [0x1b]), (14, [0x2e]), (15, [0xa7, 0x00, 0x04]), (18, [0x03]), (19, [0xac])] := pf_ok prog_12_method_6_code _ 0 (by decide +kernel)
noncomputable def d_X10_valueOf_0 := gq_0 db00c_59 eb_10
noncomputable def d_X10_valueOf_1 := gq_1 db00c_59 eb_22
noncomputable def d_X10_valueOf_2 := gq_2 db00c_59 eb_0
noncomputable def d_X10_valueOf_3 := gq_3 db00c_59 eb_53
noncomputable def d_X10_valueOf_4 := gq_4 db00c_59 eb_20
noncomputable def d_X10_valueOf_5 := gq_5 db00c_59 eb_49
noncomputable def d_X10_valueOf_6 := gq_6 db00c_59 eb_577
noncomputable def d_X10_valueOf_9 := gq_7 db00c_59 eb_252
noncomputable def d_X10_valueOf_12 := gq_8 db00c_59 eb_0
noncomputable def d_X10_valueOf_13 := gq_9 db00c_59 eb_10
noncomputable def d_X10_valueOf_14 := gq_10 db00c_59 eb_38
noncomputable def d_X10_valueOf_15 := gq_11 db00c_59 eb_21
noncomputable def d_X10_valueOf_18 := gq_12 db00c_59 eb_22
noncomputable def d_X10_valueOf_19 := gq_13 db00c_59 eb_16
theorem d_X10_combine_1 : decode prog_12_method_7_code 1 = .ok (.tableswitch 107 5 11 #[43, 52, 61, 70, 81, 92, 103], 43) := by decide +kernel
theorem db00c_60 : Pf_ prog_12_method_7_code [(0, [0x1a]), (44, [0x1b]), (45, [0x85]), (46, [0x1c]), (47, [0x85]), (48, [0x61]), (49, [0xb8, 0x00, 0x3f]), (52, [0xac]), (53, [0x1b]), (54, [0x85]), (55, [0x1c]), (56, [0x85]), (57, [0x65]), (58, [0xb8, 0x00, 0x3f]), (61, [0xac]), (62, [0x1b]), (63, [0x85]), (64, [0x1c]), (65, [0x85]), (66, [0x69]), (67, [0xb8, 0x00, 0x3f]), (70, [0xac]), (71, [0x1b]), (72, [0x1c])] := pf_ok prog_12_method_7_code _ 0 (by decide +kernel)
noncomputable def d_X10_combine_0 := gq_0 db00c_60 eb_9
noncomputable def d_X10_combine_44 := gq_1 db00c_60 eb_10
noncomputable def d_X10_combine_45 := gq_2 db00c_60 eb_393
noncomputable def d_X10_combine_46 := gq_3 db00c_60 eb_14
noncomputable def d_X10_combine_47 := gq_4 db00c_60 eb_393
noncomputable def d_X10_combine_48 := gq_5 db00c_60 eb_396
noncomputable def d_X10_combine_49 := gq_6 db00c_60 eb_589
noncomputable def d_X10_combine_52 := gq_7 db00c_60 eb_16
noncomputable def d_X10_combine_53 := gq_8 db00c_60 eb_10
noncomputable def d_X10_combine_54 := gq_9 db00c_60 eb_393
noncomputable def d_X10_combine_55 := gq_10 db00c_60 eb_14
noncomputable def d_X10_combine_56 := gq_11 db00c_60 eb_393
noncomputable def d_X10_combine_57 := gq_12 db00c_60 eb_590
noncomputable def d_X10_combine_58 := gq_13 db00c_60 eb_589
noncomputable def d_X10_combine_61 := gq_14 db00c_60 eb_16
noncomputable def d_X10_combine_62 := gq_15 db00c_60 eb_10
noncomputable def d_X10_combine_63 := gq_16 db00c_60 eb_393
noncomputable def d_X10_combine_64 := gq_17 db00c_60 eb_14
noncomputable def d_X10_combine_65 := gq_18 db00c_60 eb_393
noncomputable def d_X10_combine_66 := gq_19 db00c_60 eb_395
noncomputable def d_X10_combine_67 := gq_20 db00c_60 eb_589
noncomputable def d_X10_combine_70 := gq_21 db00c_60 eb_16
noncomputable def d_X10_combine_71 := gq_22 db00c_60 eb_10
noncomputable def d_X10_combine_72 := gq_23 db00c_60 eb_14
theorem db00c_61 : Pf_ prog_12_method_7_code [(73, [0xa0, 0x00, 0x07]), (76, [0x04]), (77, [0xa7, 0x00, 0x04]), (80, [0x03]), (81, [0xac]), (82, [0x1b]), (83, [0x1c]), (84, [0xa2, 0x00, 0x07]), (87, [0x04]), (88, [0xa7, 0x00, 0x04]), (91, [0x03]), (92, [0xac]), (93, [0x1b]), (94, [0x1c]), (95, [0xa4, 0x00, 0x07]), (98, [0x04]), (99, [0xa7, 0x00, 0x04]), (102, [0x03]), (103, [0xac]), (104, [0x1b]), (105, [0x1c]), (106, [0x7e]), (107, [0xac]), (108, [0x1b])] := pf_ok prog_12_method_7_code _ 73 (by decide +kernel)
noncomputable def d_X10_combine_73 := gq_0 db00c_61 eb_136
noncomputable def d_X10_combine_76 := gq_1 db00c_61 eb_20
noncomputable def d_X10_combine_77 := gq_2 db00c_61 eb_21
noncomputable def d_X10_combine_80 := gq_3 db00c_61 eb_22
noncomputable def d_X10_combine_81 := gq_4 db00c_61 eb_16
noncomputable def d_X10_combine_82 := gq_5 db00c_61 eb_10
noncomputable def d_X10_combine_83 := gq_6 db00c_61 eb_14
noncomputable def d_X10_combine_84 := gq_7 db00c_61 eb_19
noncomputable def d_X10_combine_87 := gq_8 db00c_61 eb_20
noncomputable def d_X10_combine_88 := gq_9 db00c_61 eb_21
noncomputable def d_X10_combine_91 := gq_10 db00c_61 eb_22
noncomputable def d_X10_combine_92 := gq_11 db00c_61 eb_16
noncomputable def d_X10_combine_93 := gq_12 db00c_61 eb_10
noncomputable def d_X10_combine_94 := gq_13 db00c_61 eb_14
noncomputable def d_X10_combine_95 := gq_14 db00c_61 eb_591
noncomputable def d_X10_combine_98 := gq_15 db00c_61 eb_20
noncomputable def d_X10_combine_99 := gq_16 db00c_61 eb_21
noncomputable def d_X10_combine_102 := gq_17 db00c_61 eb_22
noncomputable def d_X10_combine_103 := gq_18 db00c_61 eb_16
noncomputable def d_X10_combine_104 := gq_19 db00c_61 eb_10
noncomputable def d_X10_combine_105 := gq_20 db00c_61 eb_14
noncomputable def d_X10_combine_106 := gq_21 db00c_61 eb_56
noncomputable def d_X10_combine_107 := gq_22 db00c_61 eb_16
noncomputable def d_X10_combine_108 := gq_23 db00c_61 eb_10
theorem db00c_62 : Pf_ prog_12_method_7_code [(109, [0x1c]), (110, [0x80]), (111, [0xac])] := pf_ok prog_12_method_7_code _ 109 (by decide +kernel)
noncomputable def d_X10_combine_109 := gq_0 db00c_62 eb_14
noncomputable def d_X10_combine_110 := gq_1 db00c_62 eb_13
noncomputable def d_X10_combine_111 := gq_2 db00c_62 eb_16
theorem db00c_63 : Pf_ prog_12_method_8_code [(0, [0x1e]), (1, [0x14, 0x00, 0x43]), (4, [0x94]), (5, [0x9e, 0x00, 0x08]), (8, [0x12, 0x45]), (10, [0xa7, 0x00, 0x12]), (13, [0x1e]), (14, [0x14, 0x00, 0x46]), (17, [0x94]), (18, [0x9c, 0x00, 0x08]), (21, [0x12, 0x48]), (23, [0xa7, 0x00, 0x05]), (26, [0x1e]), (27, [0x88]), (28, [0xac])] := pf_ok prog_12_method_8_code _ 0 (by decide +kernel)
noncomputable def d_X10_bounded_0 := gq_0 db00c_63 eb_592
noncomputable def d_X10_bounded_1 := gq_1 db00c_63 eb_593
noncomputable def d_X10_bounded_4 := gq_2 db00c_63 eb_594
noncomputable def d_X10_bounded_5 := gq_3 db00c_63 eb_595
noncomputable def d_X10_bounded_8 := gq_4 db00c_63 eb_596
noncomputable def d_X10_bounded_10 := gq_5 db00c_63 eb_157
noncomputable def d_X10_bounded_13 := gq_6 db00c_63 eb_592
noncomputable def d_X10_bounded_14 := gq_7 db00c_63 eb_597
noncomputable def d_X10_bounded_17 := gq_8 db00c_63 eb_594
noncomputable def d_X10_bounded_18 := gq_9 db00c_63 eb_519
noncomputable def d_X10_bounded_21 := gq_10 db00c_63 eb_598
noncomputable def d_X10_bounded_23 := gq_11 db00c_63 eb_90
noncomputable def d_X10_bounded_26 := gq_12 db00c_63 eb_592
noncomputable def d_X10_bounded_27 := gq_13 db00c_63 eb_402
noncomputable def d_X10_bounded_28 := gq_14 db00c_63 eb_16
theorem db00c_64 : Pf_ prog_1_method_1_code [(0, [0x2a]), (1, [0xb7, 0x00, 0x01]), (4, [0x2a]), (5, [0xbb, 0x00, 0x07]), (8, [0x59]), (9, [0xb7, 0x00, 0x09]), (12, [0xb5, 0x00, 0x0a]), (15, [0x2a]), (16, [0xbb, 0x00, 0x10]), (19, [0x59]), (20, [0xb7, 0x00, 0x12]), (23, [0xb5, 0x00, 0x13]), (26, [0x2a]), (27, [0xbb, 0x00, 0x17]), (30, [0x59]), (31, [0xb7, 0x00, 0x19]), (34, [0xb5, 0x00, 0x1a]), (37, [0x2a]), (38, [0xbb, 0x00, 0x1e]), (41, [0x59]), (42, [0xb7, 0x00, 0x20]), (45, [0xb5, 0x00, 0x21]), (48, [0x2a]), (49, [0xbb, 0x00, 0x1e])] := pf_ok prog_1_method_1_code _ 0 (by decide +kernel)
noncomputable def d_X11_init_0 := gq_0 db00c_64 eb_0
noncomputable def d_X11_init_1 := gq_1 db00c_64 eb_599
noncomputable def d_X11_init_4 := gq_2 db00c_64 eb_0
noncomputable def d_X11_init_5 := gq_3 db00c_64 eb_600
noncomputable def d_X11_init_8 := gq_4 db00c_64 eb_47
noncomputable def d_X11_init_9 := gq_5 db00c_64 eb_601
noncomputable def d_X11_init_12 := gq_6 db00c_64 eb_602
noncomputable def d_X11_init_15 := gq_7 db00c_64 eb_0
noncomputable def d_X11_init_16 := gq_8 db00c_64 eb_603
noncomputable def d_X11_init_19 := gq_9 db00c_64 eb_47
noncomputable def d_X11_init_20 := gq_10 db00c_64 eb_604
noncomputable def d_X11_init_23 := gq_11 db00c_64 eb_605
noncomputable def d_X11_init_26 := gq_12 db00c_64 eb_0
noncomputable def d_X11_init_27 := gq_13 db00c_64 eb_606
noncomputable def d_X11_init_30 := gq_14 db00c_64 eb_47
noncomputable def d_X11_init_31 := gq_15 db00c_64 eb_607
noncomputable def d_X11_init_34 := gq_16 db00c_64 eb_200
noncomputable def d_X11_init_37 := gq_17 db00c_64 eb_0
noncomputable def d_X11_init_38 := gq_18 db00c_64 eb_608
noncomputable def d_X11_init_41 := gq_19 db00c_64 eb_47
noncomputable def d_X11_init_42 := gq_20 db00c_64 eb_609
noncomputable def d_X11_init_45 := gq_21 db00c_64 eb_101
noncomputable def d_X11_init_48 := gq_22 db00c_64 eb_0
noncomputable def d_X11_init_49 := gq_23 db00c_64 eb_608
theorem db00c_65 : Pf_ prog_1_method_1_code [(52, [0x59]), (53, [0xb7, 0x00, 0x20]), (56, [0xb5, 0x00, 0x25]), (59, [0x2a]), (60, [0x10, 0x0c]), (62, [0xbd, 0x00, 0x28]), (65, [0xb5, 0x00, 0x2a]), (68, [0x2a]), (69, [0xbb, 0x00, 0x2e]), (72, [0x59]), (73, [0xb7, 0x00, 0x30]), (76, [0xb5, 0x00, 0x31]), (79, [0x2a]), (80, [0xbb, 0x00, 0x35]), (83, [0x59]), (84, [0xb7, 0x00, 0x37]), (87, [0xb5, 0x00, 0x38]), (90, [0x2a]), (91, [0xbb, 0x00, 0x3c]), (94, [0x59]), (95, [0xb7, 0x00, 0x3e]), (98, [0xb5, 0x00, 0x3f]), (101, [0x2a]), (102, [0xbb, 0x00, 0x43])] := pf_ok prog_1_method_1_code _ 52 (by decide +kernel)
noncomputable def d_X11_init_52 := gq_0 db00c_65 eb_47
noncomputable def d_X11_init_53 := gq_1 db00c_65 eb_609
noncomputable def d_X11_init_56 := gq_2 db00c_65 eb_269
noncomputable def d_X11_init_59 := gq_3 db00c_65 eb_0
noncomputable def d_X11_init_60 := gq_4 db00c_65 eb_5
noncomputable def d_X11_init_62 := gq_5 db00c_65 eb_610
noncomputable def d_X11_init_65 := gq_6 db00c_65 eb_105
noncomputable def d_X11_init_68 := gq_7 db00c_65 eb_0
noncomputable def d_X11_init_69 := gq_8 db00c_65 eb_611
noncomputable def d_X11_init_72 := gq_9 db00c_65 eb_47
noncomputable def d_X11_init_73 := gq_10 db00c_65 eb_612
noncomputable def d_X11_init_76 := gq_11 db00c_65 eb_273
noncomputable def d_X11_init_79 := gq_12 db00c_65 eb_0
noncomputable def d_X11_init_80 := gq_13 db00c_65 eb_613
noncomputable def d_X11_init_83 := gq_14 db00c_65 eb_47
noncomputable def d_X11_init_84 := gq_15 db00c_65 eb_614
noncomputable def d_X11_init_87 := gq_16 db00c_65 eb_471
noncomputable def d_X11_init_90 := gq_17 db00c_65 eb_0
noncomputable def d_X11_init_91 := gq_18 db00c_65 eb_615
noncomputable def d_X11_init_94 := gq_19 db00c_65 eb_47
noncomputable def d_X11_init_95 := gq_20 db00c_65 eb_616
noncomputable def d_X11_init_98 := gq_21 db00c_65 eb_289
noncomputable def d_X11_init_101 := gq_22 db00c_65 eb_0
noncomputable def d_X11_init_102 := gq_23 db00c_65 eb_617
theorem db00c_66 : Pf_ prog_1_method_1_code [(105, [0x59]), (106, [0xb7, 0x00, 0x45]), (109, [0xb5, 0x00, 0x46]), (112, [0x2a]), (113, [0xbb, 0x00, 0x4a]), (116, [0x59]), (117, [0xb7, 0x00, 0x4c]), (120, [0xb5, 0x00, 0x4d]), (123, [0x2a]), (124, [0xbb, 0x00, 0x51]), (127, [0x59]), (128, [0xb7, 0x00, 0x53]), (131, [0xb5, 0x00, 0x54]), (134, [0x2a]), (135, [0x03]), (136, [0xbc, 0x0b]), (138, [0xb5, 0x00, 0x58]), (141, [0xb1])] := pf_ok prog_1_method_1_code _ 105 (by decide +kernel)
noncomputable def d_X11_init_105 := gq_0 db00c_66 eb_47
noncomputable def d_X11_init_106 := gq_1 db00c_66 eb_618
noncomputable def d_X11_init_109 := gq_2 db00c_66 eb_302
noncomputable def d_X11_init_112 := gq_3 db00c_66 eb_0
noncomputable def d_X11_init_113 := gq_4 db00c_66 eb_619
noncomputable def d_X11_init_116 := gq_5 db00c_66 eb_47
noncomputable def d_X11_init_117 := gq_6 db00c_66 eb_620
noncomputable def d_X11_init_120 := gq_7 db00c_66 eb_621
noncomputable def d_X11_init_123 := gq_8 db00c_66 eb_0
noncomputable def d_X11_init_124 := gq_9 db00c_66 eb_622
noncomputable def d_X11_init_127 := gq_10 db00c_66 eb_47
noncomputable def d_X11_init_128 := gq_11 db00c_66 eb_623
noncomputable def d_X11_init_131 := gq_12 db00c_66 eb_624
noncomputable def d_X11_init_134 := gq_13 db00c_66 eb_0
noncomputable def d_X11_init_135 := gq_14 db00c_66 eb_22
noncomputable def d_X11_init_136 := gq_15 db00c_66 eb_352
noncomputable def d_X11_init_138 := gq_16 db00c_66 eb_625
noncomputable def d_X11_init_141 := gq_17 db00c_66 eb_8
theorem db00c_67 : Pf_ prog_1_method_2_code [(0, [0x1a]), (1, [0x1b]), (2, [0xa1, 0x00, 0x0c]), (5, [0x1a]), (6, [0x1c]), (7, [0xa3, 0x00, 0x07]), (10, [0x04]), (11, [0xa7, 0x00, 0x04]), (14, [0x03]), (15, [0xac])] := pf_ok prog_1_method_2_code _ 0 (by decide +kernel)
noncomputable def d_X11_within_0 := gq_0 db00c_67 eb_9
noncomputable def d_X11_within_1 := gq_1 db00c_67 eb_10
noncomputable def d_X11_within_2 := gq_2 db00c_67 eb_626
noncomputable def d_X11_within_5 := gq_3 db00c_67 eb_9
noncomputable def d_X11_within_6 := gq_4 db00c_67 eb_14
noncomputable def d_X11_within_7 := gq_5 db00c_67 eb_114
noncomputable def d_X11_within_10 := gq_6 db00c_67 eb_20
noncomputable def d_X11_within_11 := gq_7 db00c_67 eb_21
noncomputable def d_X11_within_14 := gq_8 db00c_67 eb_22
noncomputable def d_X11_within_15 := gq_9 db00c_67 eb_16
theorem db00c_68 : Pf_ prog_1_method_3_code [(0, [0x1a]), (1, [0x9b, 0x00, 0x0d]), (4, [0x1a]), (5, [0x10, 0x10]), (7, [0xa2, 0x00, 0x07]), (10, [0x04]), (11, [0xa7, 0x00, 0x04]), (14, [0x03]), (15, [0xac])] := pf_ok prog_1_method_3_code _ 0 (by decide +kernel)
noncomputable def d_X11_isPlace_0 := gq_0 db00c_68 eb_9
noncomputable def d_X11_isPlace_1 := gq_1 db00c_68 eb_627
noncomputable def d_X11_isPlace_4 := gq_2 db00c_68 eb_9
noncomputable def d_X11_isPlace_5 := gq_3 db00c_68 eb_100
noncomputable def d_X11_isPlace_7 := gq_4 db00c_68 eb_19
noncomputable def d_X11_isPlace_10 := gq_5 db00c_68 eb_20
noncomputable def d_X11_isPlace_11 := gq_6 db00c_68 eb_21
noncomputable def d_X11_isPlace_14 := gq_7 db00c_68 eb_22
noncomputable def d_X11_isPlace_15 := gq_8 db00c_68 eb_16
theorem db00c_69 : Pf_ prog_1_method_4_code [(0, [0x1b]), (1, [0x03]), (2, [0x2a]), (3, [0xb4, 0x00, 0x5c]), (6, [0xb8, 0x00, 0x60]), (9, [0xac])] := pf_ok prog_1_method_4_code _ 0 (by decide +kernel)
noncomputable def d_X11_isKnown_0 := gq_0 db00c_69 eb_10
noncomputable def d_X11_isKnown_1 := gq_1 db00c_69 eb_22
noncomputable def d_X11_isKnown_2 := gq_2 db00c_69 eb_0
noncomputable def d_X11_isKnown_3 := gq_3 db00c_69 eb_628
noncomputable def d_X11_isKnown_6 := gq_4 db00c_69 eb_629
noncomputable def d_X11_isKnown_9 := gq_5 db00c_69 eb_16
theorem db00c_70 : Pf_ prog_1_method_5_code [(0, [0x2a]), (1, [0x1b]), (2, [0xb6, 0x00, 0x64]), (5, [0xc6, 0x00, 0x07]), (8, [0x04]), (9, [0xa7, 0x00, 0x04]), (12, [0x03]), (13, [0xac])] := pf_ok prog_1_method_5_code _ 0 (by decide +kernel)
noncomputable def d_X11_isMan_0 := gq_0 db00c_70 eb_0
noncomputable def d_X11_isMan_1 := gq_1 db00c_70 eb_10
noncomputable def d_X11_isMan_2 := gq_2 db00c_70 eb_168
noncomputable def d_X11_isMan_5 := gq_3 db00c_70 eb_630
noncomputable def d_X11_isMan_8 := gq_4 db00c_70 eb_20
noncomputable def d_X11_isMan_9 := gq_5 db00c_70 eb_21
noncomputable def d_X11_isMan_12 := gq_6 db00c_70 eb_22
noncomputable def d_X11_isMan_13 := gq_7 db00c_70 eb_16
theorem db00c_71 : Pf_ prog_1_method_6_code [(0, [0x1b]), (1, [0x03]), (2, [0x2a]), (3, [0xb4, 0x00, 0x68]), (6, [0x04]), (7, [0x64]), (8, [0xb8, 0x00, 0x60]), (11, [0x99, 0x00, 0x0c]), (14, [0x2a]), (15, [0xb4, 0x00, 0x2a]), (18, [0x1b]), (19, [0x32]), (20, [0xa7, 0x00, 0x04]), (23, [0x01]), (24, [0xb0])] := pf_ok prog_1_method_6_code _ 0 (by decide +kernel)
noncomputable def d_X11_manOf_0 := gq_0 db00c_71 eb_10
noncomputable def d_X11_manOf_1 := gq_1 db00c_71 eb_22
noncomputable def d_X11_manOf_2 := gq_2 db00c_71 eb_0
noncomputable def d_X11_manOf_3 := gq_3 db00c_71 eb_406
noncomputable def d_X11_manOf_6 := gq_4 db00c_71 eb_20
noncomputable def d_X11_manOf_7 := gq_5 db00c_71 eb_49
noncomputable def d_X11_manOf_8 := gq_6 db00c_71 eb_629
noncomputable def d_X11_manOf_11 := gq_7 db00c_71 eb_51
noncomputable def d_X11_manOf_14 := gq_8 db00c_71 eb_0
noncomputable def d_X11_manOf_15 := gq_9 db00c_71 eb_179
noncomputable def d_X11_manOf_18 := gq_10 db00c_71 eb_10
noncomputable def d_X11_manOf_19 := gq_11 db00c_71 eb_631
noncomputable def d_X11_manOf_20 := gq_12 db00c_71 eb_21
noncomputable def d_X11_manOf_23 := gq_13 db00c_71 eb_632
noncomputable def d_X11_manOf_24 := gq_14 db00c_71 eb_633
theorem db00c_72 : Pf_ prog_1_method_7_code [(0, [0x1b]), (1, [0xb8, 0x00, 0x6b]), (4, [0x99, 0x00, 0x19]), (7, [0x1c]), (8, [0xb8, 0x00, 0x6b]), (11, [0x99, 0x00, 0x12]), (14, [0x1b]), (15, [0x1c]), (16, [0x9f, 0x00, 0x0d]), (19, [0x1d]), (20, [0x04]), (21, [0x10, 0x3c]), (23, [0xb8, 0x00, 0x60]), (26, [0x9a, 0x00, 0x05]), (29, [0x02]), (30, [0xac]), (31, [0x2a]), (32, [0xb4, 0x00, 0x0a]), (35, [0x1b]), (36, [0x1c]), (37, [0x1d]), (38, [0xb6, 0x00, 0x6f]), (41, [0xac])] := pf_ok prog_1_method_7_code _ 0 (by decide +kernel)
noncomputable def d_X11_path_0 := gq_0 db00c_72 eb_10
noncomputable def d_X11_path_1 := gq_1 db00c_72 eb_634
noncomputable def d_X11_path_4 := gq_2 db00c_72 eb_296
noncomputable def d_X11_path_7 := gq_3 db00c_72 eb_14
noncomputable def d_X11_path_8 := gq_4 db00c_72 eb_634
noncomputable def d_X11_path_11 := gq_5 db00c_72 eb_140
noncomputable def d_X11_path_14 := gq_6 db00c_72 eb_10
noncomputable def d_X11_path_15 := gq_7 db00c_72 eb_14
noncomputable def d_X11_path_16 := gq_8 db00c_72 eb_149
noncomputable def d_X11_path_19 := gq_9 db00c_72 eb_30
noncomputable def d_X11_path_20 := gq_10 db00c_72 eb_20
noncomputable def d_X11_path_21 := gq_11 db00c_72 eb_293
noncomputable def d_X11_path_23 := gq_12 db00c_72 eb_629
noncomputable def d_X11_path_26 := gq_13 db00c_72 eb_152
noncomputable def d_X11_path_29 := gq_14 db00c_72 eb_27
noncomputable def d_X11_path_30 := gq_15 db00c_72 eb_16
noncomputable def d_X11_path_31 := gq_16 db00c_72 eb_0
noncomputable def d_X11_path_32 := gq_17 db00c_72 eb_635
noncomputable def d_X11_path_35 := gq_18 db00c_72 eb_10
noncomputable def d_X11_path_36 := gq_19 db00c_72 eb_14
noncomputable def d_X11_path_37 := gq_20 db00c_72 eb_30
noncomputable def d_X11_path_38 := gq_21 db00c_72 eb_384
noncomputable def d_X11_path_41 := gq_22 db00c_72 eb_16
theorem db00c_73 : Pf_ prog_1_method_8_code [(0, [0x1b]), (1, [0xb8, 0x00, 0x6b]), (4, [0x99, 0x00, 0x16]), (7, [0x1c]), (8, [0xb8, 0x00, 0x6b]), (11, [0x99, 0x00, 0x0f]), (14, [0x2a]), (15, [0xb4, 0x00, 0x0a]), (18, [0x1b]), (19, [0x1c]), (20, [0xb6, 0x00, 0x73]), (23, [0xa7, 0x00, 0x04]), (26, [0x02]), (27, [0xac])] := pf_ok prog_1_method_8_code _ 0 (by decide +kernel)
noncomputable def d_X11_walk_0 := gq_0 db00c_73 eb_10
noncomputable def d_X11_walk_1 := gq_1 db00c_73 eb_634
noncomputable def d_X11_walk_4 := gq_2 db00c_73 eb_433
noncomputable def d_X11_walk_7 := gq_3 db00c_73 eb_14
noncomputable def d_X11_walk_8 := gq_4 db00c_73 eb_634
noncomputable def d_X11_walk_11 := gq_5 db00c_73 eb_297
noncomputable def d_X11_walk_14 := gq_6 db00c_73 eb_0
noncomputable def d_X11_walk_15 := gq_7 db00c_73 eb_635
noncomputable def d_X11_walk_18 := gq_8 db00c_73 eb_10
noncomputable def d_X11_walk_19 := gq_9 db00c_73 eb_14
noncomputable def d_X11_walk_20 := gq_10 db00c_73 eb_397
noncomputable def d_X11_walk_23 := gq_11 db00c_73 eb_21
noncomputable def d_X11_walk_26 := gq_12 db00c_73 eb_27
noncomputable def d_X11_walk_27 := gq_13 db00c_73 eb_16
theorem db00c_74 : Pf_ prog_1_method_9_code [(0, [0x1b]), (1, [0x04]), (2, [0x07]), (3, [0xb8, 0x00, 0x60]), (6, [0x99, 0x00, 0x18]), (9, [0x1c]), (10, [0x03]), (11, [0x10, 0x28]), (13, [0xb8, 0x00, 0x60]), (16, [0x99, 0x00, 0x0e]), (19, [0x1d]), (20, [0xb8, 0x00, 0x6b]), (23, [0x99, 0x00, 0x07]), (26, [0x04]), (27, [0xa7, 0x00, 0x04]), (30, [0x03]), (31, [0x36, 0x04]), (33, [0x15, 0x04]), (35, [0x99, 0x00, 0x0c]), (38, [0x2a]), (39, [0xb4, 0x00, 0x68]), (42, [0x10, 0x0c]), (44, [0xa1, 0x00, 0x05]), (47, [0x02])] := pf_ok prog_1_method_9_code _ 0 (by decide +kernel)
noncomputable def d_X11_constable_0 := gq_0 db00c_74 eb_10
noncomputable def d_X11_constable_1 := gq_1 db00c_74 eb_20
noncomputable def d_X11_constable_2 := gq_2 db00c_74 eb_294
noncomputable def d_X11_constable_3 := gq_3 db00c_74 eb_629
noncomputable def d_X11_constable_6 := gq_4 db00c_74 eb_216
noncomputable def d_X11_constable_9 := gq_5 db00c_74 eb_14
noncomputable def d_X11_constable_10 := gq_6 db00c_74 eb_22
noncomputable def d_X11_constable_11 := gq_7 db00c_74 eb_317
noncomputable def d_X11_constable_13 := gq_8 db00c_74 eb_629
noncomputable def d_X11_constable_16 := gq_9 db00c_74 eb_176
noncomputable def d_X11_constable_19 := gq_10 db00c_74 eb_30
noncomputable def d_X11_constable_20 := gq_11 db00c_74 eb_634
noncomputable def d_X11_constable_23 := gq_12 db00c_74 eb_124
noncomputable def d_X11_constable_26 := gq_13 db00c_74 eb_20
noncomputable def d_X11_constable_27 := gq_14 db00c_74 eb_21
noncomputable def d_X11_constable_30 := gq_15 db00c_74 eb_22
noncomputable def d_X11_constable_31 := gq_16 db00c_74 eb_134
noncomputable def d_X11_constable_33 := gq_17 db00c_74 eb_77
noncomputable def d_X11_constable_35 := gq_18 db00c_74 eb_51
noncomputable def d_X11_constable_38 := gq_19 db00c_74 eb_0
noncomputable def d_X11_constable_39 := gq_20 db00c_74 eb_406
noncomputable def d_X11_constable_42 := gq_21 db00c_74 eb_5
noncomputable def d_X11_constable_44 := gq_22 db00c_74 eb_115
noncomputable def d_X11_constable_47 := gq_23 db00c_74 eb_27
theorem db00c_75 : Pf_ prog_1_method_9_code [(48, [0xac]), (49, [0xbb, 0x00, 0x28]), (52, [0x59]), (53, [0x2a]), (54, [0xb4, 0x00, 0x68]), (57, [0x1b]), (58, [0x1c]), (59, [0x1d]), (60, [0xb7, 0x00, 0x77]), (63, [0x3a, 0x05]), (65, [0x2a]), (66, [0xb4, 0x00, 0x2a]), (69, [0x2a]), (70, [0xb4, 0x00, 0x68]), (73, [0x19, 0x05]), (75, [0x53]), (76, [0x2a]), (77, [0x59]), (78, [0xb4, 0x00, 0x68]), (81, [0x04]), (82, [0x60]), (83, [0xb5, 0x00, 0x68]), (86, [0x2a]), (87, [0x19, 0x05])] := pf_ok prog_1_method_9_code _ 48 (by decide +kernel)
noncomputable def d_X11_constable_48 := gq_0 db00c_75 eb_16
noncomputable def d_X11_constable_49 := gq_1 db00c_75 eb_636
noncomputable def d_X11_constable_52 := gq_2 db00c_75 eb_47
noncomputable def d_X11_constable_53 := gq_3 db00c_75 eb_0
noncomputable def d_X11_constable_54 := gq_4 db00c_75 eb_406
noncomputable def d_X11_constable_57 := gq_5 db00c_75 eb_10
noncomputable def d_X11_constable_58 := gq_6 db00c_75 eb_14
noncomputable def d_X11_constable_59 := gq_7 db00c_75 eb_30
noncomputable def d_X11_constable_60 := gq_8 db00c_75 eb_637
noncomputable def d_X11_constable_63 := gq_9 db00c_75 eb_638
noncomputable def d_X11_constable_65 := gq_10 db00c_75 eb_0
noncomputable def d_X11_constable_66 := gq_11 db00c_75 eb_179
noncomputable def d_X11_constable_69 := gq_12 db00c_75 eb_0
noncomputable def d_X11_constable_70 := gq_13 db00c_75 eb_406
noncomputable def d_X11_constable_73 := gq_14 db00c_75 eb_83
noncomputable def d_X11_constable_75 := gq_15 db00c_75 eb_639
noncomputable def d_X11_constable_76 := gq_16 db00c_75 eb_0
noncomputable def d_X11_constable_77 := gq_17 db00c_75 eb_47
noncomputable def d_X11_constable_78 := gq_18 db00c_75 eb_406
noncomputable def d_X11_constable_81 := gq_19 db00c_75 eb_20
noncomputable def d_X11_constable_82 := gq_20 db00c_75 eb_36
noncomputable def d_X11_constable_83 := gq_21 db00c_75 eb_381
noncomputable def d_X11_constable_86 := gq_22 db00c_75 eb_0
noncomputable def d_X11_constable_87 := gq_23 db00c_75 eb_83
theorem db00c_76 : Pf_ prog_1_method_9_code [(89, [0x1d]), (90, [0xb6, 0x00, 0x7a]), (93, [0x19, 0x05]), (95, [0xb4, 0x00, 0x7e]), (98, [0xac])] := pf_ok prog_1_method_9_code _ 89 (by decide +kernel)
noncomputable def d_X11_constable_89 := gq_0 db00c_76 eb_30
noncomputable def d_X11_constable_90 := gq_1 db00c_76 eb_640
noncomputable def d_X11_constable_93 := gq_2 db00c_76 eb_83
noncomputable def d_X11_constable_95 := gq_3 db00c_76 eb_641
noncomputable def d_X11_constable_98 := gq_4 db00c_76 eb_16
theorem db00c_77 : Pf_ prog_1_method_10_code [(0, [0x2a]), (1, [0xb4, 0x00, 0x13]), (4, [0x1b]), (5, [0x1c]), (6, [0x1d]), (7, [0x15, 0x04]), (9, [0x15, 0x05]), (11, [0xb6, 0x00, 0x81]), (14, [0xac])] := pf_ok prog_1_method_10_code _ 0 (by decide +kernel)
noncomputable def d_X11_feed_0 := gq_0 db00c_77 eb_0
noncomputable def d_X11_feed_1 := gq_1 db00c_77 eb_642
noncomputable def d_X11_feed_4 := gq_2 db00c_77 eb_10
noncomputable def d_X11_feed_5 := gq_3 db00c_77 eb_14
noncomputable def d_X11_feed_6 := gq_4 db00c_77 eb_30
noncomputable def d_X11_feed_7 := gq_5 db00c_77 eb_77
noncomputable def d_X11_feed_9 := gq_6 db00c_77 eb_126
noncomputable def d_X11_feed_11 := gq_7 db00c_77 eb_643
noncomputable def d_X11_feed_14 := gq_8 db00c_77 eb_16
theorem db00c_78 : Pf_ prog_1_method_11_code [(0, [0x2a]), (1, [0xb4, 0x00, 0x13]), (4, [0x1b]), (5, [0xb6, 0x00, 0x85]), (8, [0xac])] := pf_ok prog_1_method_11_code _ 0 (by decide +kernel)
noncomputable def d_X11_end_0 := gq_0 db00c_78 eb_0
noncomputable def d_X11_end_1 := gq_1 db00c_78 eb_642
noncomputable def d_X11_end_4 := gq_2 db00c_78 eb_10
noncomputable def d_X11_end_5 := gq_3 db00c_78 eb_644
noncomputable def d_X11_end_8 := gq_4 db00c_78 eb_16
theorem d_X11_fault_1 : decode prog_1_method_12_code 1 = .ok (.tableswitch 53 0 2 #[27, 35, 44], 27) := by decide +kernel
theorem db00c_79 : Pf_ prog_1_method_12_code [(0, [0x1b]), (28, [0x2a]), (29, [0xb4, 0x00, 0x13]), (32, [0xb6, 0x00, 0x88]), (35, [0xac]), (36, [0x2a]), (37, [0xb4, 0x00, 0x13]), (40, [0x04]), (41, [0xb6, 0x00, 0x8c]), (44, [0xac]), (45, [0x2a]), (46, [0xb4, 0x00, 0x13]), (49, [0x03]), (50, [0xb6, 0x00, 0x8c]), (53, [0xac]), (54, [0x10, 0xfe]), (56, [0xac])] := pf_ok prog_1_method_12_code _ 0 (by decide +kernel)
noncomputable def d_X11_fault_0 := gq_0 db00c_79 eb_10
noncomputable def d_X11_fault_28 := gq_1 db00c_79 eb_0
noncomputable def d_X11_fault_29 := gq_2 db00c_79 eb_642
noncomputable def d_X11_fault_32 := gq_3 db00c_79 eb_645
noncomputable def d_X11_fault_35 := gq_4 db00c_79 eb_16
noncomputable def d_X11_fault_36 := gq_5 db00c_79 eb_0
noncomputable def d_X11_fault_37 := gq_6 db00c_79 eb_642
noncomputable def d_X11_fault_40 := gq_7 db00c_79 eb_20
noncomputable def d_X11_fault_41 := gq_8 db00c_79 eb_419
noncomputable def d_X11_fault_44 := gq_9 db00c_79 eb_16
noncomputable def d_X11_fault_45 := gq_10 db00c_79 eb_0
noncomputable def d_X11_fault_46 := gq_11 db00c_79 eb_642
noncomputable def d_X11_fault_49 := gq_12 db00c_79 eb_22
noncomputable def d_X11_fault_50 := gq_13 db00c_79 eb_419
noncomputable def d_X11_fault_53 := gq_14 db00c_79 eb_16
noncomputable def d_X11_fault_54 := gq_15 db00c_79 eb_646
noncomputable def d_X11_fault_56 := gq_16 db00c_79 eb_16
theorem db00c_80 : Pf_ prog_1_method_13_code [(0, [0x2a]), (1, [0xb4, 0x00, 0x13]), (4, [0xb6, 0x00, 0x88]), (7, [0x02]), (8, [0x9f, 0x00, 0x05]), (11, [0x02]), (12, [0xac]), (13, [0x2a]), (14, [0xb4, 0x00, 0x1a]), (17, [0x2a]), (18, [0xb4, 0x00, 0x13]), (21, [0xb6, 0x00, 0x90]), (24, [0x3c]), (25, [0x1b]), (26, [0x02]), (27, [0x9f, 0x00, 0x0c]), (30, [0x2a]), (31, [0xb4, 0x00, 0x13]), (34, [0x03]), (35, [0xb6, 0x00, 0x85]), (38, [0x57]), (39, [0x1b]), (40, [0xac])] := pf_ok prog_1_method_13_code _ 0 (by decide +kernel)
noncomputable def d_X11_beat_0 := gq_0 db00c_80 eb_0
noncomputable def d_X11_beat_1 := gq_1 db00c_80 eb_642
noncomputable def d_X11_beat_4 := gq_2 db00c_80 eb_645
noncomputable def d_X11_beat_7 := gq_3 db00c_80 eb_27
noncomputable def d_X11_beat_8 := gq_4 db00c_80 eb_121
noncomputable def d_X11_beat_11 := gq_5 db00c_80 eb_27
noncomputable def d_X11_beat_12 := gq_6 db00c_80 eb_16
noncomputable def d_X11_beat_13 := gq_7 db00c_80 eb_0
noncomputable def d_X11_beat_14 := gq_8 db00c_80 eb_229
noncomputable def d_X11_beat_17 := gq_9 db00c_80 eb_0
noncomputable def d_X11_beat_18 := gq_10 db00c_80 eb_642
noncomputable def d_X11_beat_21 := gq_11 db00c_80 eb_647
noncomputable def d_X11_beat_24 := gq_12 db00c_80 eb_225
noncomputable def d_X11_beat_25 := gq_13 db00c_80 eb_10
noncomputable def d_X11_beat_26 := gq_14 db00c_80 eb_27
noncomputable def d_X11_beat_27 := gq_15 db00c_80 eb_549
noncomputable def d_X11_beat_30 := gq_16 db00c_80 eb_0
noncomputable def d_X11_beat_31 := gq_17 db00c_80 eb_642
noncomputable def d_X11_beat_34 := gq_18 db00c_80 eb_22
noncomputable def d_X11_beat_35 := gq_19 db00c_80 eb_644
noncomputable def d_X11_beat_38 := gq_20 db00c_80 eb_483
noncomputable def d_X11_beat_39 := gq_21 db00c_80 eb_10
noncomputable def d_X11_beat_40 := gq_22 db00c_80 eb_16
theorem d_X11_beaten_14 : decode prog_1_method_14_code 14 = .ok (.lookupswitch 44 #[(0, 26), (1, 35)], 26) := by decide +kernel
theorem db00c_81 : Pf_ prog_1_method_14_code [(0, [0x2a]), (1, [0xb4, 0x00, 0x1a]), (4, [0x1b]), (5, [0xb6, 0x00, 0x94]), (8, [0x9a, 0x00, 0x05]), (11, [0x02]), (12, [0xac]), (13, [0x1c]), (40, [0x2a]), (41, [0xb4, 0x00, 0x1a]), (44, [0x1b]), (45, [0xb6, 0x00, 0x97]), (48, [0xac]), (49, [0x2a]), (50, [0xb4, 0x00, 0x1a]), (53, [0x1b]), (54, [0xb6, 0x00, 0x9b]), (57, [0xac]), (58, [0x02]), (59, [0xac])] := pf_ok prog_1_method_14_code _ 0 (by decide +kernel)
noncomputable def d_X11_beaten_0 := gq_0 db00c_81 eb_0
noncomputable def d_X11_beaten_1 := gq_1 db00c_81 eb_229
noncomputable def d_X11_beaten_4 := gq_2 db00c_81 eb_10
noncomputable def d_X11_beaten_5 := gq_3 db00c_81 eb_648
noncomputable def d_X11_beaten_8 := gq_4 db00c_81 eb_152
noncomputable def d_X11_beaten_11 := gq_5 db00c_81 eb_27
noncomputable def d_X11_beaten_12 := gq_6 db00c_81 eb_16
noncomputable def d_X11_beaten_13 := gq_7 db00c_81 eb_14
noncomputable def d_X11_beaten_40 := gq_8 db00c_81 eb_0
noncomputable def d_X11_beaten_41 := gq_9 db00c_81 eb_229
noncomputable def d_X11_beaten_44 := gq_10 db00c_81 eb_10
noncomputable def d_X11_beaten_45 := gq_11 db00c_81 eb_528
noncomputable def d_X11_beaten_48 := gq_12 db00c_81 eb_16
noncomputable def d_X11_beaten_49 := gq_13 db00c_81 eb_0
noncomputable def d_X11_beaten_50 := gq_14 db00c_81 eb_229
noncomputable def d_X11_beaten_53 := gq_15 db00c_81 eb_10
noncomputable def d_X11_beaten_54 := gq_16 db00c_81 eb_649
noncomputable def d_X11_beaten_57 := gq_17 db00c_81 eb_16
noncomputable def d_X11_beaten_58 := gq_18 db00c_81 eb_27
noncomputable def d_X11_beaten_59 := gq_19 db00c_81 eb_16
theorem db00c_82 : Pf_ prog_1_method_15_code [(0, [0x2a]), (1, [0x1b]), (2, [0xb6, 0x00, 0x64]), (5, [0x4e]), (6, [0x2d]), (7, [0xc6, 0x00, 0x27]), (10, [0x2a]), (11, [0xb4, 0x00, 0x1a]), (14, [0x1c]), (15, [0xb6, 0x00, 0x94]), (18, [0x99, 0x00, 0x1c]), (21, [0x2d]), (22, [0xb4, 0x00, 0x9e]), (25, [0x9a, 0x00, 0x15]), (28, [0x2a]), (29, [0xb4, 0x00, 0x31]), (32, [0x2a]), (33, [0xb4, 0x00, 0x1a]), (36, [0x1c]), (37, [0xb6, 0x00, 0x9b]), (40, [0xb6, 0x00, 0xa1]), (43, [0x9a, 0x00, 0x05]), (46, [0x03]), (47, [0xac])] := pf_ok prog_1_method_15_code _ 0 (by decide +kernel)
noncomputable def d_X11_begin_0 := gq_0 db00c_82 eb_0
noncomputable def d_X11_begin_1 := gq_1 db00c_82 eb_10
noncomputable def d_X11_begin_2 := gq_2 db00c_82 eb_168
noncomputable def d_X11_begin_5 := gq_3 db00c_82 eb_650
noncomputable def d_X11_begin_6 := gq_4 db00c_82 eb_315
noncomputable def d_X11_begin_7 := gq_5 db00c_82 eb_651
noncomputable def d_X11_begin_10 := gq_6 db00c_82 eb_0
noncomputable def d_X11_begin_11 := gq_7 db00c_82 eb_229
noncomputable def d_X11_begin_14 := gq_8 db00c_82 eb_14
noncomputable def d_X11_begin_15 := gq_9 db00c_82 eb_648
noncomputable def d_X11_begin_18 := gq_10 db00c_82 eb_652
noncomputable def d_X11_begin_21 := gq_11 db00c_82 eb_315
noncomputable def d_X11_begin_22 := gq_12 db00c_82 eb_653
noncomputable def d_X11_begin_25 := gq_13 db00c_82 eb_233
noncomputable def d_X11_begin_28 := gq_14 db00c_82 eb_0
noncomputable def d_X11_begin_29 := gq_15 db00c_82 eb_288
noncomputable def d_X11_begin_32 := gq_16 db00c_82 eb_0
noncomputable def d_X11_begin_33 := gq_17 db00c_82 eb_229
noncomputable def d_X11_begin_36 := gq_18 db00c_82 eb_14
noncomputable def d_X11_begin_37 := gq_19 db00c_82 eb_649
noncomputable def d_X11_begin_40 := gq_20 db00c_82 eb_654
noncomputable def d_X11_begin_43 := gq_21 db00c_82 eb_152
noncomputable def d_X11_begin_46 := gq_22 db00c_82 eb_22
noncomputable def d_X11_begin_47 := gq_23 db00c_82 eb_16
theorem db00c_83 : Pf_ prog_1_method_15_code [(48, [0x2d]), (49, [0x04]), (50, [0xb5, 0x00, 0x9e]), (53, [0x2d]), (54, [0x1c]), (55, [0xb5, 0x00, 0xa4]), (58, [0x2d]), (59, [0x03]), (60, [0xb5, 0x00, 0xa7]), (63, [0x2d]), (64, [0x2a]), (65, [0xb4, 0x00, 0x5c]), (68, [0xb5, 0x00, 0xaa]), (71, [0x2d]), (72, [0x2a]), (73, [0xb4, 0x00, 0x31]), (76, [0xb4, 0x00, 0xad]), (79, [0xb5, 0x00, 0xb0]), (82, [0x2a]), (83, [0x2d]), (84, [0xb6, 0x00, 0xb3]), (87, [0x2d]), (88, [0x2a]), (89, [0xb4, 0x00, 0x31])] := pf_ok prog_1_method_15_code _ 48 (by decide +kernel)
noncomputable def d_X11_begin_48 := gq_0 db00c_83 eb_315
noncomputable def d_X11_begin_49 := gq_1 db00c_83 eb_20
noncomputable def d_X11_begin_50 := gq_2 db00c_83 eb_655
noncomputable def d_X11_begin_53 := gq_3 db00c_83 eb_315
noncomputable def d_X11_begin_54 := gq_4 db00c_83 eb_14
noncomputable def d_X11_begin_55 := gq_5 db00c_83 eb_656
noncomputable def d_X11_begin_58 := gq_6 db00c_83 eb_315
noncomputable def d_X11_begin_59 := gq_7 db00c_83 eb_22
noncomputable def d_X11_begin_60 := gq_8 db00c_83 eb_657
noncomputable def d_X11_begin_63 := gq_9 db00c_83 eb_315
noncomputable def d_X11_begin_64 := gq_10 db00c_83 eb_0
noncomputable def d_X11_begin_65 := gq_11 db00c_83 eb_628
noncomputable def d_X11_begin_68 := gq_12 db00c_83 eb_658
noncomputable def d_X11_begin_71 := gq_13 db00c_83 eb_315
noncomputable def d_X11_begin_72 := gq_14 db00c_83 eb_0
noncomputable def d_X11_begin_73 := gq_15 db00c_83 eb_288
noncomputable def d_X11_begin_76 := gq_16 db00c_83 eb_659
noncomputable def d_X11_begin_79 := gq_17 db00c_83 eb_660
noncomputable def d_X11_begin_82 := gq_18 db00c_83 eb_0
noncomputable def d_X11_begin_83 := gq_19 db00c_83 eb_315
noncomputable def d_X11_begin_84 := gq_20 db00c_83 eb_661
noncomputable def d_X11_begin_87 := gq_21 db00c_83 eb_315
noncomputable def d_X11_begin_88 := gq_22 db00c_83 eb_0
noncomputable def d_X11_begin_89 := gq_23 db00c_83 eb_288
theorem db00c_84 : Pf_ prog_1_method_15_code [(92, [0xb4, 0x00, 0xad]), (95, [0xb5, 0x00, 0xb7]), (98, [0x2a]), (99, [0x2d]), (100, [0xb6, 0x00, 0xba]), (103, [0x04]), (104, [0xac])] := pf_ok prog_1_method_15_code _ 92 (by decide +kernel)
noncomputable def d_X11_begin_92 := gq_0 db00c_84 eb_659
noncomputable def d_X11_begin_95 := gq_1 db00c_84 eb_662
noncomputable def d_X11_begin_98 := gq_2 db00c_84 eb_0
noncomputable def d_X11_begin_99 := gq_3 db00c_84 eb_315
noncomputable def d_X11_begin_100 := gq_4 db00c_84 eb_663
noncomputable def d_X11_begin_103 := gq_5 db00c_84 eb_20
noncomputable def d_X11_begin_104 := gq_6 db00c_84 eb_16
theorem db00c_85 : Pf_ prog_1_method_16_code [(0, [0x2a]), (1, [0xb4, 0x00, 0x1a]), (4, [0x2b]), (5, [0xb4, 0x00, 0xa4]), (8, [0xb6, 0x00, 0x97]), (11, [0x3d]), (12, [0x03]), (13, [0x3e]), (14, [0x1d]), (15, [0x1c]), (16, [0xa2, 0x00, 0x3e]), (19, [0x2a]), (20, [0xb4, 0x00, 0x1a]), (23, [0x2b]), (24, [0xb4, 0x00, 0xa4]), (27, [0x1d]), (28, [0xb6, 0x00, 0xbd]), (31, [0x36, 0x04]), (33, [0x15, 0x04]), (35, [0xb8, 0x00, 0xc0]), (38, [0x05]), (39, [0xa0, 0x00, 0x21]), (42, [0x2a]), (43, [0xb4, 0x00, 0x31])] := pf_ok prog_1_method_16_code _ 0 (by decide +kernel)
noncomputable def d_X11_writeRows_0 := gq_0 db00c_85 eb_0
noncomputable def d_X11_writeRows_1 := gq_1 db00c_85 eb_229
noncomputable def d_X11_writeRows_4 := gq_2 db00c_85 eb_24
noncomputable def d_X11_writeRows_5 := gq_3 db00c_85 eb_664
noncomputable def d_X11_writeRows_8 := gq_4 db00c_85 eb_528
noncomputable def d_X11_writeRows_11 := gq_5 db00c_85 eb_28
noncomputable def d_X11_writeRows_12 := gq_6 db00c_85 eb_22
noncomputable def d_X11_writeRows_13 := gq_7 db00c_85 eb_29
noncomputable def d_X11_writeRows_14 := gq_8 db00c_85 eb_30
noncomputable def d_X11_writeRows_15 := gq_9 db00c_85 eb_14
noncomputable def d_X11_writeRows_16 := gq_10 db00c_85 eb_349
noncomputable def d_X11_writeRows_19 := gq_11 db00c_85 eb_0
noncomputable def d_X11_writeRows_20 := gq_12 db00c_85 eb_229
noncomputable def d_X11_writeRows_23 := gq_13 db00c_85 eb_24
noncomputable def d_X11_writeRows_24 := gq_14 db00c_85 eb_664
noncomputable def d_X11_writeRows_27 := gq_15 db00c_85 eb_30
noncomputable def d_X11_writeRows_28 := gq_16 db00c_85 eb_665
noncomputable def d_X11_writeRows_31 := gq_17 db00c_85 eb_134
noncomputable def d_X11_writeRows_33 := gq_18 db00c_85 eb_77
noncomputable def d_X11_writeRows_35 := gq_19 db00c_85 eb_666
noncomputable def d_X11_writeRows_38 := gq_20 db00c_85 eb_11
noncomputable def d_X11_writeRows_39 := gq_21 db00c_85 eb_536
noncomputable def d_X11_writeRows_42 := gq_22 db00c_85 eb_0
noncomputable def d_X11_writeRows_43 := gq_23 db00c_85 eb_288
theorem db00c_86 : Pf_ prog_1_method_16_code [(46, [0x2b]), (47, [0xb4, 0x00, 0x7e]), (50, [0x15, 0x04]), (52, [0xb8, 0x00, 0xc3]), (55, [0x2a]), (56, [0xb4, 0x00, 0x5c]), (59, [0x15, 0x04]), (61, [0xb8, 0x00, 0xc6]), (64, [0x60]), (65, [0x2a]), (66, [0xb4, 0x00, 0x5c]), (69, [0xb6, 0x00, 0xc9]), (72, [0x84, 0x03, 0x01]), (75, [0xa7, 0xff, 0xc3]), (78, [0xb1])] := pf_ok prog_1_method_16_code _ 46 (by decide +kernel)
noncomputable def d_X11_writeRows_46 := gq_0 db00c_86 eb_24
noncomputable def d_X11_writeRows_47 := gq_1 db00c_86 eb_641
noncomputable def d_X11_writeRows_50 := gq_2 db00c_86 eb_77
noncomputable def d_X11_writeRows_52 := gq_3 db00c_86 eb_667
noncomputable def d_X11_writeRows_55 := gq_4 db00c_86 eb_0
noncomputable def d_X11_writeRows_56 := gq_5 db00c_86 eb_628
noncomputable def d_X11_writeRows_59 := gq_6 db00c_86 eb_77
noncomputable def d_X11_writeRows_61 := gq_7 db00c_86 eb_668
noncomputable def d_X11_writeRows_64 := gq_8 db00c_86 eb_36
noncomputable def d_X11_writeRows_65 := gq_9 db00c_86 eb_0
noncomputable def d_X11_writeRows_66 := gq_10 db00c_86 eb_628
noncomputable def d_X11_writeRows_69 := gq_11 db00c_86 eb_669
noncomputable def d_X11_writeRows_72 := gq_12 db00c_86 eb_43
noncomputable def d_X11_writeRows_75 := gq_13 db00c_86 eb_670
noncomputable def d_X11_writeRows_78 := gq_14 db00c_86 eb_8
theorem db00c_87 : Pf_ prog_1_method_17_code [(0, [0x2a]), (1, [0x1b]), (2, [0xb6, 0x00, 0x64]), (5, [0x3a, 0x04]), (7, [0x19, 0x04]), (9, [0xc6, 0x00, 0x18]), (12, [0x1c]), (13, [0xb8, 0x00, 0x6b]), (16, [0x99, 0x00, 0x11]), (19, [0x1d]), (20, [0x2a]), (21, [0xb4, 0x00, 0x5c]), (24, [0x11, 0x75, 0x30]), (27, [0xb8, 0x00, 0x60]), (30, [0x9a, 0x00, 0x05]), (33, [0x03]), (34, [0xac]), (35, [0x2a]), (36, [0xb4, 0x00, 0x0a]), (39, [0x19, 0x04]), (41, [0xb4, 0x00, 0xcc]), (44, [0x1c]), (45, [0xb6, 0x00, 0x73]), (48, [0x02])] := pf_ok prog_1_method_17_code _ 0 (by decide +kernel)
noncomputable def d_X11_draw_0 := gq_0 db00c_87 eb_0
noncomputable def d_X11_draw_1 := gq_1 db00c_87 eb_10
noncomputable def d_X11_draw_2 := gq_2 db00c_87 eb_168
noncomputable def d_X11_draw_5 := gq_3 db00c_87 eb_671
noncomputable def d_X11_draw_7 := gq_4 db00c_87 eb_359
noncomputable def d_X11_draw_9 := gq_5 db00c_87 eb_672
noncomputable def d_X11_draw_12 := gq_6 db00c_87 eb_14
noncomputable def d_X11_draw_13 := gq_7 db00c_87 eb_634
noncomputable def d_X11_draw_16 := gq_8 db00c_87 eb_113
noncomputable def d_X11_draw_19 := gq_9 db00c_87 eb_30
noncomputable def d_X11_draw_20 := gq_10 db00c_87 eb_0
noncomputable def d_X11_draw_21 := gq_11 db00c_87 eb_628
noncomputable def d_X11_draw_24 := gq_12 db00c_87 eb_673
noncomputable def d_X11_draw_27 := gq_13 db00c_87 eb_629
noncomputable def d_X11_draw_30 := gq_14 db00c_87 eb_152
noncomputable def d_X11_draw_33 := gq_15 db00c_87 eb_22
noncomputable def d_X11_draw_34 := gq_16 db00c_87 eb_16
noncomputable def d_X11_draw_35 := gq_17 db00c_87 eb_0
noncomputable def d_X11_draw_36 := gq_18 db00c_87 eb_635
noncomputable def d_X11_draw_39 := gq_19 db00c_87 eb_359
noncomputable def d_X11_draw_41 := gq_20 db00c_87 eb_674
noncomputable def d_X11_draw_44 := gq_21 db00c_87 eb_14
noncomputable def d_X11_draw_45 := gq_22 db00c_87 eb_397
noncomputable def d_X11_draw_48 := gq_23 db00c_87 eb_27
theorem db00c_88 : Pf_ prog_1_method_17_code [(49, [0x9f, 0x00, 0x15]), (52, [0x19, 0x04]), (54, [0xb4, 0x00, 0x9e]), (57, [0x06]), (58, [0x9f, 0x00, 0x0c]), (61, [0x19, 0x04]), (63, [0xb4, 0x00, 0x9e]), (66, [0x07]), (67, [0xa0, 0x00, 0x05]), (70, [0x03]), (71, [0xac]), (72, [0x2a]), (73, [0x19, 0x04]), (75, [0x06]), (76, [0xb6, 0x00, 0xcf]), (79, [0x19, 0x04]), (81, [0x06]), (82, [0xb5, 0x00, 0x9e]), (85, [0x19, 0x04]), (87, [0x1c]), (88, [0xb5, 0x00, 0xd2]), (91, [0x19, 0x04]), (93, [0x1d]), (94, [0xb5, 0x00, 0xd5])] := pf_ok prog_1_method_17_code _ 49 (by decide +kernel)
noncomputable def d_X11_draw_49 := gq_0 db00c_88 eb_675
noncomputable def d_X11_draw_52 := gq_1 db00c_88 eb_359
noncomputable def d_X11_draw_54 := gq_2 db00c_88 eb_653
noncomputable def d_X11_draw_57 := gq_3 db00c_88 eb_55
noncomputable def d_X11_draw_58 := gq_4 db00c_88 eb_549
noncomputable def d_X11_draw_61 := gq_5 db00c_88 eb_359
noncomputable def d_X11_draw_63 := gq_6 db00c_88 eb_653
noncomputable def d_X11_draw_66 := gq_7 db00c_88 eb_294
noncomputable def d_X11_draw_67 := gq_8 db00c_88 eb_496
noncomputable def d_X11_draw_70 := gq_9 db00c_88 eb_22
noncomputable def d_X11_draw_71 := gq_10 db00c_88 eb_16
noncomputable def d_X11_draw_72 := gq_11 db00c_88 eb_0
noncomputable def d_X11_draw_73 := gq_12 db00c_88 eb_359
noncomputable def d_X11_draw_75 := gq_13 db00c_88 eb_55
noncomputable def d_X11_draw_76 := gq_14 db00c_88 eb_676
noncomputable def d_X11_draw_79 := gq_15 db00c_88 eb_359
noncomputable def d_X11_draw_81 := gq_16 db00c_88 eb_55
noncomputable def d_X11_draw_82 := gq_17 db00c_88 eb_655
noncomputable def d_X11_draw_85 := gq_18 db00c_88 eb_359
noncomputable def d_X11_draw_87 := gq_19 db00c_88 eb_14
noncomputable def d_X11_draw_88 := gq_20 db00c_88 eb_677
noncomputable def d_X11_draw_91 := gq_21 db00c_88 eb_359
noncomputable def d_X11_draw_93 := gq_22 db00c_88 eb_30
noncomputable def d_X11_draw_94 := gq_23 db00c_88 eb_678
theorem db00c_89 : Pf_ prog_1_method_17_code [(97, [0x19, 0x04]), (99, [0xb4, 0x00, 0xd8]), (102, [0x02]), (103, [0xa0, 0x00, 0x0f]), (106, [0x19, 0x04]), (108, [0x02]), (109, [0xb5, 0x00, 0xdb]), (112, [0x2a]), (113, [0x19, 0x04]), (115, [0xb6, 0x00, 0xde]), (118, [0x04]), (119, [0xac])] := pf_ok prog_1_method_17_code _ 97 (by decide +kernel)
noncomputable def d_X11_draw_97 := gq_0 db00c_89 eb_359
noncomputable def d_X11_draw_99 := gq_1 db00c_89 eb_679
noncomputable def d_X11_draw_102 := gq_2 db00c_89 eb_27
noncomputable def d_X11_draw_103 := gq_3 db00c_89 eb_368
noncomputable def d_X11_draw_106 := gq_4 db00c_89 eb_359
noncomputable def d_X11_draw_108 := gq_5 db00c_89 eb_27
noncomputable def d_X11_draw_109 := gq_6 db00c_89 eb_680
noncomputable def d_X11_draw_112 := gq_7 db00c_89 eb_0
noncomputable def d_X11_draw_113 := gq_8 db00c_89 eb_359
noncomputable def d_X11_draw_115 := gq_9 db00c_89 eb_681
noncomputable def d_X11_draw_118 := gq_10 db00c_89 eb_20
noncomputable def d_X11_draw_119 := gq_11 db00c_89 eb_16
theorem db00c_90 : Pf_ prog_1_method_18_code [(0, [0x2a]), (1, [0x1b]), (2, [0xb6, 0x00, 0x64]), (5, [0x4e]), (6, [0x2d]), (7, [0xc6, 0x00, 0x14]), (10, [0x1c]), (11, [0x2d]), (12, [0xb4, 0x00, 0x9e]), (15, [0x07]), (16, [0xa0, 0x00, 0x07]), (19, [0x04]), (20, [0xa7, 0x00, 0x04]), (23, [0x03]), (24, [0xa0, 0x00, 0x05]), (27, [0x03]), (28, [0xac]), (29, [0x1c]), (30, [0x99, 0x00, 0x24]), (33, [0x2a]), (34, [0x2d]), (35, [0x07]), (36, [0xb6, 0x00, 0xcf]), (39, [0x2d])] := pf_ok prog_1_method_18_code _ 0 (by decide +kernel)
noncomputable def d_X11_ill_0 := gq_0 db00c_90 eb_0
noncomputable def d_X11_ill_1 := gq_1 db00c_90 eb_10
noncomputable def d_X11_ill_2 := gq_2 db00c_90 eb_168
noncomputable def d_X11_ill_5 := gq_3 db00c_90 eb_650
noncomputable def d_X11_ill_6 := gq_4 db00c_90 eb_315
noncomputable def d_X11_ill_7 := gq_5 db00c_90 eb_682
noncomputable def d_X11_ill_10 := gq_6 db00c_90 eb_14
noncomputable def d_X11_ill_11 := gq_7 db00c_90 eb_315
noncomputable def d_X11_ill_12 := gq_8 db00c_90 eb_653
noncomputable def d_X11_ill_15 := gq_9 db00c_90 eb_294
noncomputable def d_X11_ill_16 := gq_10 db00c_90 eb_136
noncomputable def d_X11_ill_19 := gq_11 db00c_90 eb_20
noncomputable def d_X11_ill_20 := gq_12 db00c_90 eb_21
noncomputable def d_X11_ill_23 := gq_13 db00c_90 eb_22
noncomputable def d_X11_ill_24 := gq_14 db00c_90 eb_496
noncomputable def d_X11_ill_27 := gq_15 db00c_90 eb_22
noncomputable def d_X11_ill_28 := gq_16 db00c_90 eb_16
noncomputable def d_X11_ill_29 := gq_17 db00c_90 eb_14
noncomputable def d_X11_ill_30 := gq_18 db00c_90 eb_281
noncomputable def d_X11_ill_33 := gq_19 db00c_90 eb_0
noncomputable def d_X11_ill_34 := gq_20 db00c_90 eb_315
noncomputable def d_X11_ill_35 := gq_21 db00c_90 eb_294
noncomputable def d_X11_ill_36 := gq_22 db00c_90 eb_676
noncomputable def d_X11_ill_39 := gq_23 db00c_90 eb_315
theorem db00c_91 : Pf_ prog_1_method_18_code [(40, [0x07]), (41, [0xb5, 0x00, 0x9e]), (44, [0x2d]), (45, [0x02]), (46, [0xb5, 0x00, 0xd8]), (49, [0x2d]), (50, [0x02]), (51, [0xb5, 0x00, 0xdb]), (54, [0x2a]), (55, [0x2d]), (56, [0x2d]), (57, [0xb4, 0x00, 0xcc]), (60, [0xb6, 0x00, 0x7a]), (63, [0xa7, 0x00, 0x08]), (66, [0x2a]), (67, [0x2d]), (68, [0xb6, 0x00, 0xe1]), (71, [0x04]), (72, [0xac])] := pf_ok prog_1_method_18_code _ 40 (by decide +kernel)
noncomputable def d_X11_ill_40 := gq_0 db00c_91 eb_294
noncomputable def d_X11_ill_41 := gq_1 db00c_91 eb_655
noncomputable def d_X11_ill_44 := gq_2 db00c_91 eb_315
noncomputable def d_X11_ill_45 := gq_3 db00c_91 eb_27
noncomputable def d_X11_ill_46 := gq_4 db00c_91 eb_683
noncomputable def d_X11_ill_49 := gq_5 db00c_91 eb_315
noncomputable def d_X11_ill_50 := gq_6 db00c_91 eb_27
noncomputable def d_X11_ill_51 := gq_7 db00c_91 eb_680
noncomputable def d_X11_ill_54 := gq_8 db00c_91 eb_0
noncomputable def d_X11_ill_55 := gq_9 db00c_91 eb_315
noncomputable def d_X11_ill_56 := gq_10 db00c_91 eb_315
noncomputable def d_X11_ill_57 := gq_11 db00c_91 eb_674
noncomputable def d_X11_ill_60 := gq_12 db00c_91 eb_640
noncomputable def d_X11_ill_63 := gq_13 db00c_91 eb_505
noncomputable def d_X11_ill_66 := gq_14 db00c_91 eb_0
noncomputable def d_X11_ill_67 := gq_15 db00c_91 eb_315
noncomputable def d_X11_ill_68 := gq_16 db00c_91 eb_684
noncomputable def d_X11_ill_71 := gq_17 db00c_91 eb_20
noncomputable def d_X11_ill_72 := gq_18 db00c_91 eb_16
theorem db00c_92 : Pf_ prog_1_method_19_code [(0, [0x1b]), (1, [0x03]), (2, [0x11, 0x05, 0xdc]), (5, [0xb8, 0x00, 0x60]), (8, [0x99, 0x00, 0x0f]), (11, [0x2a]), (12, [0xb4, 0x00, 0x5c]), (15, [0x1b]), (16, [0x60]), (17, [0x11, 0x4e, 0x20]), (20, [0xa4, 0x00, 0x05]), (23, [0x02]), (24, [0xac]), (25, [0x2a]), (26, [0x2a]), (27, [0xb4, 0x00, 0x5c]), (30, [0x1b]), (31, [0x60]), (32, [0xb6, 0x00, 0xe4]), (35, [0x03]), (36, [0x3d]), (37, [0x1c]), (38, [0x1b]), (39, [0xa2, 0x00, 0x4f])] := pf_ok prog_1_method_19_code _ 0 (by decide +kernel)
noncomputable def d_X11_tick_0 := gq_0 db00c_92 eb_10
noncomputable def d_X11_tick_1 := gq_1 db00c_92 eb_22
noncomputable def d_X11_tick_2 := gq_2 db00c_92 eb_685
noncomputable def d_X11_tick_5 := gq_3 db00c_92 eb_629
noncomputable def d_X11_tick_8 := gq_4 db00c_92 eb_297
noncomputable def d_X11_tick_11 := gq_5 db00c_92 eb_0
noncomputable def d_X11_tick_12 := gq_6 db00c_92 eb_628
noncomputable def d_X11_tick_15 := gq_7 db00c_92 eb_10
noncomputable def d_X11_tick_16 := gq_8 db00c_92 eb_36
noncomputable def d_X11_tick_17 := gq_9 db00c_92 eb_686
noncomputable def d_X11_tick_20 := gq_10 db00c_92 eb_337
noncomputable def d_X11_tick_23 := gq_11 db00c_92 eb_27
noncomputable def d_X11_tick_24 := gq_12 db00c_92 eb_16
noncomputable def d_X11_tick_25 := gq_13 db00c_92 eb_0
noncomputable def d_X11_tick_26 := gq_14 db00c_92 eb_0
noncomputable def d_X11_tick_27 := gq_15 db00c_92 eb_628
noncomputable def d_X11_tick_30 := gq_16 db00c_92 eb_10
noncomputable def d_X11_tick_31 := gq_17 db00c_92 eb_36
noncomputable def d_X11_tick_32 := gq_18 db00c_92 eb_687
noncomputable def d_X11_tick_35 := gq_19 db00c_92 eb_22
noncomputable def d_X11_tick_36 := gq_20 db00c_92 eb_28
noncomputable def d_X11_tick_37 := gq_21 db00c_92 eb_14
noncomputable def d_X11_tick_38 := gq_22 db00c_92 eb_10
noncomputable def d_X11_tick_39 := gq_23 db00c_92 eb_688
theorem db00c_93 : Pf_ prog_1_method_19_code [(42, [0x2a]), (43, [0xb4, 0x00, 0x58]), (46, [0x2a]), (47, [0xb4, 0x00, 0x5c]), (50, [0x2a]), (51, [0xb4, 0x00, 0xe8]), (54, [0x50]), (55, [0x2a]), (56, [0x59]), (57, [0xb4, 0x00, 0x5c]), (60, [0x04]), (61, [0x60]), (62, [0xb5, 0x00, 0x5c]), (65, [0x03]), (66, [0x3e]), (67, [0x1d]), (68, [0x2a]), (69, [0xb4, 0x00, 0x68]), (72, [0xa2, 0x00, 0x28]), (75, [0x2a]), (76, [0xb4, 0x00, 0x2a]), (79, [0x1d]), (80, [0x32]), (81, [0x3a, 0x04])] := pf_ok prog_1_method_19_code _ 42 (by decide +kernel)
noncomputable def d_X11_tick_42 := gq_0 db00c_93 eb_0
noncomputable def d_X11_tick_43 := gq_1 db00c_93 eb_689
noncomputable def d_X11_tick_46 := gq_2 db00c_93 eb_0
noncomputable def d_X11_tick_47 := gq_3 db00c_93 eb_628
noncomputable def d_X11_tick_50 := gq_4 db00c_93 eb_0
noncomputable def d_X11_tick_51 := gq_5 db00c_93 eb_690
noncomputable def d_X11_tick_54 := gq_6 db00c_93 eb_378
noncomputable def d_X11_tick_55 := gq_7 db00c_93 eb_0
noncomputable def d_X11_tick_56 := gq_8 db00c_93 eb_47
noncomputable def d_X11_tick_57 := gq_9 db00c_93 eb_628
noncomputable def d_X11_tick_60 := gq_10 db00c_93 eb_20
noncomputable def d_X11_tick_61 := gq_11 db00c_93 eb_36
noncomputable def d_X11_tick_62 := gq_12 db00c_93 eb_691
noncomputable def d_X11_tick_65 := gq_13 db00c_93 eb_22
noncomputable def d_X11_tick_66 := gq_14 db00c_93 eb_29
noncomputable def d_X11_tick_67 := gq_15 db00c_93 eb_30
noncomputable def d_X11_tick_68 := gq_16 db00c_93 eb_0
noncomputable def d_X11_tick_69 := gq_17 db00c_93 eb_406
noncomputable def d_X11_tick_72 := gq_18 db00c_93 eb_692
noncomputable def d_X11_tick_75 := gq_19 db00c_93 eb_0
noncomputable def d_X11_tick_76 := gq_20 db00c_93 eb_179
noncomputable def d_X11_tick_79 := gq_21 db00c_93 eb_30
noncomputable def d_X11_tick_80 := gq_22 db00c_93 eb_631
noncomputable def d_X11_tick_81 := gq_23 db00c_93 eb_671
theorem db00c_94 : Pf_ prog_1_method_19_code [(83, [0x19, 0x04]), (85, [0xc6, 0x00, 0x15]), (88, [0x19, 0x04]), (90, [0xb4, 0x00, 0xdb]), (93, [0x2a]), (94, [0xb4, 0x00, 0x5c]), (97, [0xa0, 0x00, 0x09]), (100, [0x2a]), (101, [0x19, 0x04]), (103, [0xb6, 0x00, 0xec]), (106, [0x84, 0x03, 0x01]), (109, [0xa7, 0xff, 0xd6]), (112, [0x84, 0x02, 0x01]), (115, [0xa7, 0xff, 0xb2]), (118, [0x2a]), (119, [0xb4, 0x00, 0x5c]), (122, [0xac])] := pf_ok prog_1_method_19_code _ 83 (by decide +kernel)
noncomputable def d_X11_tick_83 := gq_0 db00c_94 eb_359
noncomputable def d_X11_tick_85 := gq_1 db00c_94 eb_693
noncomputable def d_X11_tick_88 := gq_2 db00c_94 eb_359
noncomputable def d_X11_tick_90 := gq_3 db00c_94 eb_694
noncomputable def d_X11_tick_93 := gq_4 db00c_94 eb_0
noncomputable def d_X11_tick_94 := gq_5 db00c_94 eb_628
noncomputable def d_X11_tick_97 := gq_6 db00c_94 eb_160
noncomputable def d_X11_tick_100 := gq_7 db00c_94 eb_0
noncomputable def d_X11_tick_101 := gq_8 db00c_94 eb_359
noncomputable def d_X11_tick_103 := gq_9 db00c_94 eb_695
noncomputable def d_X11_tick_106 := gq_10 db00c_94 eb_43
noncomputable def d_X11_tick_109 := gq_11 db00c_94 eb_439
noncomputable def d_X11_tick_112 := gq_12 db00c_94 eb_42
noncomputable def d_X11_tick_115 := gq_13 db00c_94 eb_480
noncomputable def d_X11_tick_118 := gq_14 db00c_94 eb_0
noncomputable def d_X11_tick_119 := gq_15 db00c_94 eb_628
noncomputable def d_X11_tick_122 := gq_16 db00c_94 eb_16
theorem db00c_95 : Pf_ prog_1_method_20_code [(0, [0x1b]), (1, [0x2a]), (2, [0xb4, 0x00, 0x58]), (5, [0xbe]), (6, [0xa4, 0x00, 0x21]), (9, [0x1b]), (10, [0x05]), (11, [0x2a]), (12, [0xb4, 0x00, 0x58]), (15, [0xbe]), (16, [0x68]), (17, [0x11, 0x4e, 0x20]), (20, [0xb8, 0x00, 0xef]), (23, [0xb8, 0x00, 0xf4]), (26, [0x3d]), (27, [0x2a]), (28, [0x2a]), (29, [0xb4, 0x00, 0x58]), (32, [0x1c]), (33, [0xb8, 0x00, 0xf7]), (36, [0xb5, 0x00, 0x58]), (39, [0xb1])] := pf_ok prog_1_method_20_code _ 0 (by decide +kernel)
noncomputable def d_X11_makeHistory_0 := gq_0 db00c_95 eb_10
noncomputable def d_X11_makeHistory_1 := gq_1 db00c_95 eb_0
noncomputable def d_X11_makeHistory_2 := gq_2 db00c_95 eb_689
noncomputable def d_X11_makeHistory_5 := gq_3 db00c_95 eb_53
noncomputable def d_X11_makeHistory_6 := gq_4 db00c_95 eb_696
noncomputable def d_X11_makeHistory_9 := gq_5 db00c_95 eb_10
noncomputable def d_X11_makeHistory_10 := gq_6 db00c_95 eb_11
noncomputable def d_X11_makeHistory_11 := gq_7 db00c_95 eb_0
noncomputable def d_X11_makeHistory_12 := gq_8 db00c_95 eb_689
noncomputable def d_X11_makeHistory_15 := gq_9 db00c_95 eb_53
noncomputable def d_X11_makeHistory_16 := gq_10 db00c_95 eb_35
noncomputable def d_X11_makeHistory_17 := gq_11 db00c_95 eb_686
noncomputable def d_X11_makeHistory_20 := gq_12 db00c_95 eb_697
noncomputable def d_X11_makeHistory_23 := gq_13 db00c_95 eb_698
noncomputable def d_X11_makeHistory_26 := gq_14 db00c_95 eb_28
noncomputable def d_X11_makeHistory_27 := gq_15 db00c_95 eb_0
noncomputable def d_X11_makeHistory_28 := gq_16 db00c_95 eb_0
noncomputable def d_X11_makeHistory_29 := gq_17 db00c_95 eb_689
noncomputable def d_X11_makeHistory_32 := gq_18 db00c_95 eb_14
noncomputable def d_X11_makeHistory_33 := gq_19 db00c_95 eb_699
noncomputable def d_X11_makeHistory_36 := gq_20 db00c_95 eb_625
noncomputable def d_X11_makeHistory_39 := gq_21 db00c_95 eb_8
theorem db00c_96 : Pf_ prog_1_method_21_code [(0, [0x2b]), (1, [0xb4, 0x00, 0xd8]), (4, [0x02]), (5, [0x9f, 0x00, 0x07]), (8, [0x04]), (9, [0xa7, 0x00, 0x04]), (12, [0x03]), (13, [0x3d]), (14, [0x1c]), (15, [0x99, 0x00, 0x13]), (18, [0x2b]), (19, [0xb4, 0x00, 0xd8]), (22, [0x3e]), (23, [0x2b]), (24, [0x02]), (25, [0xb5, 0x00, 0xd8]), (28, [0x2a]), (29, [0x2b]), (30, [0x1d]), (31, [0xb6, 0x00, 0x7a]), (34, [0x2b]), (35, [0x02]), (36, [0xb5, 0x00, 0xdb]), (39, [0x2b])] := pf_ok prog_1_method_21_code _ 0 (by decide +kernel)
noncomputable def d_X11_goOn_0 := gq_0 db00c_96 eb_24
noncomputable def d_X11_goOn_1 := gq_1 db00c_96 eb_679
noncomputable def d_X11_goOn_4 := gq_2 db00c_96 eb_27
noncomputable def d_X11_goOn_5 := gq_3 db00c_96 eb_557
noncomputable def d_X11_goOn_8 := gq_4 db00c_96 eb_20
noncomputable def d_X11_goOn_9 := gq_5 db00c_96 eb_21
noncomputable def d_X11_goOn_12 := gq_6 db00c_96 eb_22
noncomputable def d_X11_goOn_13 := gq_7 db00c_96 eb_28
noncomputable def d_X11_goOn_14 := gq_8 db00c_96 eb_14
noncomputable def d_X11_goOn_15 := gq_9 db00c_96 eb_700
noncomputable def d_X11_goOn_18 := gq_10 db00c_96 eb_24
noncomputable def d_X11_goOn_19 := gq_11 db00c_96 eb_679
noncomputable def d_X11_goOn_22 := gq_12 db00c_96 eb_29
noncomputable def d_X11_goOn_23 := gq_13 db00c_96 eb_24
noncomputable def d_X11_goOn_24 := gq_14 db00c_96 eb_27
noncomputable def d_X11_goOn_25 := gq_15 db00c_96 eb_683
noncomputable def d_X11_goOn_28 := gq_16 db00c_96 eb_0
noncomputable def d_X11_goOn_29 := gq_17 db00c_96 eb_24
noncomputable def d_X11_goOn_30 := gq_18 db00c_96 eb_30
noncomputable def d_X11_goOn_31 := gq_19 db00c_96 eb_640
noncomputable def d_X11_goOn_34 := gq_20 db00c_96 eb_24
noncomputable def d_X11_goOn_35 := gq_21 db00c_96 eb_27
noncomputable def d_X11_goOn_36 := gq_22 db00c_96 eb_680
noncomputable def d_X11_goOn_39 := gq_23 db00c_96 eb_24
theorem db00c_97 : Pf_ prog_1_method_21_code [(40, [0xb4, 0x00, 0x9e]), (43, [0x04]), (44, [0xa0, 0x00, 0x1e]), (47, [0x2a]), (48, [0x2b]), (49, [0x1c]), (50, [0xb6, 0x00, 0xfd]), (53, [0x99, 0x00, 0x32]), (56, [0x2b]), (57, [0x59]), (58, [0xb4, 0x00, 0xa7]), (61, [0x04]), (62, [0x60]), (63, [0xb5, 0x00, 0xa7]), (66, [0x2a]), (67, [0x2b]), (68, [0xb6, 0x00, 0xba]), (71, [0xa7, 0x00, 0x20]), (74, [0x2b]), (75, [0xb4, 0x00, 0x9e]), (78, [0x05]), (79, [0xa0, 0x00, 0x0b]), (82, [0x2a]), (83, [0x2b])] := pf_ok prog_1_method_21_code _ 40 (by decide +kernel)
noncomputable def d_X11_goOn_40 := gq_0 db00c_97 eb_653
noncomputable def d_X11_goOn_43 := gq_1 db00c_97 eb_20
noncomputable def d_X11_goOn_44 := gq_2 db00c_97 eb_255
noncomputable def d_X11_goOn_47 := gq_3 db00c_97 eb_0
noncomputable def d_X11_goOn_48 := gq_4 db00c_97 eb_24
noncomputable def d_X11_goOn_49 := gq_5 db00c_97 eb_14
noncomputable def d_X11_goOn_50 := gq_6 db00c_97 eb_701
noncomputable def d_X11_goOn_53 := gq_7 db00c_97 eb_702
noncomputable def d_X11_goOn_56 := gq_8 db00c_97 eb_24
noncomputable def d_X11_goOn_57 := gq_9 db00c_97 eb_47
noncomputable def d_X11_goOn_58 := gq_10 db00c_97 eb_703
noncomputable def d_X11_goOn_61 := gq_11 db00c_97 eb_20
noncomputable def d_X11_goOn_62 := gq_12 db00c_97 eb_36
noncomputable def d_X11_goOn_63 := gq_13 db00c_97 eb_657
noncomputable def d_X11_goOn_66 := gq_14 db00c_97 eb_0
noncomputable def d_X11_goOn_67 := gq_15 db00c_97 eb_24
noncomputable def d_X11_goOn_68 := gq_16 db00c_97 eb_663
noncomputable def d_X11_goOn_71 := gq_17 db00c_97 eb_704
noncomputable def d_X11_goOn_74 := gq_18 db00c_97 eb_24
noncomputable def d_X11_goOn_75 := gq_19 db00c_97 eb_653
noncomputable def d_X11_goOn_78 := gq_20 db00c_97 eb_11
noncomputable def d_X11_goOn_79 := gq_21 db00c_97 eb_705
noncomputable def d_X11_goOn_82 := gq_22 db00c_97 eb_0
noncomputable def d_X11_goOn_83 := gq_23 db00c_97 eb_24
theorem db00c_98 : Pf_ prog_1_method_21_code [(84, [0xb6, 0x00, 0xe1]), (87, [0xa7, 0x00, 0x10]), (90, [0x2b]), (91, [0xb4, 0x00, 0x9e]), (94, [0x06]), (95, [0xa0, 0x00, 0x08]), (98, [0x2a]), (99, [0x2b]), (100, [0xb6, 0x00, 0xde]), (103, [0xb1])] := pf_ok prog_1_method_21_code _ 84 (by decide +kernel)
noncomputable def d_X11_goOn_84 := gq_0 db00c_98 eb_684
noncomputable def d_X11_goOn_87 := gq_1 db00c_98 eb_545
noncomputable def d_X11_goOn_90 := gq_2 db00c_98 eb_24
noncomputable def d_X11_goOn_91 := gq_3 db00c_98 eb_653
noncomputable def d_X11_goOn_94 := gq_4 db00c_98 eb_55
noncomputable def d_X11_goOn_95 := gq_5 db00c_98 eb_544
noncomputable def d_X11_goOn_98 := gq_6 db00c_98 eb_0
noncomputable def d_X11_goOn_99 := gq_7 db00c_98 eb_24
noncomputable def d_X11_goOn_100 := gq_8 db00c_98 eb_681
noncomputable def d_X11_goOn_103 := gq_9 db00c_98 eb_8
theorem db00c_99 : Pf_ prog_1_method_22_code [(0, [0x2a]), (1, [0xb4, 0x00, 0x1a]), (4, [0x2b]), (5, [0xb4, 0x00, 0xa4]), (8, [0x2b]), (9, [0xb4, 0x00, 0xa7]), (12, [0xb6, 0x00, 0xbd]), (15, [0x3e]), (16, [0x1d]), (17, [0xb8, 0x00, 0xc0]), (20, [0x36, 0x04]), (22, [0x15, 0x04]), (24, [0x06]), (25, [0xa0, 0x00, 0x08]), (28, [0x2a]), (29, [0x2b]), (30, [0xb6, 0x01, 0x01]), (33, [0x15, 0x04]), (35, [0x05]), (36, [0xa0, 0x00, 0x10]), (39, [0x1c]), (40, [0x99, 0x00, 0x0c]), (43, [0x2a]), (44, [0x2b])] := pf_ok prog_1_method_22_code _ 0 (by decide +kernel)
noncomputable def d_X11_endsStep_0 := gq_0 db00c_99 eb_0
noncomputable def d_X11_endsStep_1 := gq_1 db00c_99 eb_229
noncomputable def d_X11_endsStep_4 := gq_2 db00c_99 eb_24
noncomputable def d_X11_endsStep_5 := gq_3 db00c_99 eb_664
noncomputable def d_X11_endsStep_8 := gq_4 db00c_99 eb_24
noncomputable def d_X11_endsStep_9 := gq_5 db00c_99 eb_703
noncomputable def d_X11_endsStep_12 := gq_6 db00c_99 eb_665
noncomputable def d_X11_endsStep_15 := gq_7 db00c_99 eb_29
noncomputable def d_X11_endsStep_16 := gq_8 db00c_99 eb_30
noncomputable def d_X11_endsStep_17 := gq_9 db00c_99 eb_666
noncomputable def d_X11_endsStep_20 := gq_10 db00c_99 eb_134
noncomputable def d_X11_endsStep_22 := gq_11 db00c_99 eb_77
noncomputable def d_X11_endsStep_24 := gq_12 db00c_99 eb_55
noncomputable def d_X11_endsStep_25 := gq_13 db00c_99 eb_544
noncomputable def d_X11_endsStep_28 := gq_14 db00c_99 eb_0
noncomputable def d_X11_endsStep_29 := gq_15 db00c_99 eb_24
noncomputable def d_X11_endsStep_30 := gq_16 db00c_99 eb_706
noncomputable def d_X11_endsStep_33 := gq_17 db00c_99 eb_77
noncomputable def d_X11_endsStep_35 := gq_18 db00c_99 eb_11
noncomputable def d_X11_endsStep_36 := gq_19 db00c_99 eb_80
noncomputable def d_X11_endsStep_39 := gq_20 db00c_99 eb_14
noncomputable def d_X11_endsStep_40 := gq_21 db00c_99 eb_51
noncomputable def d_X11_endsStep_43 := gq_22 db00c_99 eb_0
noncomputable def d_X11_endsStep_44 := gq_23 db00c_99 eb_24
theorem db00c_100 : Pf_ prog_1_method_22_code [(45, [0x1d]), (46, [0xb6, 0x01, 0x04]), (49, [0x9a, 0x00, 0x07]), (52, [0x04]), (53, [0xa7, 0x00, 0x04]), (56, [0x03]), (57, [0xac])] := pf_ok prog_1_method_22_code _ 45 (by decide +kernel)
noncomputable def d_X11_endsStep_45 := gq_0 db00c_100 eb_30
noncomputable def d_X11_endsStep_46 := gq_1 db00c_100 eb_707
noncomputable def d_X11_endsStep_49 := gq_2 db00c_100 eb_166
noncomputable def d_X11_endsStep_52 := gq_3 db00c_100 eb_20
noncomputable def d_X11_endsStep_53 := gq_4 db00c_100 eb_21
noncomputable def d_X11_endsStep_56 := gq_5 db00c_100 eb_22
noncomputable def d_X11_endsStep_57 := gq_6 db00c_100 eb_16
theorem db00c_101 : Pf_ prog_1_method_23_code [(0, [0x2a]), (1, [0xb4, 0x00, 0x1a]), (4, [0x2b]), (5, [0xb4, 0x00, 0xa4]), (8, [0xb6, 0x00, 0x97]), (11, [0x3d]), (12, [0x2b]), (13, [0xb4, 0x00, 0xa7]), (16, [0x1c]), (17, [0xa2, 0x00, 0x19]), (20, [0x2a]), (21, [0x2b]), (22, [0xb6, 0x01, 0x08]), (25, [0x99, 0x00, 0x04]), (28, [0xb1]), (29, [0x2b]), (30, [0x59]), (31, [0xb4, 0x00, 0xa7]), (34, [0x04]), (35, [0x60]), (36, [0xb5, 0x00, 0xa7]), (39, [0xa7, 0xff, 0xe5]), (42, [0x2a]), (43, [0x2b])] := pf_ok prog_1_method_23_code _ 0 (by decide +kernel)
noncomputable def d_X11_doSteps_0 := gq_0 db00c_101 eb_0
noncomputable def d_X11_doSteps_1 := gq_1 db00c_101 eb_229
noncomputable def d_X11_doSteps_4 := gq_2 db00c_101 eb_24
noncomputable def d_X11_doSteps_5 := gq_3 db00c_101 eb_664
noncomputable def d_X11_doSteps_8 := gq_4 db00c_101 eb_528
noncomputable def d_X11_doSteps_11 := gq_5 db00c_101 eb_28
noncomputable def d_X11_doSteps_12 := gq_6 db00c_101 eb_24
noncomputable def d_X11_doSteps_13 := gq_7 db00c_101 eb_703
noncomputable def d_X11_doSteps_16 := gq_8 db00c_101 eb_14
noncomputable def d_X11_doSteps_17 := gq_9 db00c_101 eb_432
noncomputable def d_X11_doSteps_20 := gq_10 db00c_101 eb_0
noncomputable def d_X11_doSteps_21 := gq_11 db00c_101 eb_24
noncomputable def d_X11_doSteps_22 := gq_12 db00c_101 eb_708
noncomputable def d_X11_doSteps_25 := gq_13 db00c_101 eb_709
noncomputable def d_X11_doSteps_28 := gq_14 db00c_101 eb_8
noncomputable def d_X11_doSteps_29 := gq_15 db00c_101 eb_24
noncomputable def d_X11_doSteps_30 := gq_16 db00c_101 eb_47
noncomputable def d_X11_doSteps_31 := gq_17 db00c_101 eb_703
noncomputable def d_X11_doSteps_34 := gq_18 db00c_101 eb_20
noncomputable def d_X11_doSteps_35 := gq_19 db00c_101 eb_36
noncomputable def d_X11_doSteps_36 := gq_20 db00c_101 eb_657
noncomputable def d_X11_doSteps_39 := gq_21 db00c_101 eb_710
noncomputable def d_X11_doSteps_42 := gq_22 db00c_101 eb_0
noncomputable def d_X11_doSteps_43 := gq_23 db00c_101 eb_24
theorem db00c_102 : Pf_ prog_1_method_23_code [(44, [0xb6, 0x01, 0x0c]), (47, [0xb1])] := pf_ok prog_1_method_23_code _ 44 (by decide +kernel)
noncomputable def d_X11_doSteps_44 := gq_0 db00c_102 eb_711
noncomputable def d_X11_doSteps_47 := gq_1 db00c_102 eb_8
theorem d_X11_takesTime_20 : decode prog_1_method_24_code 20 = .ok (.tableswitch 62 1 3 #[28, 55, 43], 28) := by decide +kernel
theorem db00c_103 : Pf_ prog_1_method_24_code [(0, [0x2a]), (1, [0xb4, 0x00, 0x1a]), (4, [0x2b]), (5, [0xb4, 0x00, 0xa4]), (8, [0x2b]), (9, [0xb4, 0x00, 0xa7]), (12, [0xb6, 0x00, 0xbd]), (15, [0x3d]), (16, [0x1c]), (17, [0xb8, 0x00, 0xc0]), (48, [0x2b]), (49, [0x2a]), (50, [0xb4, 0x00, 0x5c]), (53, [0x1c]), (54, [0xb8, 0x00, 0xc6]), (57, [0x60]), (58, [0xb5, 0x00, 0xdb]), (61, [0x04]), (62, [0xac]), (63, [0x2b]), (64, [0x2a]), (65, [0xb4, 0x00, 0x5c]), (68, [0x04]), (69, [0x60])] := pf_ok prog_1_method_24_code _ 0 (by decide +kernel)
noncomputable def d_X11_takesTime_0 := gq_0 db00c_103 eb_0
noncomputable def d_X11_takesTime_1 := gq_1 db00c_103 eb_229
noncomputable def d_X11_takesTime_4 := gq_2 db00c_103 eb_24
noncomputable def d_X11_takesTime_5 := gq_3 db00c_103 eb_664
noncomputable def d_X11_takesTime_8 := gq_4 db00c_103 eb_24
noncomputable def d_X11_takesTime_9 := gq_5 db00c_103 eb_703
noncomputable def d_X11_takesTime_12 := gq_6 db00c_103 eb_665
noncomputable def d_X11_takesTime_15 := gq_7 db00c_103 eb_28
noncomputable def d_X11_takesTime_16 := gq_8 db00c_103 eb_14
noncomputable def d_X11_takesTime_17 := gq_9 db00c_103 eb_666
noncomputable def d_X11_takesTime_48 := gq_10 db00c_103 eb_24
noncomputable def d_X11_takesTime_49 := gq_11 db00c_103 eb_0
noncomputable def d_X11_takesTime_50 := gq_12 db00c_103 eb_628
noncomputable def d_X11_takesTime_53 := gq_13 db00c_103 eb_14
noncomputable def d_X11_takesTime_54 := gq_14 db00c_103 eb_668
noncomputable def d_X11_takesTime_57 := gq_15 db00c_103 eb_36
noncomputable def d_X11_takesTime_58 := gq_16 db00c_103 eb_680
noncomputable def d_X11_takesTime_61 := gq_17 db00c_103 eb_20
noncomputable def d_X11_takesTime_62 := gq_18 db00c_103 eb_16
noncomputable def d_X11_takesTime_63 := gq_19 db00c_103 eb_24
noncomputable def d_X11_takesTime_64 := gq_20 db00c_103 eb_0
noncomputable def d_X11_takesTime_65 := gq_21 db00c_103 eb_628
noncomputable def d_X11_takesTime_68 := gq_22 db00c_103 eb_20
noncomputable def d_X11_takesTime_69 := gq_23 db00c_103 eb_36
theorem db00c_104 : Pf_ prog_1_method_24_code [(70, [0xb5, 0x00, 0xdb]), (73, [0x04]), (74, [0xac]), (75, [0x2a]), (76, [0x2b]), (77, [0x1c]), (78, [0xb6, 0x01, 0x0f]), (81, [0xac]), (82, [0x2a]), (83, [0x2b]), (84, [0x1c]), (85, [0xb8, 0x00, 0xc3]), (88, [0xb6, 0x01, 0x12]), (91, [0xac])] := pf_ok prog_1_method_24_code _ 70 (by decide +kernel)
noncomputable def d_X11_takesTime_70 := gq_0 db00c_104 eb_680
noncomputable def d_X11_takesTime_73 := gq_1 db00c_104 eb_20
noncomputable def d_X11_takesTime_74 := gq_2 db00c_104 eb_16
noncomputable def d_X11_takesTime_75 := gq_3 db00c_104 eb_0
noncomputable def d_X11_takesTime_76 := gq_4 db00c_104 eb_24
noncomputable def d_X11_takesTime_77 := gq_5 db00c_104 eb_14
noncomputable def d_X11_takesTime_78 := gq_6 db00c_104 eb_712
noncomputable def d_X11_takesTime_81 := gq_7 db00c_104 eb_16
noncomputable def d_X11_takesTime_82 := gq_8 db00c_104 eb_0
noncomputable def d_X11_takesTime_83 := gq_9 db00c_104 eb_24
noncomputable def d_X11_takesTime_84 := gq_10 db00c_104 eb_14
noncomputable def d_X11_takesTime_85 := gq_11 db00c_104 eb_667
noncomputable def d_X11_takesTime_88 := gq_12 db00c_104 eb_713
noncomputable def d_X11_takesTime_91 := gq_13 db00c_104 eb_16
theorem db00c_105 : Pf_ prog_1_method_25_code [(0, [0x1c]), (1, [0xb8, 0x00, 0xc3]), (4, [0x3e]), (5, [0x2a]), (6, [0xb4, 0x00, 0x0a]), (9, [0x2b]), (10, [0xb4, 0x01, 0x15]), (13, [0x1d]), (14, [0xb6, 0x00, 0x73]), (17, [0x02]), (18, [0xa0, 0x00, 0x0c]), (21, [0x2a]), (22, [0x2b]), (23, [0x05]), (24, [0x05]), (25, [0xb6, 0x01, 0x18]), (28, [0x03]), (29, [0xac]), (30, [0x2a]), (31, [0x2b]), (32, [0x1d]), (33, [0xb6, 0x01, 0x12]), (36, [0x9a, 0x00, 0x0c]), (39, [0x2a])] := pf_ok prog_1_method_25_code _ 0 (by decide +kernel)
noncomputable def d_X11_goesToMeet_0 := gq_0 db00c_105 eb_14
noncomputable def d_X11_goesToMeet_1 := gq_1 db00c_105 eb_667
noncomputable def d_X11_goesToMeet_4 := gq_2 db00c_105 eb_29
noncomputable def d_X11_goesToMeet_5 := gq_3 db00c_105 eb_0
noncomputable def d_X11_goesToMeet_6 := gq_4 db00c_105 eb_635
noncomputable def d_X11_goesToMeet_9 := gq_5 db00c_105 eb_24
noncomputable def d_X11_goesToMeet_10 := gq_6 db00c_105 eb_714
noncomputable def d_X11_goesToMeet_13 := gq_7 db00c_105 eb_30
noncomputable def d_X11_goesToMeet_14 := gq_8 db00c_105 eb_397
noncomputable def d_X11_goesToMeet_17 := gq_9 db00c_105 eb_27
noncomputable def d_X11_goesToMeet_18 := gq_10 db00c_105 eb_427
noncomputable def d_X11_goesToMeet_21 := gq_11 db00c_105 eb_0
noncomputable def d_X11_goesToMeet_22 := gq_12 db00c_105 eb_24
noncomputable def d_X11_goesToMeet_23 := gq_13 db00c_105 eb_11
noncomputable def d_X11_goesToMeet_24 := gq_14 db00c_105 eb_11
noncomputable def d_X11_goesToMeet_25 := gq_15 db00c_105 eb_715
noncomputable def d_X11_goesToMeet_28 := gq_16 db00c_105 eb_22
noncomputable def d_X11_goesToMeet_29 := gq_17 db00c_105 eb_16
noncomputable def d_X11_goesToMeet_30 := gq_18 db00c_105 eb_0
noncomputable def d_X11_goesToMeet_31 := gq_19 db00c_105 eb_24
noncomputable def d_X11_goesToMeet_32 := gq_20 db00c_105 eb_30
noncomputable def d_X11_goesToMeet_33 := gq_21 db00c_105 eb_713
noncomputable def d_X11_goesToMeet_36 := gq_22 db00c_105 eb_716
noncomputable def d_X11_goesToMeet_39 := gq_23 db00c_105 eb_0
theorem db00c_106 : Pf_ prog_1_method_25_code [(40, [0x2b]), (41, [0x1c]), (42, [0xb6, 0x01, 0x04]), (45, [0x99, 0x00, 0x07]), (48, [0x04]), (49, [0xa7, 0x00, 0x04]), (52, [0x03]), (53, [0xac])] := pf_ok prog_1_method_25_code _ 40 (by decide +kernel)
noncomputable def d_X11_goesToMeet_40 := gq_0 db00c_106 eb_24
noncomputable def d_X11_goesToMeet_41 := gq_1 db00c_106 eb_14
noncomputable def d_X11_goesToMeet_42 := gq_2 db00c_106 eb_707
noncomputable def d_X11_goesToMeet_45 := gq_3 db00c_106 eb_124
noncomputable def d_X11_goesToMeet_48 := gq_4 db00c_106 eb_20
noncomputable def d_X11_goesToMeet_49 := gq_5 db00c_106 eb_21
noncomputable def d_X11_goesToMeet_52 := gq_6 db00c_106 eb_22
noncomputable def d_X11_goesToMeet_53 := gq_7 db00c_106 eb_16
theorem db00c_107 : Pf_ prog_1_method_26_code [(0, [0x2b]), (1, [0xb4, 0x00, 0xaa]), (4, [0x1c]), (5, [0xb8, 0x00, 0xc6]), (8, [0x60]), (9, [0x3e]), (10, [0x2a]), (11, [0xb4, 0x00, 0x5c]), (14, [0x1d]), (15, [0xa4, 0x00, 0x0c]), (18, [0x2a]), (19, [0x2b]), (20, [0x05]), (21, [0x04]), (22, [0xb6, 0x01, 0x18]), (25, [0x03]), (26, [0xac]), (27, [0x2a]), (28, [0x2b]), (29, [0x04]), (30, [0x02]), (31, [0xb6, 0x01, 0x18]), (34, [0x1d]), (35, [0x2a])] := pf_ok prog_1_method_26_code _ 0 (by decide +kernel)
noncomputable def d_X11_waitsAtPoint_0 := gq_0 db00c_107 eb_24
noncomputable def d_X11_waitsAtPoint_1 := gq_1 db00c_107 eb_717
noncomputable def d_X11_waitsAtPoint_4 := gq_2 db00c_107 eb_14
noncomputable def d_X11_waitsAtPoint_5 := gq_3 db00c_107 eb_668
noncomputable def d_X11_waitsAtPoint_8 := gq_4 db00c_107 eb_36
noncomputable def d_X11_waitsAtPoint_9 := gq_5 db00c_107 eb_29
noncomputable def d_X11_waitsAtPoint_10 := gq_6 db00c_107 eb_0
noncomputable def d_X11_waitsAtPoint_11 := gq_7 db00c_107 eb_628
noncomputable def d_X11_waitsAtPoint_14 := gq_8 db00c_107 eb_30
noncomputable def d_X11_waitsAtPoint_15 := gq_9 db00c_107 eb_718
noncomputable def d_X11_waitsAtPoint_18 := gq_10 db00c_107 eb_0
noncomputable def d_X11_waitsAtPoint_19 := gq_11 db00c_107 eb_24
noncomputable def d_X11_waitsAtPoint_20 := gq_12 db00c_107 eb_11
noncomputable def d_X11_waitsAtPoint_21 := gq_13 db00c_107 eb_20
noncomputable def d_X11_waitsAtPoint_22 := gq_14 db00c_107 eb_715
noncomputable def d_X11_waitsAtPoint_25 := gq_15 db00c_107 eb_22
noncomputable def d_X11_waitsAtPoint_26 := gq_16 db00c_107 eb_16
noncomputable def d_X11_waitsAtPoint_27 := gq_17 db00c_107 eb_0
noncomputable def d_X11_waitsAtPoint_28 := gq_18 db00c_107 eb_24
noncomputable def d_X11_waitsAtPoint_29 := gq_19 db00c_107 eb_20
noncomputable def d_X11_waitsAtPoint_30 := gq_20 db00c_107 eb_27
noncomputable def d_X11_waitsAtPoint_31 := gq_21 db00c_107 eb_715
noncomputable def d_X11_waitsAtPoint_34 := gq_22 db00c_107 eb_30
noncomputable def d_X11_waitsAtPoint_35 := gq_23 db00c_107 eb_0
theorem db00c_108 : Pf_ prog_1_method_26_code [(36, [0xb4, 0x00, 0x5c]), (39, [0xa4, 0x00, 0x0a]), (42, [0x2b]), (43, [0x1d]), (44, [0xb5, 0x00, 0xdb]), (47, [0x04]), (48, [0xac]), (49, [0x03]), (50, [0xac])] := pf_ok prog_1_method_26_code _ 36 (by decide +kernel)
noncomputable def d_X11_waitsAtPoint_36 := gq_0 db00c_108 eb_628
noncomputable def d_X11_waitsAtPoint_39 := gq_1 db00c_108 eb_719
noncomputable def d_X11_waitsAtPoint_42 := gq_2 db00c_108 eb_24
noncomputable def d_X11_waitsAtPoint_43 := gq_3 db00c_108 eb_30
noncomputable def d_X11_waitsAtPoint_44 := gq_4 db00c_108 eb_680
noncomputable def d_X11_waitsAtPoint_47 := gq_5 db00c_108 eb_20
noncomputable def d_X11_waitsAtPoint_48 := gq_6 db00c_108 eb_16
noncomputable def d_X11_waitsAtPoint_49 := gq_7 db00c_108 eb_22
noncomputable def d_X11_waitsAtPoint_50 := gq_8 db00c_108 eb_16
theorem db00c_109 : Pf_ prog_1_method_27_code [(0, [0x2a]), (1, [0xb4, 0x00, 0x0a]), (4, [0x2b]), (5, [0xb4, 0x01, 0x15]), (8, [0x1c]), (9, [0xb6, 0x00, 0x73]), (12, [0x3e])] := pf_ok prog_1_method_27_code _ 0 (by decide +kernel)
noncomputable def d_X11_setsOut_0 := gq_0 db00c_109 eb_0
noncomputable def d_X11_setsOut_1 := gq_1 db00c_109 eb_635
noncomputable def d_X11_setsOut_4 := gq_2 db00c_109 eb_24
noncomputable def d_X11_setsOut_5 := gq_3 db00c_109 eb_714
noncomputable def d_X11_setsOut_8 := gq_4 db00c_109 eb_14
noncomputable def d_X11_setsOut_9 := gq_5 db00c_109 eb_397
noncomputable def d_X11_setsOut_12 := gq_6 db00c_109 eb_29
end
section
theorem db00d_0 : Pf_ prog_1_method_27_code [(13, [0x1d]), (14, [0x9d, 0x00, 0x05]), (17, [0x03]), (18, [0xac]), (19, [0x2b]), (20, [0x1c]), (21, [0xb5, 0x00, 0xd8]), (24, [0x2b]), (25, [0x2a]), (26, [0xb4, 0x00, 0x5c]), (29, [0x1d]), (30, [0x60]), (31, [0xb5, 0x00, 0xdb]), (34, [0x2a]), (35, [0x2b]), (36, [0x02]), (37, [0xb6, 0x00, 0x7a]), (40, [0x04]), (41, [0xac])] := pf_ok prog_1_method_27_code _ 13 (by decide +kernel)
noncomputable def d_X11_setsOut_13 := gq_0 db00d_0 eb_30
noncomputable def d_X11_setsOut_14 := gq_1 db00d_0 eb_720
noncomputable def d_X11_setsOut_17 := gq_2 db00d_0 eb_22
noncomputable def d_X11_setsOut_18 := gq_3 db00d_0 eb_16
noncomputable def d_X11_setsOut_19 := gq_4 db00d_0 eb_24
noncomputable def d_X11_setsOut_20 := gq_5 db00d_0 eb_14
noncomputable def d_X11_setsOut_21 := gq_6 db00d_0 eb_683
noncomputable def d_X11_setsOut_24 := gq_7 db00d_0 eb_24
noncomputable def d_X11_setsOut_25 := gq_8 db00d_0 eb_0
noncomputable def d_X11_setsOut_26 := gq_9 db00d_0 eb_628
noncomputable def d_X11_setsOut_29 := gq_10 db00d_0 eb_30
noncomputable def d_X11_setsOut_30 := gq_11 db00d_0 eb_36
noncomputable def d_X11_setsOut_31 := gq_12 db00d_0 eb_680
noncomputable def d_X11_setsOut_34 := gq_13 db00d_0 eb_0
noncomputable def d_X11_setsOut_35 := gq_14 db00d_0 eb_24
noncomputable def d_X11_setsOut_36 := gq_15 db00d_0 eb_27
noncomputable def d_X11_setsOut_37 := gq_16 db00d_0 eb_640
noncomputable def d_X11_setsOut_40 := gq_17 db00d_0 eb_20
noncomputable def d_X11_setsOut_41 := gq_18 db00d_0 eb_16
theorem db00d_1 : Pf_ prog_1_method_28_code [(0, [0x2b]), (1, [0xb4, 0x00, 0xb0]), (4, [0x2b]), (5, [0xb4, 0x00, 0xb7]), (8, [0xa2, 0x00, 0x3a]), (11, [0x2a]), (12, [0xb4, 0x00, 0x31]), (15, [0x2b]), (16, [0xb4, 0x00, 0xb0]), (19, [0x1c]), (20, [0x1d]), (21, [0x2a]), (22, [0xb4, 0x00, 0x5c]), (25, [0xb6, 0x01, 0x1c]), (28, [0x2b]), (29, [0x59]), (30, [0xb4, 0x00, 0xb0]), (33, [0x04]), (34, [0x60]), (35, [0xb5, 0x00, 0xb0]), (38, [0x1c]), (39, [0x04]), (40, [0xa0, 0x00, 0x10]), (43, [0x2b])] := pf_ok prog_1_method_28_code _ 0 (by decide +kernel)
noncomputable def d_X11_settleRow_0 := gq_0 db00d_1 eb_24
noncomputable def d_X11_settleRow_1 := gq_1 db00d_1 eb_721
noncomputable def d_X11_settleRow_4 := gq_2 db00d_1 eb_24
noncomputable def d_X11_settleRow_5 := gq_3 db00d_1 eb_722
noncomputable def d_X11_settleRow_8 := gq_4 db00d_1 eb_259
noncomputable def d_X11_settleRow_11 := gq_5 db00d_1 eb_0
noncomputable def d_X11_settleRow_12 := gq_6 db00d_1 eb_288
noncomputable def d_X11_settleRow_15 := gq_7 db00d_1 eb_24
noncomputable def d_X11_settleRow_16 := gq_8 db00d_1 eb_721
noncomputable def d_X11_settleRow_19 := gq_9 db00d_1 eb_14
noncomputable def d_X11_settleRow_20 := gq_10 db00d_1 eb_30
noncomputable def d_X11_settleRow_21 := gq_11 db00d_1 eb_0
noncomputable def d_X11_settleRow_22 := gq_12 db00d_1 eb_628
noncomputable def d_X11_settleRow_25 := gq_13 db00d_1 eb_723
noncomputable def d_X11_settleRow_28 := gq_14 db00d_1 eb_24
noncomputable def d_X11_settleRow_29 := gq_15 db00d_1 eb_47
noncomputable def d_X11_settleRow_30 := gq_16 db00d_1 eb_721
noncomputable def d_X11_settleRow_33 := gq_17 db00d_1 eb_20
noncomputable def d_X11_settleRow_34 := gq_18 db00d_1 eb_36
noncomputable def d_X11_settleRow_35 := gq_19 db00d_1 eb_660
noncomputable def d_X11_settleRow_38 := gq_20 db00d_1 eb_14
noncomputable def d_X11_settleRow_39 := gq_21 db00d_1 eb_20
noncomputable def d_X11_settleRow_40 := gq_22 db00d_1 eb_80
noncomputable def d_X11_settleRow_43 := gq_23 db00d_1 eb_24
theorem db00d_2 : Pf_ prog_1_method_28_code [(44, [0x59]), (45, [0xb4, 0x01, 0x1f]), (48, [0x04]), (49, [0x60]), (50, [0xb5, 0x01, 0x1f]), (53, [0xa7, 0x00, 0x0d]), (56, [0x2b]), (57, [0x59]), (58, [0xb4, 0x01, 0x22]), (61, [0x04]), (62, [0x60]), (63, [0xb5, 0x01, 0x22]), (66, [0xb1])] := pf_ok prog_1_method_28_code _ 44 (by decide +kernel)
noncomputable def d_X11_settleRow_44 := gq_0 db00d_2 eb_47
noncomputable def d_X11_settleRow_45 := gq_1 db00d_2 eb_724
noncomputable def d_X11_settleRow_48 := gq_2 db00d_2 eb_20
noncomputable def d_X11_settleRow_49 := gq_3 db00d_2 eb_36
noncomputable def d_X11_settleRow_50 := gq_4 db00d_2 eb_725
noncomputable def d_X11_settleRow_53 := gq_5 db00d_2 eb_141
noncomputable def d_X11_settleRow_56 := gq_6 db00d_2 eb_24
noncomputable def d_X11_settleRow_57 := gq_7 db00d_2 eb_47
noncomputable def d_X11_settleRow_58 := gq_8 db00d_2 eb_726
noncomputable def d_X11_settleRow_61 := gq_9 db00d_2 eb_20
noncomputable def d_X11_settleRow_62 := gq_10 db00d_2 eb_36
noncomputable def d_X11_settleRow_63 := gq_11 db00d_2 eb_727
noncomputable def d_X11_settleRow_66 := gq_12 db00d_2 eb_8
theorem db00d_3 : Pf_ prog_1_method_29_code [(0, [0x2b]), (1, [0xb4, 0x00, 0x9e]), (4, [0x04]), (5, [0xa0, 0x00, 0x1e]), (8, [0x2b]), (9, [0xb6, 0x01, 0x25]), (12, [0x3e]), (13, [0x03]), (14, [0x36, 0x04]), (16, [0x15, 0x04]), (18, [0x1d]), (19, [0xa2, 0x00, 0x10]), (22, [0x2a]), (23, [0x2b]), (24, [0x05]), (25, [0x1c]), (26, [0xb6, 0x01, 0x18]), (29, [0x84, 0x04, 0x01]), (32, [0xa7, 0xff, 0xf0]), (35, [0xb1])] := pf_ok prog_1_method_29_code _ 0 (by decide +kernel)
noncomputable def d_X11_drop_0 := gq_0 db00d_3 eb_24
noncomputable def d_X11_drop_1 := gq_1 db00d_3 eb_653
noncomputable def d_X11_drop_4 := gq_2 db00d_3 eb_20
noncomputable def d_X11_drop_5 := gq_3 db00d_3 eb_255
noncomputable def d_X11_drop_8 := gq_4 db00d_3 eb_24
noncomputable def d_X11_drop_9 := gq_5 db00d_3 eb_728
noncomputable def d_X11_drop_12 := gq_6 db00d_3 eb_29
noncomputable def d_X11_drop_13 := gq_7 db00d_3 eb_22
noncomputable def d_X11_drop_14 := gq_8 db00d_3 eb_134
noncomputable def d_X11_drop_16 := gq_9 db00d_3 eb_77
noncomputable def d_X11_drop_18 := gq_10 db00d_3 eb_30
noncomputable def d_X11_drop_19 := gq_11 db00d_3 eb_246
noncomputable def d_X11_drop_22 := gq_12 db00d_3 eb_0
noncomputable def d_X11_drop_23 := gq_13 db00d_3 eb_24
noncomputable def d_X11_drop_24 := gq_14 db00d_3 eb_11
noncomputable def d_X11_drop_25 := gq_15 db00d_3 eb_14
noncomputable def d_X11_drop_26 := gq_16 db00d_3 eb_715
noncomputable def d_X11_drop_29 := gq_17 db00d_3 eb_146
noncomputable def d_X11_drop_32 := gq_18 db00d_3 eb_729
noncomputable def d_X11_drop_35 := gq_19 db00d_3 eb_8
theorem db00d_4 : Pf_ prog_1_method_30_code [(0, [0x2b]), (1, [0x05]), (2, [0xb5, 0x00, 0x9e]), (5, [0x2a]), (6, [0x2b]), (7, [0x2b]), (8, [0xb4, 0x00, 0xcc]), (11, [0xb6, 0x01, 0x12]), (14, [0x9a, 0x00, 0x11]), (17, [0x2a]), (18, [0x2b]), (19, [0x2b]), (20, [0xb4, 0x00, 0xcc]), (23, [0xb6, 0x00, 0x7a]), (26, [0x2a]), (27, [0x2b]), (28, [0xb6, 0x00, 0xe1]), (31, [0xb1])] := pf_ok prog_1_method_30_code _ 0 (by decide +kernel)
noncomputable def d_X11_goHome_0 := gq_0 db00d_4 eb_24
noncomputable def d_X11_goHome_1 := gq_1 db00d_4 eb_11
noncomputable def d_X11_goHome_2 := gq_2 db00d_4 eb_655
noncomputable def d_X11_goHome_5 := gq_3 db00d_4 eb_0
noncomputable def d_X11_goHome_6 := gq_4 db00d_4 eb_24
noncomputable def d_X11_goHome_7 := gq_5 db00d_4 eb_24
noncomputable def d_X11_goHome_8 := gq_6 db00d_4 eb_674
noncomputable def d_X11_goHome_11 := gq_7 db00d_4 eb_713
noncomputable def d_X11_goHome_14 := gq_8 db00d_4 eb_730
noncomputable def d_X11_goHome_17 := gq_9 db00d_4 eb_0
noncomputable def d_X11_goHome_18 := gq_10 db00d_4 eb_24
noncomputable def d_X11_goHome_19 := gq_11 db00d_4 eb_24
noncomputable def d_X11_goHome_20 := gq_12 db00d_4 eb_674
noncomputable def d_X11_goHome_23 := gq_13 db00d_4 eb_640
noncomputable def d_X11_goHome_26 := gq_14 db00d_4 eb_0
noncomputable def d_X11_goHome_27 := gq_15 db00d_4 eb_24
noncomputable def d_X11_goHome_28 := gq_16 db00d_4 eb_684
noncomputable def d_X11_goHome_31 := gq_17 db00d_4 eb_8
theorem db00d_5 : Pf_ prog_1_method_31_code [(0, [0x2b]), (1, [0x03]), (2, [0xb5, 0x00, 0x9e]), (5, [0x2b]), (6, [0x02]), (7, [0xb5, 0x00, 0xdb]), (10, [0x2a]), (11, [0xb4, 0x00, 0x38]), (14, [0x2b]), (15, [0xb4, 0x00, 0x7e]), (18, [0x2a]), (19, [0xb4, 0x00, 0x5c]), (22, [0xb6, 0x01, 0x28]), (25, [0xb1])] := pf_ok prog_1_method_31_code _ 0 (by decide +kernel)
noncomputable def d_X11_setFree_0 := gq_0 db00d_5 eb_24
noncomputable def d_X11_setFree_1 := gq_1 db00d_5 eb_22
noncomputable def d_X11_setFree_2 := gq_2 db00d_5 eb_655
noncomputable def d_X11_setFree_5 := gq_3 db00d_5 eb_24
noncomputable def d_X11_setFree_6 := gq_4 db00d_5 eb_27
noncomputable def d_X11_setFree_7 := gq_5 db00d_5 eb_680
noncomputable def d_X11_setFree_10 := gq_6 db00d_5 eb_0
noncomputable def d_X11_setFree_11 := gq_7 db00d_5 eb_497
noncomputable def d_X11_setFree_14 := gq_8 db00d_5 eb_24
noncomputable def d_X11_setFree_15 := gq_9 db00d_5 eb_641
noncomputable def d_X11_setFree_18 := gq_10 db00d_5 eb_0
noncomputable def d_X11_setFree_19 := gq_11 db00d_5 eb_628
noncomputable def d_X11_setFree_22 := gq_12 db00d_5 eb_731
noncomputable def d_X11_setFree_25 := gq_13 db00d_5 eb_8
theorem db00d_6 : Pf_ prog_1_method_32_code [(0, [0x2a]), (1, [0x2b]), (2, [0x2b]), (3, [0xb4, 0x00, 0xd2]), (6, [0xb6, 0x01, 0x12]), (9, [0x99, 0x00, 0x04]), (12, [0xb1]), (13, [0x2b]), (14, [0xb4, 0x01, 0x15]), (17, [0x2b]), (18, [0xb4, 0x00, 0xd2]), (21, [0xa0, 0x00, 0x19]), (24, [0x2b]), (25, [0xb4, 0x00, 0xd5]), (28, [0x2a]), (29, [0xb4, 0x00, 0x5c]), (32, [0xa4, 0x00, 0x0e]), (35, [0x2b]), (36, [0x2b]), (37, [0xb4, 0x00, 0xd5]), (40, [0xb5, 0x00, 0xdb]), (43, [0xa7, 0x00, 0x08]), (46, [0x2a]), (47, [0x2b])] := pf_ok prog_1_method_32_code _ 0 (by decide +kernel)
noncomputable def d_X11_serveDrawn_0 := gq_0 db00d_6 eb_0
noncomputable def d_X11_serveDrawn_1 := gq_1 db00d_6 eb_24
noncomputable def d_X11_serveDrawn_2 := gq_2 db00d_6 eb_24
noncomputable def d_X11_serveDrawn_3 := gq_3 db00d_6 eb_732
noncomputable def d_X11_serveDrawn_6 := gq_4 db00d_6 eb_713
noncomputable def d_X11_serveDrawn_9 := gq_5 db00d_6 eb_709
noncomputable def d_X11_serveDrawn_12 := gq_6 db00d_6 eb_8
noncomputable def d_X11_serveDrawn_13 := gq_7 db00d_6 eb_24
noncomputable def d_X11_serveDrawn_14 := gq_8 db00d_6 eb_714
noncomputable def d_X11_serveDrawn_17 := gq_9 db00d_6 eb_24
noncomputable def d_X11_serveDrawn_18 := gq_10 db00d_6 eb_732
noncomputable def d_X11_serveDrawn_21 := gq_11 db00d_6 eb_72
noncomputable def d_X11_serveDrawn_24 := gq_12 db00d_6 eb_24
noncomputable def d_X11_serveDrawn_25 := gq_13 db00d_6 eb_733
noncomputable def d_X11_serveDrawn_28 := gq_14 db00d_6 eb_0
noncomputable def d_X11_serveDrawn_29 := gq_15 db00d_6 eb_628
noncomputable def d_X11_serveDrawn_32 := gq_16 db00d_6 eb_734
noncomputable def d_X11_serveDrawn_35 := gq_17 db00d_6 eb_24
noncomputable def d_X11_serveDrawn_36 := gq_18 db00d_6 eb_24
noncomputable def d_X11_serveDrawn_37 := gq_19 db00d_6 eb_733
noncomputable def d_X11_serveDrawn_40 := gq_20 db00d_6 eb_680
noncomputable def d_X11_serveDrawn_43 := gq_21 db00d_6 eb_505
noncomputable def d_X11_serveDrawn_46 := gq_22 db00d_6 eb_0
noncomputable def d_X11_serveDrawn_47 := gq_23 db00d_6 eb_24
theorem db00d_7 : Pf_ prog_1_method_32_code [(48, [0xb6, 0x01, 0x0c]), (51, [0xb1])] := pf_ok prog_1_method_32_code _ 48 (by decide +kernel)
noncomputable def d_X11_serveDrawn_48 := gq_0 db00d_7 eb_711
noncomputable def d_X11_serveDrawn_51 := gq_1 db00d_7 eb_8
theorem db00d_8 : Pf_ prog_1_method_33_code [(0, [0x2b]), (1, [0x1c]), (2, [0xb5, 0x01, 0x15]), (5, [0x08]), (6, [0x2b]), (7, [0xb4, 0x00, 0x7e]), (10, [0x68]), (11, [0x3e]), (12, [0x1c]), (13, [0x02]), (14, [0xa0, 0x00, 0x09]), (17, [0x14, 0x01, 0x2c]), (20, [0xa7, 0x00, 0x07]), (23, [0x1c]), (24, [0x04]), (25, [0x60]), (26, [0x85]), (27, [0x37, 0x04]), (29, [0x2a]), (30, [0x2a]), (31, [0xb4, 0x00, 0xe8]), (34, [0x14, 0x01, 0x2e]), (37, [0x1d]), (38, [0x79])] := pf_ok prog_1_method_33_code _ 0 (by decide +kernel)
noncomputable def d_X11_putAt_0 := gq_0 db00d_8 eb_24
noncomputable def d_X11_putAt_1 := gq_1 db00d_8 eb_14
noncomputable def d_X11_putAt_2 := gq_2 db00d_8 eb_735
noncomputable def d_X11_putAt_5 := gq_3 db00d_8 eb_123
noncomputable def d_X11_putAt_6 := gq_4 db00d_8 eb_24
noncomputable def d_X11_putAt_7 := gq_5 db00d_8 eb_641
noncomputable def d_X11_putAt_10 := gq_6 db00d_8 eb_35
noncomputable def d_X11_putAt_11 := gq_7 db00d_8 eb_29
noncomputable def d_X11_putAt_12 := gq_8 db00d_8 eb_14
noncomputable def d_X11_putAt_13 := gq_9 db00d_8 eb_27
noncomputable def d_X11_putAt_14 := gq_10 db00d_8 eb_160
noncomputable def d_X11_putAt_17 := gq_11 db00d_8 eb_736
noncomputable def d_X11_putAt_20 := gq_12 db00d_8 eb_206
noncomputable def d_X11_putAt_23 := gq_13 db00d_8 eb_14
noncomputable def d_X11_putAt_24 := gq_14 db00d_8 eb_20
noncomputable def d_X11_putAt_25 := gq_15 db00d_8 eb_36
noncomputable def d_X11_putAt_26 := gq_16 db00d_8 eb_393
noncomputable def d_X11_putAt_27 := gq_17 db00d_8 eb_383
noncomputable def d_X11_putAt_29 := gq_18 db00d_8 eb_0
noncomputable def d_X11_putAt_30 := gq_19 db00d_8 eb_0
noncomputable def d_X11_putAt_31 := gq_20 db00d_8 eb_690
noncomputable def d_X11_putAt_34 := gq_21 db00d_8 eb_737
noncomputable def d_X11_putAt_37 := gq_22 db00d_8 eb_30
noncomputable def d_X11_putAt_38 := gq_23 db00d_8 eb_387
theorem db00d_9 : Pf_ prog_1_method_33_code [(39, [0x14, 0x01, 0x30]), (42, [0x83]), (43, [0x7f]), (44, [0x16, 0x04]), (46, [0x1d]), (47, [0x79]), (48, [0x81]), (49, [0xb5, 0x00, 0xe8]), (52, [0xb1])] := pf_ok prog_1_method_33_code _ 39 (by decide +kernel)
noncomputable def d_X11_putAt_39 := gq_0 db00d_9 eb_738
noncomputable def d_X11_putAt_42 := gq_1 db00d_9 eb_739
noncomputable def d_X11_putAt_43 := gq_2 db00d_9 eb_740
noncomputable def d_X11_putAt_44 := gq_3 db00d_9 eb_385
noncomputable def d_X11_putAt_46 := gq_4 db00d_9 eb_30
noncomputable def d_X11_putAt_47 := gq_5 db00d_9 eb_387
noncomputable def d_X11_putAt_48 := gq_6 db00d_9 eb_388
noncomputable def d_X11_putAt_49 := gq_7 db00d_9 eb_741
noncomputable def d_X11_putAt_52 := gq_8 db00d_9 eb_8
theorem db00d_10 : Pf_ prog_1_method_34_code [(0, [0x1c]), (1, [0x2a]), (2, [0xb4, 0x00, 0x5c]), (5, [0xa2, 0x00, 0x15]), (8, [0x1c]), (9, [0x2a]), (10, [0xb4, 0x00, 0x58]), (13, [0xbe]), (14, [0xa2, 0x00, 0x0c]), (17, [0x2a]), (18, [0xb4, 0x00, 0x58]), (21, [0x1c]), (22, [0x2f]), (23, [0xa7, 0x00, 0x07]), (26, [0x2a]), (27, [0xb4, 0x00, 0xe8]), (30, [0x42]), (31, [0x21]), (32, [0x08]), (33, [0x1b]), (34, [0x68]), (35, [0x7b]), (36, [0x88]), (37, [0x10, 0x1f])] := pf_ok prog_1_method_34_code _ 0 (by decide +kernel)
noncomputable def d_X11_placeSign_0 := gq_0 db00d_10 eb_14
noncomputable def d_X11_placeSign_1 := gq_1 db00d_10 eb_0
noncomputable def d_X11_placeSign_2 := gq_2 db00d_10 eb_628
noncomputable def d_X11_placeSign_5 := gq_3 db00d_10 eb_170
noncomputable def d_X11_placeSign_8 := gq_4 db00d_10 eb_14
noncomputable def d_X11_placeSign_9 := gq_5 db00d_10 eb_0
noncomputable def d_X11_placeSign_10 := gq_6 db00d_10 eb_689
noncomputable def d_X11_placeSign_13 := gq_7 db00d_10 eb_53
noncomputable def d_X11_placeSign_14 := gq_8 db00d_10 eb_54
noncomputable def d_X11_placeSign_17 := gq_9 db00d_10 eb_0
noncomputable def d_X11_placeSign_18 := gq_10 db00d_10 eb_689
noncomputable def d_X11_placeSign_21 := gq_11 db00d_10 eb_14
noncomputable def d_X11_placeSign_22 := gq_12 db00d_10 eb_394
noncomputable def d_X11_placeSign_23 := gq_13 db00d_10 eb_206
noncomputable def d_X11_placeSign_26 := gq_14 db00d_10 eb_0
noncomputable def d_X11_placeSign_27 := gq_15 db00d_10 eb_690
noncomputable def d_X11_placeSign_30 := gq_16 db00d_10 eb_742
noncomputable def d_X11_placeSign_31 := gq_17 db00d_10 eb_392
noncomputable def d_X11_placeSign_32 := gq_18 db00d_10 eb_123
noncomputable def d_X11_placeSign_33 := gq_19 db00d_10 eb_10
noncomputable def d_X11_placeSign_34 := gq_20 db00d_10 eb_35
noncomputable def d_X11_placeSign_35 := gq_21 db00d_10 eb_401
noncomputable def d_X11_placeSign_36 := gq_22 db00d_10 eb_402
noncomputable def d_X11_placeSign_37 := gq_23 db00d_10 eb_743
theorem db00d_11 : Pf_ prog_1_method_34_code [(39, [0x7e]), (40, [0xac])] := pf_ok prog_1_method_34_code _ 39 (by decide +kernel)
noncomputable def d_X11_placeSign_39 := gq_0 db00d_11 eb_56
noncomputable def d_X11_placeSign_40 := gq_1 db00d_11 eb_16
theorem d_X11_about_22 : decode prog_1_method_35_code 22 = .ok (.tableswitch 107 0 8 #[50, 55, 60, 65, 70, 87, 92, 97, 102], 50) := by decide +kernel
theorem db00d_12 : Pf_ prog_1_method_35_code [(0, [0x2a]), (1, [0x1b]), (2, [0xb6, 0x00, 0x64]), (5, [0x4e]), (6, [0x2d]), (7, [0xc7, 0x00, 0x0e]), (10, [0xbb, 0x01, 0x32]), (13, [0x59]), (14, [0x13, 0x01, 0x34]), (17, [0xb7, 0x01, 0x36]), (20, [0xbf]), (21, [0x1c]), (72, [0x2d]), (73, [0xb4, 0x00, 0x9e]), (76, [0xac]), (77, [0x2d]), (78, [0xb4, 0x01, 0x15]), (81, [0xac]), (82, [0x2d]), (83, [0xb4, 0x00, 0xd8]), (86, [0xac]), (87, [0x2d]), (88, [0xb4, 0x00, 0xdb]), (91, [0xac])] := pf_ok prog_1_method_35_code _ 0 (by decide +kernel)
noncomputable def d_X11_about_0 := gq_0 db00d_12 eb_0
noncomputable def d_X11_about_1 := gq_1 db00d_12 eb_10
noncomputable def d_X11_about_2 := gq_2 db00d_12 eb_168
noncomputable def d_X11_about_5 := gq_3 db00d_12 eb_650
noncomputable def d_X11_about_6 := gq_4 db00d_12 eb_315
noncomputable def d_X11_about_7 := gq_5 db00d_12 eb_744
noncomputable def d_X11_about_10 := gq_6 db00d_12 eb_745
noncomputable def d_X11_about_13 := gq_7 db00d_12 eb_47
noncomputable def d_X11_about_14 := gq_8 db00d_12 eb_746
noncomputable def d_X11_about_17 := gq_9 db00d_12 eb_747
noncomputable def d_X11_about_20 := gq_10 db00d_12 eb_748
noncomputable def d_X11_about_21 := gq_11 db00d_12 eb_14
noncomputable def d_X11_about_72 := gq_12 db00d_12 eb_315
noncomputable def d_X11_about_73 := gq_13 db00d_12 eb_653
noncomputable def d_X11_about_76 := gq_14 db00d_12 eb_16
noncomputable def d_X11_about_77 := gq_15 db00d_12 eb_315
noncomputable def d_X11_about_78 := gq_16 db00d_12 eb_714
noncomputable def d_X11_about_81 := gq_17 db00d_12 eb_16
noncomputable def d_X11_about_82 := gq_18 db00d_12 eb_315
noncomputable def d_X11_about_83 := gq_19 db00d_12 eb_679
noncomputable def d_X11_about_86 := gq_20 db00d_12 eb_16
noncomputable def d_X11_about_87 := gq_21 db00d_12 eb_315
noncomputable def d_X11_about_88 := gq_22 db00d_12 eb_694
noncomputable def d_X11_about_91 := gq_23 db00d_12 eb_16
theorem db00d_13 : Pf_ prog_1_method_35_code [(92, [0x2d]), (93, [0xb4, 0x00, 0x9e]), (96, [0x04]), (97, [0xa0, 0x00, 0x0a]), (100, [0x2d]), (101, [0xb4, 0x00, 0xa7]), (104, [0xa7, 0x00, 0x04]), (107, [0x02]), (108, [0xac]), (109, [0x2d]), (110, [0xb4, 0x01, 0x1f]), (113, [0xac]), (114, [0x2d]), (115, [0xb4, 0x01, 0x22]), (118, [0xac]), (119, [0x2d]), (120, [0xb4, 0x01, 0x39]), (123, [0xac]), (124, [0x2d]), (125, [0xb4, 0x00, 0xcc]), (128, [0xac]), (129, [0xbb, 0x01, 0x32]), (132, [0x59]), (133, [0x13, 0x01, 0x3c])] := pf_ok prog_1_method_35_code _ 92 (by decide +kernel)
noncomputable def d_X11_about_92 := gq_0 db00d_13 eb_315
noncomputable def d_X11_about_93 := gq_1 db00d_13 eb_653
noncomputable def d_X11_about_96 := gq_2 db00d_13 eb_20
noncomputable def d_X11_about_97 := gq_3 db00d_13 eb_262
noncomputable def d_X11_about_100 := gq_4 db00d_13 eb_315
noncomputable def d_X11_about_101 := gq_5 db00d_13 eb_703
noncomputable def d_X11_about_104 := gq_6 db00d_13 eb_21
noncomputable def d_X11_about_107 := gq_7 db00d_13 eb_27
noncomputable def d_X11_about_108 := gq_8 db00d_13 eb_16
noncomputable def d_X11_about_109 := gq_9 db00d_13 eb_315
noncomputable def d_X11_about_110 := gq_10 db00d_13 eb_724
noncomputable def d_X11_about_113 := gq_11 db00d_13 eb_16
noncomputable def d_X11_about_114 := gq_12 db00d_13 eb_315
noncomputable def d_X11_about_115 := gq_13 db00d_13 eb_726
noncomputable def d_X11_about_118 := gq_14 db00d_13 eb_16
noncomputable def d_X11_about_119 := gq_15 db00d_13 eb_315
noncomputable def d_X11_about_120 := gq_16 db00d_13 eb_749
noncomputable def d_X11_about_123 := gq_17 db00d_13 eb_16
noncomputable def d_X11_about_124 := gq_18 db00d_13 eb_315
noncomputable def d_X11_about_125 := gq_19 db00d_13 eb_674
noncomputable def d_X11_about_128 := gq_20 db00d_13 eb_16
noncomputable def d_X11_about_129 := gq_21 db00d_13 eb_745
noncomputable def d_X11_about_132 := gq_22 db00d_13 eb_47
noncomputable def d_X11_about_133 := gq_23 db00d_13 eb_750
theorem db00d_14 : Pf_ prog_1_method_35_code [(136, [0xb7, 0x01, 0x36]), (139, [0xbf])] := pf_ok prog_1_method_35_code _ 136 (by decide +kernel)
noncomputable def d_X11_about_136 := gq_0 db00d_14 eb_747
noncomputable def d_X11_about_139 := gq_1 db00d_14 eb_748
theorem db00d_15 : Pf_ prog_1_method_36_code [(0, [0x2a]), (1, [0x1b]), (2, [0xb6, 0x01, 0x3e]), (5, [0x99, 0x00, 0x0b]), (8, [0x2a]), (9, [0x1c]), (10, [0xb6, 0x01, 0x41]), (13, [0x9a, 0x00, 0x05]), (16, [0x02]), (17, [0xac]), (18, [0x2a]), (19, [0x1b]), (20, [0x1c]), (21, [0xb6, 0x01, 0x44]), (24, [0x3e]), (25, [0x1d]), (26, [0x99, 0x00, 0x09]), (29, [0x1d]), (30, [0x10, 0x11]), (32, [0xa0, 0x00, 0x07]), (35, [0x02]), (36, [0xa7, 0x00, 0x06]), (39, [0x1d]), (40, [0x04])] := pf_ok prog_1_method_36_code _ 0 (by decide +kernel)
noncomputable def d_X11_was_0 := gq_0 db00d_15 eb_0
noncomputable def d_X11_was_1 := gq_1 db00d_15 eb_10
noncomputable def d_X11_was_2 := gq_2 db00d_15 eb_751
noncomputable def d_X11_was_5 := gq_3 db00d_15 eb_752
noncomputable def d_X11_was_8 := gq_4 db00d_15 eb_0
noncomputable def d_X11_was_9 := gq_5 db00d_15 eb_14
noncomputable def d_X11_was_10 := gq_6 db00d_15 eb_753
noncomputable def d_X11_was_13 := gq_7 db00d_15 eb_152
noncomputable def d_X11_was_16 := gq_8 db00d_15 eb_27
noncomputable def d_X11_was_17 := gq_9 db00d_15 eb_16
noncomputable def d_X11_was_18 := gq_10 db00d_15 eb_0
noncomputable def d_X11_was_19 := gq_11 db00d_15 eb_10
noncomputable def d_X11_was_20 := gq_12 db00d_15 eb_14
noncomputable def d_X11_was_21 := gq_13 db00d_15 eb_754
noncomputable def d_X11_was_24 := gq_14 db00d_15 eb_29
noncomputable def d_X11_was_25 := gq_15 db00d_15 eb_30
noncomputable def d_X11_was_26 := gq_16 db00d_15 eb_252
noncomputable def d_X11_was_29 := gq_17 db00d_15 eb_30
noncomputable def d_X11_was_30 := gq_18 db00d_15 eb_755
noncomputable def d_X11_was_32 := gq_19 db00d_15 eb_136
noncomputable def d_X11_was_35 := gq_20 db00d_15 eb_27
noncomputable def d_X11_was_36 := gq_21 db00d_15 eb_756
noncomputable def d_X11_was_39 := gq_22 db00d_15 eb_30
noncomputable def d_X11_was_40 := gq_23 db00d_15 eb_20
theorem db00d_16 : Pf_ prog_1_method_36_code [(41, [0x64]), (42, [0xac])] := pf_ok prog_1_method_36_code _ 41 (by decide +kernel)
noncomputable def d_X11_was_41 := gq_0 db00d_16 eb_49
noncomputable def d_X11_was_42 := gq_1 db00d_16 eb_16
theorem db00d_17 : Pf_ prog_1_method_37_code [(0, [0x2a]), (1, [0x1c]), (2, [0xb6, 0x01, 0x41]), (5, [0x99, 0x00, 0x1b]), (8, [0x2a]), (9, [0xb4, 0x00, 0x31]), (12, [0x1b]), (13, [0xb6, 0x01, 0x47]), (16, [0x99, 0x00, 0x10]), (19, [0x2a]), (20, [0xb4, 0x00, 0x31]), (23, [0x1b]), (24, [0x1c]), (25, [0x1d]), (26, [0xb6, 0x01, 0x48]), (29, [0xa7, 0x00, 0x04]), (32, [0x02]), (33, [0xac])] := pf_ok prog_1_method_37_code _ 0 (by decide +kernel)
noncomputable def d_X11_point_0 := gq_0 db00d_17 eb_0
noncomputable def d_X11_point_1 := gq_1 db00d_17 eb_14
noncomputable def d_X11_point_2 := gq_2 db00d_17 eb_753
noncomputable def d_X11_point_5 := gq_3 db00d_17 eb_447
noncomputable def d_X11_point_8 := gq_4 db00d_17 eb_0
noncomputable def d_X11_point_9 := gq_5 db00d_17 eb_288
noncomputable def d_X11_point_12 := gq_6 db00d_17 eb_10
noncomputable def d_X11_point_13 := gq_7 db00d_17 eb_757
noncomputable def d_X11_point_16 := gq_8 db00d_17 eb_137
noncomputable def d_X11_point_19 := gq_9 db00d_17 eb_0
noncomputable def d_X11_point_20 := gq_10 db00d_17 eb_288
noncomputable def d_X11_point_23 := gq_11 db00d_17 eb_10
noncomputable def d_X11_point_24 := gq_12 db00d_17 eb_14
noncomputable def d_X11_point_25 := gq_13 db00d_17 eb_30
noncomputable def d_X11_point_26 := gq_14 db00d_17 eb_758
noncomputable def d_X11_point_29 := gq_15 db00d_17 eb_21
noncomputable def d_X11_point_32 := gq_16 db00d_17 eb_27
noncomputable def d_X11_point_33 := gq_17 db00d_17 eb_16
theorem db00d_18 : Pf_ prog_1_method_38_code [(0, [0x2a]), (1, [0xb4, 0x00, 0x31]), (4, [0x1b]), (5, [0xb6, 0x01, 0x47]), (8, [0x99, 0x00, 0x21]), (11, [0x1c]), (12, [0x04]), (13, [0x10, 0x09]), (15, [0xb8, 0x00, 0x60]), (18, [0x99, 0x00, 0x17]), (21, [0x2a]), (22, [0xb4, 0x00, 0x31]), (25, [0x1b]), (26, [0x1c]), (27, [0x2a]), (28, [0xb4, 0x00, 0x5c]), (31, [0xb6, 0x01, 0x4b]), (34, [0x99, 0x00, 0x07]), (37, [0x04]), (38, [0xa7, 0x00, 0x04]), (41, [0x03]), (42, [0xac])] := pf_ok prog_1_method_38_code _ 0 (by decide +kernel)
noncomputable def d_X11_cause_0 := gq_0 db00d_18 eb_0
noncomputable def d_X11_cause_1 := gq_1 db00d_18 eb_288
noncomputable def d_X11_cause_4 := gq_2 db00d_18 eb_10
noncomputable def d_X11_cause_5 := gq_3 db00d_18 eb_757
noncomputable def d_X11_cause_8 := gq_4 db00d_18 eb_465
noncomputable def d_X11_cause_11 := gq_5 db00d_18 eb_14
noncomputable def d_X11_cause_12 := gq_6 db00d_18 eb_20
noncomputable def d_X11_cause_13 := gq_7 db00d_18 eb_290
noncomputable def d_X11_cause_15 := gq_8 db00d_18 eb_629
noncomputable def d_X11_cause_18 := gq_9 db00d_18 eb_207
noncomputable def d_X11_cause_21 := gq_10 db00d_18 eb_0
noncomputable def d_X11_cause_22 := gq_11 db00d_18 eb_288
noncomputable def d_X11_cause_25 := gq_12 db00d_18 eb_10
noncomputable def d_X11_cause_26 := gq_13 db00d_18 eb_14
noncomputable def d_X11_cause_27 := gq_14 db00d_18 eb_0
noncomputable def d_X11_cause_28 := gq_15 db00d_18 eb_628
noncomputable def d_X11_cause_31 := gq_16 db00d_18 eb_759
noncomputable def d_X11_cause_34 := gq_17 db00d_18 eb_124
noncomputable def d_X11_cause_37 := gq_18 db00d_18 eb_20
noncomputable def d_X11_cause_38 := gq_19 db00d_18 eb_21
noncomputable def d_X11_cause_41 := gq_20 db00d_18 eb_22
noncomputable def d_X11_cause_42 := gq_21 db00d_18 eb_16
theorem db00d_19 : Pf_ prog_1_method_39_code [(0, [0x1b]), (1, [0x04]), (2, [0x10, 0x09]), (4, [0xb8, 0x00, 0x60]), (7, [0x99, 0x00, 0x17]), (10, [0x2a]), (11, [0x1c]), (12, [0xb6, 0x01, 0x41]), (15, [0x99, 0x00, 0x0f]), (18, [0x2a]), (19, [0xb4, 0x00, 0x31]), (22, [0x1b]), (23, [0x1c]), (24, [0xb6, 0x01, 0x4e]), (27, [0xa7, 0x00, 0x04]), (30, [0x02]), (31, [0xac])] := pf_ok prog_1_method_39_code _ 0 (by decide +kernel)
noncomputable def d_X11_causes_0 := gq_0 db00d_19 eb_10
noncomputable def d_X11_causes_1 := gq_1 db00d_19 eb_20
noncomputable def d_X11_causes_2 := gq_2 db00d_19 eb_290
noncomputable def d_X11_causes_4 := gq_3 db00d_19 eb_629
noncomputable def d_X11_causes_7 := gq_4 db00d_19 eb_207
noncomputable def d_X11_causes_10 := gq_5 db00d_19 eb_0
noncomputable def d_X11_causes_11 := gq_6 db00d_19 eb_14
noncomputable def d_X11_causes_12 := gq_7 db00d_19 eb_753
noncomputable def d_X11_causes_15 := gq_8 db00d_19 eb_297
noncomputable def d_X11_causes_18 := gq_9 db00d_19 eb_0
noncomputable def d_X11_causes_19 := gq_10 db00d_19 eb_288
noncomputable def d_X11_causes_22 := gq_11 db00d_19 eb_10
noncomputable def d_X11_causes_23 := gq_12 db00d_19 eb_14
noncomputable def d_X11_causes_24 := gq_13 db00d_19 eb_760
noncomputable def d_X11_causes_27 := gq_14 db00d_19 eb_21
noncomputable def d_X11_causes_30 := gq_15 db00d_19 eb_27
noncomputable def d_X11_causes_31 := gq_16 db00d_19 eb_16
theorem db00d_20 : Pf_ prog_1_method_40_code [(0, [0x1b]), (1, [0x03]), (2, [0x10, 0x09]), (4, [0xb8, 0x00, 0x60]), (7, [0x99, 0x00, 0x15]), (10, [0x1c]), (11, [0xb8, 0x00, 0x6b]), (14, [0x99, 0x00, 0x0e]), (17, [0x15, 0x05]), (19, [0x04]), (20, [0x10, 0x09]), (22, [0xb8, 0x00, 0x60]), (25, [0x9a, 0x00, 0x05]), (28, [0x02]), (29, [0xac]), (30, [0x1d]), (31, [0x03]), (32, [0x11, 0x4e, 0x20]), (35, [0xb8, 0x00, 0x60]), (38, [0x99, 0x00, 0x0f]), (41, [0x15, 0x04]), (43, [0x1d]), (44, [0x11, 0x4e, 0x20]), (47, [0xb8, 0x00, 0x60])] := pf_ok prog_1_method_40_code _ 0 (by decide +kernel)
noncomputable def d_X11_find_0 := gq_0 db00d_20 eb_10
noncomputable def d_X11_find_1 := gq_1 db00d_20 eb_22
noncomputable def d_X11_find_2 := gq_2 db00d_20 eb_290
noncomputable def d_X11_find_4 := gq_3 db00d_20 eb_629
noncomputable def d_X11_find_7 := gq_4 db00d_20 eb_329
noncomputable def d_X11_find_10 := gq_5 db00d_20 eb_14
noncomputable def d_X11_find_11 := gq_6 db00d_20 eb_634
noncomputable def d_X11_find_14 := gq_7 db00d_20 eb_176
noncomputable def d_X11_find_17 := gq_8 db00d_20 eb_126
noncomputable def d_X11_find_19 := gq_9 db00d_20 eb_20
noncomputable def d_X11_find_20 := gq_10 db00d_20 eb_290
noncomputable def d_X11_find_22 := gq_11 db00d_20 eb_629
noncomputable def d_X11_find_25 := gq_12 db00d_20 eb_152
noncomputable def d_X11_find_28 := gq_13 db00d_20 eb_27
noncomputable def d_X11_find_29 := gq_14 db00d_20 eb_16
noncomputable def d_X11_find_30 := gq_15 db00d_20 eb_30
noncomputable def d_X11_find_31 := gq_16 db00d_20 eb_22
noncomputable def d_X11_find_32 := gq_17 db00d_20 eb_686
noncomputable def d_X11_find_35 := gq_18 db00d_20 eb_629
noncomputable def d_X11_find_38 := gq_19 db00d_20 eb_297
noncomputable def d_X11_find_41 := gq_20 db00d_20 eb_77
noncomputable def d_X11_find_43 := gq_21 db00d_20 eb_30
noncomputable def d_X11_find_44 := gq_22 db00d_20 eb_686
noncomputable def d_X11_find_47 := gq_23 db00d_20 eb_629
theorem db00d_21 : Pf_ prog_1_method_40_code [(50, [0x9a, 0x00, 0x05]), (53, [0x02]), (54, [0xac]), (55, [0x2a]), (56, [0xb4, 0x00, 0x38]), (59, [0x1b]), (60, [0x1c]), (61, [0x1d]), (62, [0x15, 0x04]), (64, [0x15, 0x05]), (66, [0xb6, 0x01, 0x51]), (69, [0xac])] := pf_ok prog_1_method_40_code _ 50 (by decide +kernel)
noncomputable def d_X11_find_50 := gq_0 db00d_21 eb_152
noncomputable def d_X11_find_53 := gq_1 db00d_21 eb_27
noncomputable def d_X11_find_54 := gq_2 db00d_21 eb_16
noncomputable def d_X11_find_55 := gq_3 db00d_21 eb_0
noncomputable def d_X11_find_56 := gq_4 db00d_21 eb_497
noncomputable def d_X11_find_59 := gq_5 db00d_21 eb_10
noncomputable def d_X11_find_60 := gq_6 db00d_21 eb_14
noncomputable def d_X11_find_61 := gq_7 db00d_21 eb_30
noncomputable def d_X11_find_62 := gq_8 db00d_21 eb_77
noncomputable def d_X11_find_64 := gq_9 db00d_21 eb_126
noncomputable def d_X11_find_66 := gq_10 db00d_21 eb_761
noncomputable def d_X11_find_69 := gq_11 db00d_21 eb_16
theorem db00d_22 : Pf_ prog_1_method_41_code [(0, [0x1b]), (1, [0x03]), (2, [0x10, 0x1e]), (4, [0xb8, 0x00, 0x60]), (7, [0x99, 0x00, 0x0f]), (10, [0x2a]), (11, [0xb4, 0x00, 0x13]), (14, [0x04]), (15, [0xb6, 0x00, 0x8c]), (18, [0x02]), (19, [0x9f, 0x00, 0x05]), (22, [0x02]), (23, [0xac]), (24, [0x2a]), (25, [0x2a]), (26, [0xb4, 0x00, 0x21]), (29, [0x1b]), (30, [0xb6, 0x01, 0x54]), (33, [0xac])] := pf_ok prog_1_method_41_code _ 0 (by decide +kernel)
noncomputable def d_X11_act_0 := gq_0 db00d_22 eb_10
noncomputable def d_X11_act_1 := gq_1 db00d_22 eb_22
noncomputable def d_X11_act_2 := gq_2 db00d_22 eb_93
noncomputable def d_X11_act_4 := gq_3 db00d_22 eb_629
noncomputable def d_X11_act_7 := gq_4 db00d_22 eb_297
noncomputable def d_X11_act_10 := gq_5 db00d_22 eb_0
noncomputable def d_X11_act_11 := gq_6 db00d_22 eb_642
noncomputable def d_X11_act_14 := gq_7 db00d_22 eb_20
noncomputable def d_X11_act_15 := gq_8 db00d_22 eb_419
noncomputable def d_X11_act_18 := gq_9 db00d_22 eb_27
noncomputable def d_X11_act_19 := gq_10 db00d_22 eb_121
noncomputable def d_X11_act_22 := gq_11 db00d_22 eb_27
noncomputable def d_X11_act_23 := gq_12 db00d_22 eb_16
noncomputable def d_X11_act_24 := gq_13 db00d_22 eb_0
noncomputable def d_X11_act_25 := gq_14 db00d_22 eb_0
noncomputable def d_X11_act_26 := gq_15 db00d_22 eb_110
noncomputable def d_X11_act_29 := gq_16 db00d_22 eb_10
noncomputable def d_X11_act_30 := gq_17 db00d_22 eb_762
noncomputable def d_X11_act_33 := gq_18 db00d_22 eb_16
theorem db00d_23 : Pf_ prog_1_method_42_code [(0, [0x2b]), (1, [0x1c]), (2, [0x2a]), (3, [0xb4, 0x00, 0x5c]), (6, [0x2a]), (7, [0xb4, 0x00, 0x13]), (10, [0xb6, 0x01, 0x58]), (13, [0x3e]), (14, [0x1d]), (15, [0x02]), (16, [0x9f, 0x00, 0x0c]), (19, [0x2a]), (20, [0xb4, 0x00, 0x13]), (23, [0x03]), (24, [0xb6, 0x00, 0x85]), (27, [0x57]), (28, [0x1d]), (29, [0xac])] := pf_ok prog_1_method_42_code _ 0 (by decide +kernel)
noncomputable def d_X11_keepRule_0 := gq_0 db00d_23 eb_24
noncomputable def d_X11_keepRule_1 := gq_1 db00d_23 eb_14
noncomputable def d_X11_keepRule_2 := gq_2 db00d_23 eb_0
noncomputable def d_X11_keepRule_3 := gq_3 db00d_23 eb_628
noncomputable def d_X11_keepRule_6 := gq_4 db00d_23 eb_0
noncomputable def d_X11_keepRule_7 := gq_5 db00d_23 eb_642
noncomputable def d_X11_keepRule_10 := gq_6 db00d_23 eb_763
noncomputable def d_X11_keepRule_13 := gq_7 db00d_23 eb_29
noncomputable def d_X11_keepRule_14 := gq_8 db00d_23 eb_30
noncomputable def d_X11_keepRule_15 := gq_9 db00d_23 eb_27
noncomputable def d_X11_keepRule_16 := gq_10 db00d_23 eb_549
noncomputable def d_X11_keepRule_19 := gq_11 db00d_23 eb_0
noncomputable def d_X11_keepRule_20 := gq_12 db00d_23 eb_642
noncomputable def d_X11_keepRule_23 := gq_13 db00d_23 eb_22
noncomputable def d_X11_keepRule_24 := gq_14 db00d_23 eb_644
noncomputable def d_X11_keepRule_27 := gq_15 db00d_23 eb_483
noncomputable def d_X11_keepRule_28 := gq_16 db00d_23 eb_30
noncomputable def d_X11_keepRule_29 := gq_17 db00d_23 eb_16
theorem db00d_24 : Pf_ prog_1_method_43_code [(0, [0x1b]), (1, [0x03]), (2, [0x10, 0x1e]), (4, [0xb8, 0x00, 0x60]), (7, [0x99, 0x00, 0x17]), (10, [0x2a]), (11, [0x1c]), (12, [0xb6, 0x01, 0x41]), (15, [0x99, 0x00, 0x0f]), (18, [0x2a]), (19, [0xb4, 0x00, 0x21]), (22, [0x1b]), (23, [0x1c]), (24, [0xb6, 0x01, 0x5b]), (27, [0xa7, 0x00, 0x04]), (30, [0x02]), (31, [0xac])] := pf_ok prog_1_method_43_code _ 0 (by decide +kernel)
noncomputable def d_X11_force_0 := gq_0 db00d_24 eb_10
noncomputable def d_X11_force_1 := gq_1 db00d_24 eb_22
noncomputable def d_X11_force_2 := gq_2 db00d_24 eb_93
noncomputable def d_X11_force_4 := gq_3 db00d_24 eb_629
noncomputable def d_X11_force_7 := gq_4 db00d_24 eb_207
noncomputable def d_X11_force_10 := gq_5 db00d_24 eb_0
noncomputable def d_X11_force_11 := gq_6 db00d_24 eb_14
noncomputable def d_X11_force_12 := gq_7 db00d_24 eb_753
noncomputable def d_X11_force_15 := gq_8 db00d_24 eb_297
noncomputable def d_X11_force_18 := gq_9 db00d_24 eb_0
noncomputable def d_X11_force_19 := gq_10 db00d_24 eb_110
noncomputable def d_X11_force_22 := gq_11 db00d_24 eb_10
noncomputable def d_X11_force_23 := gq_12 db00d_24 eb_14
noncomputable def d_X11_force_24 := gq_13 db00d_24 eb_764
noncomputable def d_X11_force_27 := gq_14 db00d_24 eb_21
noncomputable def d_X11_force_30 := gq_15 db00d_24 eb_27
noncomputable def d_X11_force_31 := gq_16 db00d_24 eb_16
theorem db00d_25 : Pf_ prog_1_method_44_code [(0, [0x03]), (1, [0x3d]), (2, [0x1c]), (3, [0x2a]), (4, [0xb4, 0x00, 0x38]), (7, [0xb4, 0x01, 0x5e]), (10, [0xa2, 0x00, 0x22]), (13, [0x2a]), (14, [0xb4, 0x00, 0x38]), (17, [0x1c]), (18, [0x2b]), (19, [0xb4, 0x01, 0x15]), (22, [0x2a]), (23, [0xb4, 0x00, 0x5c]), (26, [0xb6, 0x01, 0x61]), (29, [0x99, 0x00, 0x09]), (32, [0x2a]), (33, [0x2b]), (34, [0x1c]), (35, [0xb6, 0x01, 0x64]), (38, [0x84, 0x02, 0x01]), (41, [0xa7, 0xff, 0xd9]), (44, [0xb1])] := pf_ok prog_1_method_44_code _ 0 (by decide +kernel)
noncomputable def d_X11_look_0 := gq_0 db00d_25 eb_22
noncomputable def d_X11_look_1 := gq_1 db00d_25 eb_28
noncomputable def d_X11_look_2 := gq_2 db00d_25 eb_14
noncomputable def d_X11_look_3 := gq_3 db00d_25 eb_0
noncomputable def d_X11_look_4 := gq_4 db00d_25 eb_497
noncomputable def d_X11_look_7 := gq_5 db00d_25 eb_765
noncomputable def d_X11_look_10 := gq_6 db00d_25 eb_444
noncomputable def d_X11_look_13 := gq_7 db00d_25 eb_0
noncomputable def d_X11_look_14 := gq_8 db00d_25 eb_497
noncomputable def d_X11_look_17 := gq_9 db00d_25 eb_14
noncomputable def d_X11_look_18 := gq_10 db00d_25 eb_24
noncomputable def d_X11_look_19 := gq_11 db00d_25 eb_714
noncomputable def d_X11_look_22 := gq_12 db00d_25 eb_0
noncomputable def d_X11_look_23 := gq_13 db00d_25 eb_628
noncomputable def d_X11_look_26 := gq_14 db00d_25 eb_766
noncomputable def d_X11_look_29 := gq_15 db00d_25 eb_252
noncomputable def d_X11_look_32 := gq_16 db00d_25 eb_0
noncomputable def d_X11_look_33 := gq_17 db00d_25 eb_24
noncomputable def d_X11_look_34 := gq_18 db00d_25 eb_14
noncomputable def d_X11_look_35 := gq_19 db00d_25 eb_767
noncomputable def d_X11_look_38 := gq_20 db00d_25 eb_42
noncomputable def d_X11_look_41 := gq_21 db00d_25 eb_335
noncomputable def d_X11_look_44 := gq_22 db00d_25 eb_8
theorem db00d_26 : Pf_ prog_1_method_45_code [(0, [0x2a]), (1, [0xb4, 0x00, 0x5c]), (4, [0x11, 0x05, 0xa0]), (7, [0x6c]), (8, [0x3e]), (9, [0x2a]), (10, [0xb4, 0x00, 0x38]), (13, [0x2b]), (14, [0xb4, 0x00, 0x7e]), (17, [0x1c]), (18, [0x2a]), (19, [0xb4, 0x00, 0x5c]), (22, [0xb6, 0x01, 0x67]), (25, [0x36, 0x04]), (27, [0x2a]), (28, [0xb4, 0x00, 0x38]), (31, [0x15, 0x04]), (33, [0x08]), (34, [0x2a]), (35, [0xb4, 0x00, 0x54]), (38, [0x2b]), (39, [0x1d]), (40, [0x2a]), (41, [0xb4, 0x00, 0x5c])] := pf_ok prog_1_method_45_code _ 0 (by decide +kernel)
noncomputable def d_X11_see_0 := gq_0 db00d_26 eb_0
noncomputable def d_X11_see_1 := gq_1 db00d_26 eb_628
noncomputable def d_X11_see_4 := gq_2 db00d_26 eb_292
noncomputable def d_X11_see_7 := gq_3 db00d_26 eb_222
noncomputable def d_X11_see_8 := gq_4 db00d_26 eb_29
noncomputable def d_X11_see_9 := gq_5 db00d_26 eb_0
noncomputable def d_X11_see_10 := gq_6 db00d_26 eb_497
noncomputable def d_X11_see_13 := gq_7 db00d_26 eb_24
noncomputable def d_X11_see_14 := gq_8 db00d_26 eb_641
noncomputable def d_X11_see_17 := gq_9 db00d_26 eb_14
noncomputable def d_X11_see_18 := gq_10 db00d_26 eb_0
noncomputable def d_X11_see_19 := gq_11 db00d_26 eb_628
noncomputable def d_X11_see_22 := gq_12 db00d_26 eb_768
noncomputable def d_X11_see_25 := gq_13 db00d_26 eb_134
noncomputable def d_X11_see_27 := gq_14 db00d_26 eb_0
noncomputable def d_X11_see_28 := gq_15 db00d_26 eb_497
noncomputable def d_X11_see_31 := gq_16 db00d_26 eb_77
noncomputable def d_X11_see_33 := gq_17 db00d_26 eb_123
noncomputable def d_X11_see_34 := gq_18 db00d_26 eb_0
noncomputable def d_X11_see_35 := gq_19 db00d_26 eb_769
noncomputable def d_X11_see_38 := gq_20 db00d_26 eb_24
noncomputable def d_X11_see_39 := gq_21 db00d_26 eb_30
noncomputable def d_X11_see_40 := gq_22 db00d_26 eb_0
noncomputable def d_X11_see_41 := gq_23 db00d_26 eb_628
theorem db00d_27 : Pf_ prog_1_method_45_code [(44, [0xb6, 0x01, 0x69]), (47, [0xb6, 0x01, 0x6d]), (50, [0x2a]), (51, [0xb4, 0x00, 0x38]), (54, [0x15, 0x04]), (56, [0x10, 0x06]), (58, [0x2a]), (59, [0x2b]), (60, [0xb4, 0x01, 0x15]), (63, [0xb6, 0x01, 0x71]), (66, [0xb6, 0x01, 0x6d]), (69, [0x2a]), (70, [0xb4, 0x00, 0x21]), (73, [0x2a]), (74, [0xb4, 0x00, 0x21]), (77, [0x1d]), (78, [0x2a]), (79, [0xb4, 0x00, 0x5c]), (82, [0xb6, 0x01, 0x5b]), (85, [0x2a]), (86, [0xb4, 0x00, 0x38]), (89, [0xb4, 0x01, 0x74]), (92, [0x15, 0x04]), (94, [0x13, 0x01, 0x78])] := pf_ok prog_1_method_45_code _ 44 (by decide +kernel)
noncomputable def d_X11_see_44 := gq_0 db00d_27 eb_770
noncomputable def d_X11_see_47 := gq_1 db00d_27 eb_771
noncomputable def d_X11_see_50 := gq_2 db00d_27 eb_0
noncomputable def d_X11_see_51 := gq_3 db00d_27 eb_497
noncomputable def d_X11_see_54 := gq_4 db00d_27 eb_77
noncomputable def d_X11_see_56 := gq_5 db00d_27 eb_15
noncomputable def d_X11_see_58 := gq_6 db00d_27 eb_0
noncomputable def d_X11_see_59 := gq_7 db00d_27 eb_24
noncomputable def d_X11_see_60 := gq_8 db00d_27 eb_714
noncomputable def d_X11_see_63 := gq_9 db00d_27 eb_772
noncomputable def d_X11_see_66 := gq_10 db00d_27 eb_771
noncomputable def d_X11_see_69 := gq_11 db00d_27 eb_0
noncomputable def d_X11_see_70 := gq_12 db00d_27 eb_110
noncomputable def d_X11_see_73 := gq_13 db00d_27 eb_0
noncomputable def d_X11_see_74 := gq_14 db00d_27 eb_110
noncomputable def d_X11_see_77 := gq_15 db00d_27 eb_30
noncomputable def d_X11_see_78 := gq_16 db00d_27 eb_0
noncomputable def d_X11_see_79 := gq_17 db00d_27 eb_628
noncomputable def d_X11_see_82 := gq_18 db00d_27 eb_764
noncomputable def d_X11_see_85 := gq_19 db00d_27 eb_0
noncomputable def d_X11_see_86 := gq_20 db00d_27 eb_497
noncomputable def d_X11_see_89 := gq_21 db00d_27 eb_773
noncomputable def d_X11_see_92 := gq_22 db00d_27 eb_77
noncomputable def d_X11_see_94 := gq_23 db00d_27 eb_774
theorem db00d_28 : Pf_ prog_1_method_45_code [(97, [0xb6, 0x01, 0x7a]), (100, [0x68]), (101, [0xb6, 0x01, 0x7f]), (104, [0x36, 0x05]), (106, [0x15, 0x05]), (108, [0x06]), (109, [0xa0, 0x00, 0x19]), (112, [0x2a]), (113, [0xb4, 0x00, 0x3f]), (116, [0x2a]), (117, [0xb4, 0x00, 0x38]), (120, [0x1c]), (121, [0xb6, 0x01, 0x83]), (124, [0x2a]), (125, [0xb4, 0x00, 0x5c]), (128, [0xb6, 0x01, 0x84]), (131, [0xa7, 0x00, 0x04]), (134, [0x02]), (135, [0x36, 0x06]), (137, [0x2a]), (138, [0xb4, 0x00, 0x38]), (141, [0x15, 0x04]), (143, [0x15, 0x05]), (145, [0x15, 0x06])] := pf_ok prog_1_method_45_code _ 97 (by decide +kernel)
noncomputable def d_X11_see_97 := gq_0 db00d_28 eb_775
noncomputable def d_X11_see_100 := gq_1 db00d_28 eb_35
noncomputable def d_X11_see_101 := gq_2 db00d_28 eb_776
noncomputable def d_X11_see_104 := gq_3 db00d_28 eb_135
noncomputable def d_X11_see_106 := gq_4 db00d_28 eb_126
noncomputable def d_X11_see_108 := gq_5 db00d_28 eb_55
noncomputable def d_X11_see_109 := gq_6 db00d_28 eb_72
noncomputable def d_X11_see_112 := gq_7 db00d_28 eb_0
noncomputable def d_X11_see_113 := gq_8 db00d_28 eb_279
noncomputable def d_X11_see_116 := gq_9 db00d_28 eb_0
noncomputable def d_X11_see_117 := gq_10 db00d_28 eb_497
noncomputable def d_X11_see_120 := gq_11 db00d_28 eb_14
noncomputable def d_X11_see_121 := gq_12 db00d_28 eb_777
noncomputable def d_X11_see_124 := gq_13 db00d_28 eb_0
noncomputable def d_X11_see_125 := gq_14 db00d_28 eb_628
noncomputable def d_X11_see_128 := gq_15 db00d_28 eb_778
noncomputable def d_X11_see_131 := gq_16 db00d_28 eb_21
noncomputable def d_X11_see_134 := gq_17 db00d_28 eb_27
noncomputable def d_X11_see_135 := gq_18 db00d_28 eb_59
noncomputable def d_X11_see_137 := gq_19 db00d_28 eb_0
noncomputable def d_X11_see_138 := gq_20 db00d_28 eb_497
noncomputable def d_X11_see_141 := gq_21 db00d_28 eb_77
noncomputable def d_X11_see_143 := gq_22 db00d_28 eb_126
noncomputable def d_X11_see_145 := gq_23 db00d_28 eb_76
theorem db00d_29 : Pf_ prog_1_method_45_code [(147, [0x2a]), (148, [0xb4, 0x00, 0x0a]), (151, [0x2b]), (152, [0xb4, 0x01, 0x15]), (155, [0x03]), (156, [0xb6, 0x00, 0x73]), (159, [0xb6, 0x01, 0x87]), (162, [0xb1])] := pf_ok prog_1_method_45_code _ 147 (by decide +kernel)
noncomputable def d_X11_see_147 := gq_0 db00d_29 eb_0
noncomputable def d_X11_see_148 := gq_1 db00d_29 eb_635
noncomputable def d_X11_see_151 := gq_2 db00d_29 eb_24
noncomputable def d_X11_see_152 := gq_3 db00d_29 eb_714
noncomputable def d_X11_see_155 := gq_4 db00d_29 eb_22
noncomputable def d_X11_see_156 := gq_5 db00d_29 eb_397
noncomputable def d_X11_see_159 := gq_6 db00d_29 eb_779
noncomputable def d_X11_see_162 := gq_7 db00d_29 eb_8
theorem db00d_30 : Pf_ prog_1_method_46_code [(0, [0x03]), (1, [0x3d]), (2, [0x03]), (3, [0x3e]), (4, [0x1d]), (5, [0x2a]), (6, [0xb4, 0x00, 0x68]), (9, [0xa2, 0x00, 0x22]), (12, [0x2a]), (13, [0xb4, 0x00, 0x2a]), (16, [0x1d]), (17, [0x32]), (18, [0xc6, 0x00, 0x13]), (21, [0x2a]), (22, [0xb4, 0x00, 0x2a]), (25, [0x1d]), (26, [0x32]), (27, [0xb4, 0x01, 0x15]), (30, [0x1b]), (31, [0xa0, 0x00, 0x06]), (34, [0x84, 0x02, 0x01]), (37, [0x84, 0x03, 0x01]), (40, [0xa7, 0xff, 0xdc]), (43, [0x1c])] := pf_ok prog_1_method_46_code _ 0 (by decide +kernel)
noncomputable def d_X11_countMenAt_0 := gq_0 db00d_30 eb_22
noncomputable def d_X11_countMenAt_1 := gq_1 db00d_30 eb_28
noncomputable def d_X11_countMenAt_2 := gq_2 db00d_30 eb_22
noncomputable def d_X11_countMenAt_3 := gq_3 db00d_30 eb_29
noncomputable def d_X11_countMenAt_4 := gq_4 db00d_30 eb_30
noncomputable def d_X11_countMenAt_5 := gq_5 db00d_30 eb_0
noncomputable def d_X11_countMenAt_6 := gq_6 db00d_30 eb_406
noncomputable def d_X11_countMenAt_9 := gq_7 db00d_30 eb_444
noncomputable def d_X11_countMenAt_12 := gq_8 db00d_30 eb_0
noncomputable def d_X11_countMenAt_13 := gq_9 db00d_30 eb_179
noncomputable def d_X11_countMenAt_16 := gq_10 db00d_30 eb_30
noncomputable def d_X11_countMenAt_17 := gq_11 db00d_30 eb_631
noncomputable def d_X11_countMenAt_18 := gq_12 db00d_30 eb_780
noncomputable def d_X11_countMenAt_21 := gq_13 db00d_30 eb_0
noncomputable def d_X11_countMenAt_22 := gq_14 db00d_30 eb_179
noncomputable def d_X11_countMenAt_25 := gq_15 db00d_30 eb_30
noncomputable def d_X11_countMenAt_26 := gq_16 db00d_30 eb_631
noncomputable def d_X11_countMenAt_27 := gq_17 db00d_30 eb_714
noncomputable def d_X11_countMenAt_30 := gq_18 db00d_30 eb_10
noncomputable def d_X11_countMenAt_31 := gq_19 db00d_30 eb_41
noncomputable def d_X11_countMenAt_34 := gq_20 db00d_30 eb_42
noncomputable def d_X11_countMenAt_37 := gq_21 db00d_30 eb_43
noncomputable def d_X11_countMenAt_40 := gq_22 db00d_30 eb_224
noncomputable def d_X11_countMenAt_43 := gq_23 db00d_30 eb_14
theorem db00d_31 : Pf_ prog_1_method_46_code [(44, [0xac])] := pf_ok prog_1_method_46_code _ 44 (by decide +kernel)
noncomputable def d_X11_countMenAt_44 := gq_0 db00d_31 eb_16
theorem db00d_32 : Pf_ prog_1_method_47_code [(0, [0x2a]), (1, [0xb4, 0x00, 0x38]), (4, [0x1b]), (5, [0xb6, 0x01, 0x88]), (8, [0x99, 0x00, 0x0f]), (11, [0x2a]), (12, [0xb4, 0x00, 0x38]), (15, [0x1b]), (16, [0x1c]), (17, [0xb6, 0x01, 0x89]), (20, [0xa7, 0x00, 0x04]), (23, [0x02]), (24, [0xac])] := pf_ok prog_1_method_47_code _ 0 (by decide +kernel)
noncomputable def d_X11_sighting_0 := gq_0 db00d_32 eb_0
noncomputable def d_X11_sighting_1 := gq_1 db00d_32 eb_497
noncomputable def d_X11_sighting_4 := gq_2 db00d_32 eb_10
noncomputable def d_X11_sighting_5 := gq_3 db00d_32 eb_781
noncomputable def d_X11_sighting_8 := gq_4 db00d_32 eb_297
noncomputable def d_X11_sighting_11 := gq_5 db00d_32 eb_0
noncomputable def d_X11_sighting_12 := gq_6 db00d_32 eb_497
noncomputable def d_X11_sighting_15 := gq_7 db00d_32 eb_10
noncomputable def d_X11_sighting_16 := gq_8 db00d_32 eb_14
noncomputable def d_X11_sighting_17 := gq_9 db00d_32 eb_782
noncomputable def d_X11_sighting_20 := gq_10 db00d_32 eb_21
noncomputable def d_X11_sighting_23 := gq_11 db00d_32 eb_27
noncomputable def d_X11_sighting_24 := gq_12 db00d_32 eb_16
theorem db00d_33 : Pf_ prog_1_method_48_code [(0, [0x2a]), (1, [0xb4, 0x00, 0x38]), (4, [0x1b]), (5, [0xb6, 0x01, 0x88]), (8, [0x99, 0x00, 0x16]), (11, [0x1c]), (12, [0x2a]), (13, [0xb4, 0x00, 0x38]), (16, [0x1b]), (17, [0xb6, 0x01, 0x8b]), (20, [0x2a]), (21, [0xb4, 0x00, 0x5c]), (24, [0xb8, 0x00, 0x60]), (27, [0x9a, 0x00, 0x05]), (30, [0x02]), (31, [0xac]), (32, [0x2a]), (33, [0xb4, 0x00, 0x38]), (36, [0x1b]), (37, [0x2a]), (38, [0xb4, 0x00, 0x21]), (41, [0x1c]), (42, [0xb6, 0x01, 0x8e]), (45, [0xac])] := pf_ok prog_1_method_48_code _ 0 (by decide +kernel)
noncomputable def d_X11_should_0 := gq_0 db00d_33 eb_0
noncomputable def d_X11_should_1 := gq_1 db00d_33 eb_497
noncomputable def d_X11_should_4 := gq_2 db00d_33 eb_10
noncomputable def d_X11_should_5 := gq_3 db00d_33 eb_781
noncomputable def d_X11_should_8 := gq_4 db00d_33 eb_433
noncomputable def d_X11_should_11 := gq_5 db00d_33 eb_14
noncomputable def d_X11_should_12 := gq_6 db00d_33 eb_0
noncomputable def d_X11_should_13 := gq_7 db00d_33 eb_497
noncomputable def d_X11_should_16 := gq_8 db00d_33 eb_10
noncomputable def d_X11_should_17 := gq_9 db00d_33 eb_783
noncomputable def d_X11_should_20 := gq_10 db00d_33 eb_0
noncomputable def d_X11_should_21 := gq_11 db00d_33 eb_628
noncomputable def d_X11_should_24 := gq_12 db00d_33 eb_629
noncomputable def d_X11_should_27 := gq_13 db00d_33 eb_152
noncomputable def d_X11_should_30 := gq_14 db00d_33 eb_27
noncomputable def d_X11_should_31 := gq_15 db00d_33 eb_16
noncomputable def d_X11_should_32 := gq_16 db00d_33 eb_0
noncomputable def d_X11_should_33 := gq_17 db00d_33 eb_497
noncomputable def d_X11_should_36 := gq_18 db00d_33 eb_10
noncomputable def d_X11_should_37 := gq_19 db00d_33 eb_0
noncomputable def d_X11_should_38 := gq_20 db00d_33 eb_110
noncomputable def d_X11_should_41 := gq_21 db00d_33 eb_14
noncomputable def d_X11_should_42 := gq_22 db00d_33 eb_784
noncomputable def d_X11_should_45 := gq_23 db00d_33 eb_16
theorem db00d_34 : Pf_ prog_1_method_49_code [(0, [0x2a]), (1, [0x1b]), (2, [0xb6, 0x01, 0x41]), (5, [0x99, 0x00, 0x0e]), (8, [0x2a]), (9, [0xb4, 0x00, 0x38]), (12, [0x1b]), (13, [0xb6, 0x01, 0x92]), (16, [0xa7, 0x00, 0x04]), (19, [0x02]), (20, [0xac])] := pf_ok prog_1_method_49_code _ 0 (by decide +kernel)
noncomputable def d_X11_heard_0 := gq_0 db00d_34 eb_0
noncomputable def d_X11_heard_1 := gq_1 db00d_34 eb_10
noncomputable def d_X11_heard_2 := gq_2 db00d_34 eb_753
noncomputable def d_X11_heard_5 := gq_3 db00d_34 eb_176
noncomputable def d_X11_heard_8 := gq_4 db00d_34 eb_0
noncomputable def d_X11_heard_9 := gq_5 db00d_34 eb_497
noncomputable def d_X11_heard_12 := gq_6 db00d_34 eb_10
noncomputable def d_X11_heard_13 := gq_7 db00d_34 eb_785
noncomputable def d_X11_heard_16 := gq_8 db00d_34 eb_21
noncomputable def d_X11_heard_19 := gq_9 db00d_34 eb_27
noncomputable def d_X11_heard_20 := gq_10 db00d_34 eb_16
theorem db00d_35 : Pf_ prog_1_method_50_code [(0, [0x1b]), (1, [0x03]), (2, [0x10, 0x09]), (4, [0xb8, 0x00, 0x60]), (7, [0x99, 0x00, 0x12]), (10, [0x2a]), (11, [0xb4, 0x00, 0x3f]), (14, [0x1b]), (15, [0x2a]), (16, [0xb4, 0x00, 0x5c]), (19, [0xb6, 0x01, 0x84]), (22, [0xa7, 0x00, 0x04]), (25, [0x02]), (26, [0xac])] := pf_ok prog_1_method_50_code _ 0 (by decide +kernel)
noncomputable def d_X11_open_0 := gq_0 db00d_35 eb_10
noncomputable def d_X11_open_1 := gq_1 db00d_35 eb_22
noncomputable def d_X11_open_2 := gq_2 db00d_35 eb_290
noncomputable def d_X11_open_4 := gq_3 db00d_35 eb_629
noncomputable def d_X11_open_7 := gq_4 db00d_35 eb_140
noncomputable def d_X11_open_10 := gq_5 db00d_35 eb_0
noncomputable def d_X11_open_11 := gq_6 db00d_35 eb_279
noncomputable def d_X11_open_14 := gq_7 db00d_35 eb_10
noncomputable def d_X11_open_15 := gq_8 db00d_35 eb_0
noncomputable def d_X11_open_16 := gq_9 db00d_35 eb_628
noncomputable def d_X11_open_19 := gq_10 db00d_35 eb_778
noncomputable def d_X11_open_22 := gq_11 db00d_35 eb_21
noncomputable def d_X11_open_25 := gq_12 db00d_35 eb_27
noncomputable def d_X11_open_26 := gq_13 db00d_35 eb_16
theorem db00d_36 : Pf_ prog_1_method_51_code [(0, [0x1b]), (1, [0x03]), (2, [0x10, 0x09]), (4, [0xb8, 0x00, 0x60]), (7, [0x99, 0x00, 0x0e]), (10, [0x1c]), (11, [0x03]), (12, [0x11, 0x00, 0xff]), (15, [0xb8, 0x00, 0x60]), (18, [0x9a, 0x00, 0x05]), (21, [0x03]), (22, [0xac]), (23, [0x2a]), (24, [0xb4, 0x00, 0x3f]), (27, [0xb4, 0x01, 0x95]), (30, [0x1b]), (31, [0x1c]), (32, [0x4f]), (33, [0x04]), (34, [0xac])] := pf_ok prog_1_method_51_code _ 0 (by decide +kernel)
noncomputable def d_X11_need_0 := gq_0 db00d_36 eb_10
noncomputable def d_X11_need_1 := gq_1 db00d_36 eb_22
noncomputable def d_X11_need_2 := gq_2 db00d_36 eb_290
noncomputable def d_X11_need_4 := gq_3 db00d_36 eb_629
noncomputable def d_X11_need_7 := gq_4 db00d_36 eb_176
noncomputable def d_X11_need_10 := gq_5 db00d_36 eb_14
noncomputable def d_X11_need_11 := gq_6 db00d_36 eb_22
noncomputable def d_X11_need_12 := gq_7 db00d_36 eb_460
noncomputable def d_X11_need_15 := gq_8 db00d_36 eb_629
noncomputable def d_X11_need_18 := gq_9 db00d_36 eb_152
noncomputable def d_X11_need_21 := gq_10 db00d_36 eb_22
noncomputable def d_X11_need_22 := gq_11 db00d_36 eb_16
noncomputable def d_X11_need_23 := gq_12 db00d_36 eb_0
noncomputable def d_X11_need_24 := gq_13 db00d_36 eb_279
noncomputable def d_X11_need_27 := gq_14 db00d_36 eb_786
noncomputable def d_X11_need_30 := gq_15 db00d_36 eb_10
noncomputable def d_X11_need_31 := gq_16 db00d_36 eb_14
noncomputable def d_X11_need_32 := gq_17 db00d_36 eb_39
noncomputable def d_X11_need_33 := gq_18 db00d_36 eb_20
noncomputable def d_X11_need_34 := gq_19 db00d_36 eb_16
theorem db00d_37 : Pf_ prog_1_method_52_code [(0, [0x1b]), (1, [0x03]), (2, [0x10, 0x07]), (4, [0xb8, 0x00, 0x60]), (7, [0x99, 0x00, 0x0c]), (10, [0x1c]), (11, [0x04]), (12, [0x06]), (13, [0xb8, 0x00, 0x60]), (16, [0x9a, 0x00, 0x05]), (19, [0x03]), (20, [0xac]), (21, [0x2a]), (22, [0xb4, 0x00, 0x3f]), (25, [0xb4, 0x01, 0x98]), (28, [0x1b]), (29, [0x1c]), (30, [0x4f]), (31, [0x04]), (32, [0xac])] := pf_ok prog_1_method_52_code _ 0 (by decide +kernel)
noncomputable def d_X11_want_0 := gq_0 db00d_37 eb_10
noncomputable def d_X11_want_1 := gq_1 db00d_37 eb_22
noncomputable def d_X11_want_2 := gq_2 db00d_37 eb_133
noncomputable def d_X11_want_4 := gq_3 db00d_37 eb_629
noncomputable def d_X11_want_7 := gq_4 db00d_37 eb_51
noncomputable def d_X11_want_10 := gq_5 db00d_37 eb_14
noncomputable def d_X11_want_11 := gq_6 db00d_37 eb_20
noncomputable def d_X11_want_12 := gq_7 db00d_37 eb_55
noncomputable def d_X11_want_13 := gq_8 db00d_37 eb_629
noncomputable def d_X11_want_16 := gq_9 db00d_37 eb_152
noncomputable def d_X11_want_19 := gq_10 db00d_37 eb_22
noncomputable def d_X11_want_20 := gq_11 db00d_37 eb_16
noncomputable def d_X11_want_21 := gq_12 db00d_37 eb_0
noncomputable def d_X11_want_22 := gq_13 db00d_37 eb_279
noncomputable def d_X11_want_25 := gq_14 db00d_37 eb_787
noncomputable def d_X11_want_28 := gq_15 db00d_37 eb_10
noncomputable def d_X11_want_29 := gq_16 db00d_37 eb_14
noncomputable def d_X11_want_30 := gq_17 db00d_37 eb_39
noncomputable def d_X11_want_31 := gq_18 db00d_37 eb_20
noncomputable def d_X11_want_32 := gq_19 db00d_37 eb_16
theorem db00d_38 : Pf_ prog_1_method_53_code [(0, [0x2a]), (1, [0xb4, 0x00, 0x3f]), (4, [0x1b]), (5, [0xb6, 0x01, 0x9b]), (8, [0x99, 0x00, 0x17]), (11, [0x1c]), (12, [0x03]), (13, [0x10, 0x07]), (15, [0xb8, 0x00, 0x60]), (18, [0x99, 0x00, 0x0d]), (21, [0x1d]), (22, [0x03]), (23, [0x10, 0x0f]), (25, [0xb8, 0x00, 0x60]), (28, [0x9a, 0x00, 0x05]), (31, [0x02]), (32, [0xac]), (33, [0x2a]), (34, [0xb4, 0x00, 0x3f]), (37, [0x1b]), (38, [0x1c]), (39, [0x1d]), (40, [0x15, 0x04]), (42, [0x2a])] := pf_ok prog_1_method_53_code _ 0 (by decide +kernel)
noncomputable def d_X11_state_0 := gq_0 db00d_38 eb_0
noncomputable def d_X11_state_1 := gq_1 db00d_38 eb_279
noncomputable def d_X11_state_4 := gq_2 db00d_38 eb_10
noncomputable def d_X11_state_5 := gq_3 db00d_38 eb_788
noncomputable def d_X11_state_8 := gq_4 db00d_38 eb_207
noncomputable def d_X11_state_11 := gq_5 db00d_38 eb_14
noncomputable def d_X11_state_12 := gq_6 db00d_38 eb_22
noncomputable def d_X11_state_13 := gq_7 db00d_38 eb_133
noncomputable def d_X11_state_15 := gq_8 db00d_38 eb_629
noncomputable def d_X11_state_18 := gq_9 db00d_38 eb_120
noncomputable def d_X11_state_21 := gq_10 db00d_38 eb_30
noncomputable def d_X11_state_22 := gq_11 db00d_38 eb_22
noncomputable def d_X11_state_23 := gq_12 db00d_38 eb_58
noncomputable def d_X11_state_25 := gq_13 db00d_38 eb_629
noncomputable def d_X11_state_28 := gq_14 db00d_38 eb_152
noncomputable def d_X11_state_31 := gq_15 db00d_38 eb_27
noncomputable def d_X11_state_32 := gq_16 db00d_38 eb_16
noncomputable def d_X11_state_33 := gq_17 db00d_38 eb_0
noncomputable def d_X11_state_34 := gq_18 db00d_38 eb_279
noncomputable def d_X11_state_37 := gq_19 db00d_38 eb_10
noncomputable def d_X11_state_38 := gq_20 db00d_38 eb_14
noncomputable def d_X11_state_39 := gq_21 db00d_38 eb_30
noncomputable def d_X11_state_40 := gq_22 db00d_38 eb_77
noncomputable def d_X11_state_42 := gq_23 db00d_38 eb_0
theorem db00d_39 : Pf_ prog_1_method_53_code [(43, [0xb4, 0x00, 0x5c]), (46, [0xb6, 0x01, 0x9c]), (49, [0xac])] := pf_ok prog_1_method_53_code _ 43 (by decide +kernel)
noncomputable def d_X11_state_43 := gq_0 db00d_39 eb_628
noncomputable def d_X11_state_46 := gq_1 db00d_39 eb_789
noncomputable def d_X11_state_49 := gq_2 db00d_39 eb_16
theorem db00d_40 : Pf_ prog_1_method_54_code [(0, [0x1b]), (1, [0x03]), (2, [0x10, 0x0f]), (4, [0xb8, 0x00, 0x60]), (7, [0x99, 0x00, 0x12]), (10, [0x2a]), (11, [0xb4, 0x00, 0x3f]), (14, [0x1b]), (15, [0x2a]), (16, [0xb4, 0x00, 0x5c]), (19, [0xb6, 0x01, 0xa0]), (22, [0xa7, 0x00, 0x04]), (25, [0x02]), (26, [0xac])] := pf_ok prog_1_method_54_code _ 0 (by decide +kernel)
noncomputable def d_X11_withdraw_0 := gq_0 db00d_40 eb_10
noncomputable def d_X11_withdraw_1 := gq_1 db00d_40 eb_22
noncomputable def d_X11_withdraw_2 := gq_2 db00d_40 eb_58
noncomputable def d_X11_withdraw_4 := gq_3 db00d_40 eb_629
noncomputable def d_X11_withdraw_7 := gq_4 db00d_40 eb_140
noncomputable def d_X11_withdraw_10 := gq_5 db00d_40 eb_0
noncomputable def d_X11_withdraw_11 := gq_6 db00d_40 eb_279
noncomputable def d_X11_withdraw_14 := gq_7 db00d_40 eb_10
noncomputable def d_X11_withdraw_15 := gq_8 db00d_40 eb_0
noncomputable def d_X11_withdraw_16 := gq_9 db00d_40 eb_628
noncomputable def d_X11_withdraw_19 := gq_10 db00d_40 eb_790
noncomputable def d_X11_withdraw_22 := gq_11 db00d_40 eb_21
noncomputable def d_X11_withdraw_25 := gq_12 db00d_40 eb_27
noncomputable def d_X11_withdraw_26 := gq_13 db00d_40 eb_16
theorem db00d_41 : Pf_ prog_1_method_55_code [(0, [0x1c]), (1, [0x03]), (2, [0x10, 0x07]), (4, [0xb8, 0x00, 0x60]), (7, [0x99, 0x00, 0x17]), (10, [0x2a]), (11, [0x1d]), (12, [0xb6, 0x01, 0x41]), (15, [0x99, 0x00, 0x0f]), (18, [0x2a]), (19, [0xb4, 0x00, 0x3f]), (22, [0x1b]), (23, [0x1d]), (24, [0xb6, 0x01, 0xa3]), (27, [0x9a, 0x00, 0x05]), (30, [0x02]), (31, [0xac]), (32, [0x2a]), (33, [0xb4, 0x00, 0x3f]), (36, [0x1b]), (37, [0x1d]), (38, [0xb6, 0x01, 0xa7]), (41, [0x2a]), (42, [0xb4, 0x00, 0x3f])] := pf_ok prog_1_method_55_code _ 0 (by decide +kernel)
noncomputable def d_X11_fact_0 := gq_0 db00d_41 eb_14
noncomputable def d_X11_fact_1 := gq_1 db00d_41 eb_22
noncomputable def d_X11_fact_2 := gq_2 db00d_41 eb_133
noncomputable def d_X11_fact_4 := gq_3 db00d_41 eb_629
noncomputable def d_X11_fact_7 := gq_4 db00d_41 eb_207
noncomputable def d_X11_fact_10 := gq_5 db00d_41 eb_0
noncomputable def d_X11_fact_11 := gq_6 db00d_41 eb_30
noncomputable def d_X11_fact_12 := gq_7 db00d_41 eb_753
noncomputable def d_X11_fact_15 := gq_8 db00d_41 eb_297
noncomputable def d_X11_fact_18 := gq_9 db00d_41 eb_0
noncomputable def d_X11_fact_19 := gq_10 db00d_41 eb_279
noncomputable def d_X11_fact_22 := gq_11 db00d_41 eb_10
noncomputable def d_X11_fact_23 := gq_12 db00d_41 eb_30
noncomputable def d_X11_fact_24 := gq_13 db00d_41 eb_791
noncomputable def d_X11_fact_27 := gq_14 db00d_41 eb_152
noncomputable def d_X11_fact_30 := gq_15 db00d_41 eb_27
noncomputable def d_X11_fact_31 := gq_16 db00d_41 eb_16
noncomputable def d_X11_fact_32 := gq_17 db00d_41 eb_0
noncomputable def d_X11_fact_33 := gq_18 db00d_41 eb_279
noncomputable def d_X11_fact_36 := gq_19 db00d_41 eb_10
noncomputable def d_X11_fact_37 := gq_20 db00d_41 eb_30
noncomputable def d_X11_fact_38 := gq_21 db00d_41 eb_792
noncomputable def d_X11_fact_41 := gq_22 db00d_41 eb_0
noncomputable def d_X11_fact_42 := gq_23 db00d_41 eb_279
theorem db00d_42 : Pf_ prog_1_method_55_code [(45, [0x1c]), (46, [0xb6, 0x01, 0xaa]), (49, [0xac])] := pf_ok prog_1_method_55_code _ 45 (by decide +kernel)
noncomputable def d_X11_fact_45 := gq_0 db00d_42 eb_14
noncomputable def d_X11_fact_46 := gq_1 db00d_42 eb_793
noncomputable def d_X11_fact_49 := gq_2 db00d_42 eb_16
theorem db00d_43 : Pf_ prog_1_method_56_code [(0, [0x2a]), (1, [0x1c]), (2, [0xb6, 0x01, 0x41]), (5, [0x99, 0x00, 0x1c]), (8, [0x2a]), (9, [0xb4, 0x00, 0x3f]), (12, [0x1b]), (13, [0x1c]), (14, [0xb6, 0x01, 0xa3]), (17, [0x99, 0x00, 0x10]), (20, [0x2a]), (21, [0xb4, 0x00, 0x3f]), (24, [0x1b]), (25, [0x1c]), (26, [0x1d]), (27, [0xb6, 0x01, 0xad]), (30, [0xa7, 0x00, 0x04]), (33, [0x02]), (34, [0xac])] := pf_ok prog_1_method_56_code _ 0 (by decide +kernel)
noncomputable def d_X11_cased_0 := gq_0 db00d_43 eb_0
noncomputable def d_X11_cased_1 := gq_1 db00d_43 eb_14
noncomputable def d_X11_cased_2 := gq_2 db00d_43 eb_753
noncomputable def d_X11_cased_5 := gq_3 db00d_43 eb_652
noncomputable def d_X11_cased_8 := gq_4 db00d_43 eb_0
noncomputable def d_X11_cased_9 := gq_5 db00d_43 eb_279
noncomputable def d_X11_cased_12 := gq_6 db00d_43 eb_10
noncomputable def d_X11_cased_13 := gq_7 db00d_43 eb_14
noncomputable def d_X11_cased_14 := gq_8 db00d_43 eb_791
noncomputable def d_X11_cased_17 := gq_9 db00d_43 eb_137
noncomputable def d_X11_cased_20 := gq_10 db00d_43 eb_0
noncomputable def d_X11_cased_21 := gq_11 db00d_43 eb_279
noncomputable def d_X11_cased_24 := gq_12 db00d_43 eb_10
noncomputable def d_X11_cased_25 := gq_13 db00d_43 eb_14
noncomputable def d_X11_cased_26 := gq_14 db00d_43 eb_30
noncomputable def d_X11_cased_27 := gq_15 db00d_43 eb_794
noncomputable def d_X11_cased_30 := gq_16 db00d_43 eb_21
noncomputable def d_X11_cased_33 := gq_17 db00d_43 eb_27
noncomputable def d_X11_cased_34 := gq_18 db00d_43 eb_16
theorem db00d_44 : Pf_ prog_1_method_57_code [(0, [0x2a]), (1, [0xb4, 0x00, 0x3f]), (4, [0x1b]), (5, [0xb6, 0x01, 0x9b]), (8, [0x99, 0x00, 0x1f]), (11, [0x1c]), (12, [0x03]), (13, [0x11, 0x00, 0xff]), (16, [0xb8, 0x00, 0x60]), (19, [0x99, 0x00, 0x14]), (22, [0x1d]), (23, [0x03]), (24, [0x11, 0x00, 0xff]), (27, [0xb8, 0x00, 0x60]), (30, [0x99, 0x00, 0x09]), (33, [0x1c]), (34, [0x1d]), (35, [0x7e]), (36, [0x99, 0x00, 0x05]), (39, [0x02]), (40, [0xac]), (41, [0x2a]), (42, [0xb4, 0x00, 0x3f]), (45, [0x1b])] := pf_ok prog_1_method_57_code _ 0 (by decide +kernel)
noncomputable def d_X11_story_0 := gq_0 db00d_44 eb_0
noncomputable def d_X11_story_1 := gq_1 db00d_44 eb_279
noncomputable def d_X11_story_4 := gq_2 db00d_44 eb_10
noncomputable def d_X11_story_5 := gq_3 db00d_44 eb_788
noncomputable def d_X11_story_8 := gq_4 db00d_44 eb_795
noncomputable def d_X11_story_11 := gq_5 db00d_44 eb_14
noncomputable def d_X11_story_12 := gq_6 db00d_44 eb_22
noncomputable def d_X11_story_13 := gq_7 db00d_44 eb_460
noncomputable def d_X11_story_16 := gq_8 db00d_44 eb_629
noncomputable def d_X11_story_19 := gq_9 db00d_44 eb_213
noncomputable def d_X11_story_22 := gq_10 db00d_44 eb_30
noncomputable def d_X11_story_23 := gq_11 db00d_44 eb_22
noncomputable def d_X11_story_24 := gq_12 db00d_44 eb_460
noncomputable def d_X11_story_27 := gq_13 db00d_44 eb_629
noncomputable def d_X11_story_30 := gq_14 db00d_44 eb_252
noncomputable def d_X11_story_33 := gq_15 db00d_44 eb_14
noncomputable def d_X11_story_34 := gq_16 db00d_44 eb_30
noncomputable def d_X11_story_35 := gq_17 db00d_44 eb_56
noncomputable def d_X11_story_36 := gq_18 db00d_44 eb_26
noncomputable def d_X11_story_39 := gq_19 db00d_44 eb_27
noncomputable def d_X11_story_40 := gq_20 db00d_44 eb_16
noncomputable def d_X11_story_41 := gq_21 db00d_44 eb_0
noncomputable def d_X11_story_42 := gq_22 db00d_44 eb_279
noncomputable def d_X11_story_45 := gq_23 db00d_44 eb_10
theorem db00d_45 : Pf_ prog_1_method_57_code [(46, [0x1c]), (47, [0x1d]), (48, [0x2a]), (49, [0xb4, 0x00, 0x5c]), (52, [0xb6, 0x01, 0xae]), (55, [0xac])] := pf_ok prog_1_method_57_code _ 46 (by decide +kernel)
noncomputable def d_X11_story_46 := gq_0 db00d_45 eb_14
noncomputable def d_X11_story_47 := gq_1 db00d_45 eb_30
noncomputable def d_X11_story_48 := gq_2 db00d_45 eb_0
noncomputable def d_X11_story_49 := gq_3 db00d_45 eb_628
noncomputable def d_X11_story_52 := gq_4 db00d_45 eb_796
noncomputable def d_X11_story_55 := gq_5 db00d_45 eb_16
theorem db00d_46 : Pf_ prog_1_method_58_code [(0, [0x2a]), (1, [0xb4, 0x00, 0x3f]), (4, [0x1b]), (5, [0xb6, 0x01, 0x9b]), (8, [0x99, 0x00, 0x12]), (11, [0x2a]), (12, [0xb4, 0x00, 0x3f]), (15, [0x1b]), (16, [0x2a]), (17, [0xb4, 0x00, 0x5c]), (20, [0xb6, 0x01, 0xb2]), (23, [0xa7, 0x00, 0x04]), (26, [0x02]), (27, [0xac])] := pf_ok prog_1_method_58_code _ 0 (by decide +kernel)
noncomputable def d_X11_next_0 := gq_0 db00d_46 eb_0
noncomputable def d_X11_next_1 := gq_1 db00d_46 eb_279
noncomputable def d_X11_next_4 := gq_2 db00d_46 eb_10
noncomputable def d_X11_next_5 := gq_3 db00d_46 eb_788
noncomputable def d_X11_next_8 := gq_4 db00d_46 eb_140
noncomputable def d_X11_next_11 := gq_5 db00d_46 eb_0
noncomputable def d_X11_next_12 := gq_6 db00d_46 eb_279
noncomputable def d_X11_next_15 := gq_7 db00d_46 eb_10
noncomputable def d_X11_next_16 := gq_8 db00d_46 eb_0
noncomputable def d_X11_next_17 := gq_9 db00d_46 eb_628
noncomputable def d_X11_next_20 := gq_10 db00d_46 eb_797
noncomputable def d_X11_next_23 := gq_11 db00d_46 eb_21
noncomputable def d_X11_next_26 := gq_12 db00d_46 eb_27
noncomputable def d_X11_next_27 := gq_13 db00d_46 eb_16
theorem db00d_47 : Pf_ prog_1_method_59_code [(0, [0x1c]), (1, [0x03]), (2, [0x13, 0x01, 0xb5]), (5, [0xb8, 0x00, 0x60]), (8, [0x99, 0x00, 0x0f]), (11, [0x2a]), (12, [0xb4, 0x00, 0x46]), (15, [0x1b]), (16, [0x1c]), (17, [0xb6, 0x01, 0xb6]), (20, [0xa7, 0x00, 0x04]), (23, [0x02]), (24, [0xac])] := pf_ok prog_1_method_59_code _ 0 (by decide +kernel)
noncomputable def d_X11_good_0 := gq_0 db00d_47 eb_14
noncomputable def d_X11_good_1 := gq_1 db00d_47 eb_22
noncomputable def d_X11_good_2 := gq_2 db00d_47 eb_798
noncomputable def d_X11_good_5 := gq_3 db00d_47 eb_629
noncomputable def d_X11_good_8 := gq_4 db00d_47 eb_297
noncomputable def d_X11_good_11 := gq_5 db00d_47 eb_0
noncomputable def d_X11_good_12 := gq_6 db00d_47 eb_301
noncomputable def d_X11_good_15 := gq_7 db00d_47 eb_10
noncomputable def d_X11_good_16 := gq_8 db00d_47 eb_14
noncomputable def d_X11_good_17 := gq_9 db00d_47 eb_799
noncomputable def d_X11_good_20 := gq_10 db00d_47 eb_21
noncomputable def d_X11_good_23 := gq_11 db00d_47 eb_27
noncomputable def d_X11_good_24 := gq_12 db00d_47 eb_16
theorem db00d_48 : Pf_ prog_1_method_60_code [(0, [0x1b]), (1, [0x04]), (2, [0x08]), (3, [0xb8, 0x00, 0x60]), (6, [0x99, 0x00, 0x12]), (9, [0x2a]), (10, [0xb4, 0x00, 0x46]), (13, [0x1b]), (14, [0xb6, 0x01, 0xba]), (17, [0x99, 0x00, 0x07]), (20, [0x04]), (21, [0xa7, 0x00, 0x04]), (24, [0x03]), (25, [0xac])] := pf_ok prog_1_method_60_code _ 0 (by decide +kernel)
noncomputable def d_X11_least_0 := gq_0 db00d_48 eb_10
noncomputable def d_X11_least_1 := gq_1 db00d_48 eb_20
noncomputable def d_X11_least_2 := gq_2 db00d_48 eb_123
noncomputable def d_X11_least_3 := gq_3 db00d_48 eb_629
noncomputable def d_X11_least_6 := gq_4 db00d_48 eb_140
noncomputable def d_X11_least_9 := gq_5 db00d_48 eb_0
noncomputable def d_X11_least_10 := gq_6 db00d_48 eb_301
noncomputable def d_X11_least_13 := gq_7 db00d_48 eb_10
noncomputable def d_X11_least_14 := gq_8 db00d_48 eb_800
noncomputable def d_X11_least_17 := gq_9 db00d_48 eb_124
noncomputable def d_X11_least_20 := gq_10 db00d_48 eb_20
noncomputable def d_X11_least_21 := gq_11 db00d_48 eb_21
noncomputable def d_X11_least_24 := gq_12 db00d_48 eb_22
noncomputable def d_X11_least_25 := gq_13 db00d_48 eb_16
theorem db00d_49 : Pf_ prog_1_method_61_code [(0, [0x2a]), (1, [0xb4, 0x00, 0x46]), (4, [0xb6, 0x01, 0xbd]), (7, [0xac])] := pf_ok prog_1_method_61_code _ 0 (by decide +kernel)
noncomputable def d_X11_joining_0 := gq_0 db00d_49 eb_0
noncomputable def d_X11_joining_1 := gq_1 db00d_49 eb_301
noncomputable def d_X11_joining_4 := gq_2 db00d_49 eb_801
noncomputable def d_X11_joining_7 := gq_3 db00d_49 eb_16
theorem db00d_50 : Pf_ prog_1_method_62_code [(0, [0x2a]), (1, [0xb4, 0x00, 0x46]), (4, [0x1b]), (5, [0xb6, 0x01, 0xc0]), (8, [0x99, 0x00, 0x0e]), (11, [0x2a]), (12, [0xb4, 0x00, 0x46]), (15, [0x1b]), (16, [0xb6, 0x01, 0xc3]), (19, [0xa7, 0x00, 0x04]), (22, [0x02]), (23, [0xac])] := pf_ok prog_1_method_62_code _ 0 (by decide +kernel)
noncomputable def d_X11_joined_0 := gq_0 db00d_50 eb_0
noncomputable def d_X11_joined_1 := gq_1 db00d_50 eb_301
noncomputable def d_X11_joined_4 := gq_2 db00d_50 eb_10
noncomputable def d_X11_joined_5 := gq_3 db00d_50 eb_802
noncomputable def d_X11_joined_8 := gq_4 db00d_50 eb_176
noncomputable def d_X11_joined_11 := gq_5 db00d_50 eb_0
noncomputable def d_X11_joined_12 := gq_6 db00d_50 eb_301
noncomputable def d_X11_joined_15 := gq_7 db00d_50 eb_10
noncomputable def d_X11_joined_16 := gq_8 db00d_50 eb_803
noncomputable def d_X11_joined_19 := gq_9 db00d_50 eb_21
noncomputable def d_X11_joined_22 := gq_10 db00d_50 eb_27
noncomputable def d_X11_joined_23 := gq_11 db00d_50 eb_16
theorem db00d_51 : Pf_ prog_1_method_63_code [(0, [0x2a]), (1, [0xb4, 0x00, 0x46]), (4, [0x1b]), (5, [0xb6, 0x01, 0xc0]), (8, [0x99, 0x00, 0x0e]), (11, [0x2a]), (12, [0xb4, 0x00, 0x46]), (15, [0x1b]), (16, [0xb6, 0x01, 0xc6]), (19, [0xa7, 0x00, 0x04]), (22, [0x02]), (23, [0xac])] := pf_ok prog_1_method_63_code _ 0 (by decide +kernel)
noncomputable def d_X11_rivals_0 := gq_0 db00d_51 eb_0
noncomputable def d_X11_rivals_1 := gq_1 db00d_51 eb_301
noncomputable def d_X11_rivals_4 := gq_2 db00d_51 eb_10
noncomputable def d_X11_rivals_5 := gq_3 db00d_51 eb_802
noncomputable def d_X11_rivals_8 := gq_4 db00d_51 eb_176
noncomputable def d_X11_rivals_11 := gq_5 db00d_51 eb_0
noncomputable def d_X11_rivals_12 := gq_6 db00d_51 eb_301
noncomputable def d_X11_rivals_15 := gq_7 db00d_51 eb_10
noncomputable def d_X11_rivals_16 := gq_8 db00d_51 eb_804
noncomputable def d_X11_rivals_19 := gq_9 db00d_51 eb_21
noncomputable def d_X11_rivals_22 := gq_10 db00d_51 eb_27
noncomputable def d_X11_rivals_23 := gq_11 db00d_51 eb_16
theorem db00d_52 : Pf_ prog_1_method_64_code [(0, [0x2a]), (1, [0xb4, 0x00, 0x46]), (4, [0x1b]), (5, [0xb6, 0x01, 0xc0]), (8, [0x9a, 0x00, 0x05]), (11, [0x02]), (12, [0xac]), (13, [0x2a]), (14, [0xb4, 0x00, 0x46]), (17, [0x1b]), (18, [0xb6, 0x01, 0xc9]), (21, [0x99, 0x00, 0x07]), (24, [0x04]), (25, [0xa7, 0x00, 0x04]), (28, [0x03]), (29, [0xac])] := pf_ok prog_1_method_64_code _ 0 (by decide +kernel)
noncomputable def d_X11_sure_0 := gq_0 db00d_52 eb_0
noncomputable def d_X11_sure_1 := gq_1 db00d_52 eb_301
noncomputable def d_X11_sure_4 := gq_2 db00d_52 eb_10
noncomputable def d_X11_sure_5 := gq_3 db00d_52 eb_802
noncomputable def d_X11_sure_8 := gq_4 db00d_52 eb_152
noncomputable def d_X11_sure_11 := gq_5 db00d_52 eb_27
noncomputable def d_X11_sure_12 := gq_6 db00d_52 eb_16
noncomputable def d_X11_sure_13 := gq_7 db00d_52 eb_0
noncomputable def d_X11_sure_14 := gq_8 db00d_52 eb_301
noncomputable def d_X11_sure_17 := gq_9 db00d_52 eb_10
noncomputable def d_X11_sure_18 := gq_10 db00d_52 eb_805
noncomputable def d_X11_sure_21 := gq_11 db00d_52 eb_124
noncomputable def d_X11_sure_24 := gq_12 db00d_52 eb_20
noncomputable def d_X11_sure_25 := gq_13 db00d_52 eb_21
noncomputable def d_X11_sure_28 := gq_14 db00d_52 eb_22
noncomputable def d_X11_sure_29 := gq_15 db00d_52 eb_16
theorem db00d_53 : Pf_ prog_1_method_65_code [(0, [0x1b]), (1, [0xb8, 0x00, 0x6b]), (4, [0x99, 0x00, 0x19]), (7, [0x1c]), (8, [0x03]), (9, [0x11, 0x05, 0xa0]), (12, [0xb8, 0x00, 0x60]), (15, [0x99, 0x00, 0x0e]), (18, [0x1d]), (19, [0x1c]), (20, [0x11, 0x05, 0xa0]), (23, [0xb8, 0x00, 0x60]), (26, [0x9a, 0x00, 0x05]), (29, [0x02]), (30, [0xac]), (31, [0x2a]), (32, [0xb4, 0x00, 0x4d]), (35, [0x1b]), (36, [0x1c]), (37, [0x1d]), (38, [0xb6, 0x01, 0xcc]), (41, [0xac])] := pf_ok prog_1_method_65_code _ 0 (by decide +kernel)
noncomputable def d_X11_watch_0 := gq_0 db00d_53 eb_10
noncomputable def d_X11_watch_1 := gq_1 db00d_53 eb_634
noncomputable def d_X11_watch_4 := gq_2 db00d_53 eb_296
noncomputable def d_X11_watch_7 := gq_3 db00d_53 eb_14
noncomputable def d_X11_watch_8 := gq_4 db00d_53 eb_22
noncomputable def d_X11_watch_9 := gq_5 db00d_53 eb_292
noncomputable def d_X11_watch_12 := gq_6 db00d_53 eb_629
noncomputable def d_X11_watch_15 := gq_7 db00d_53 eb_176
noncomputable def d_X11_watch_18 := gq_8 db00d_53 eb_30
noncomputable def d_X11_watch_19 := gq_9 db00d_53 eb_14
noncomputable def d_X11_watch_20 := gq_10 db00d_53 eb_292
noncomputable def d_X11_watch_23 := gq_11 db00d_53 eb_629
noncomputable def d_X11_watch_26 := gq_12 db00d_53 eb_152
noncomputable def d_X11_watch_29 := gq_13 db00d_53 eb_27
noncomputable def d_X11_watch_30 := gq_14 db00d_53 eb_16
noncomputable def d_X11_watch_31 := gq_15 db00d_53 eb_0
noncomputable def d_X11_watch_32 := gq_16 db00d_53 eb_806
noncomputable def d_X11_watch_35 := gq_17 db00d_53 eb_10
noncomputable def d_X11_watch_36 := gq_18 db00d_53 eb_14
noncomputable def d_X11_watch_37 := gq_19 db00d_53 eb_30
noncomputable def d_X11_watch_38 := gq_20 db00d_53 eb_807
noncomputable def d_X11_watch_41 := gq_21 db00d_53 eb_16
theorem db00d_54 : Pf_ prog_1_method_66_code [(0, [0x2a]), (1, [0xb4, 0x00, 0x1a]), (4, [0x1b]), (5, [0xb6, 0x00, 0x94]), (8, [0x99, 0x00, 0x0e]), (11, [0x2a]), (12, [0xb4, 0x00, 0x4d]), (15, [0x1c]), (16, [0xb6, 0x01, 0xcf]), (19, [0x9a, 0x00, 0x05]), (22, [0x02]), (23, [0xac]), (24, [0x2a]), (25, [0xb4, 0x00, 0x4d]), (28, [0x1c]), (29, [0x1b]), (30, [0x2a]), (31, [0xb4, 0x00, 0x1a]), (34, [0x2a]), (35, [0xb4, 0x00, 0x0a]), (38, [0xb6, 0x01, 0xd2]), (41, [0x99, 0x00, 0x07]), (44, [0x04]), (45, [0xa7, 0x00, 0x04])] := pf_ok prog_1_method_66_code _ 0 (by decide +kernel)
noncomputable def d_X11_sees_0 := gq_0 db00d_54 eb_0
noncomputable def d_X11_sees_1 := gq_1 db00d_54 eb_229
noncomputable def d_X11_sees_4 := gq_2 db00d_54 eb_10
noncomputable def d_X11_sees_5 := gq_3 db00d_54 eb_648
noncomputable def d_X11_sees_8 := gq_4 db00d_54 eb_176
noncomputable def d_X11_sees_11 := gq_5 db00d_54 eb_0
noncomputable def d_X11_sees_12 := gq_6 db00d_54 eb_806
noncomputable def d_X11_sees_15 := gq_7 db00d_54 eb_14
noncomputable def d_X11_sees_16 := gq_8 db00d_54 eb_808
noncomputable def d_X11_sees_19 := gq_9 db00d_54 eb_152
noncomputable def d_X11_sees_22 := gq_10 db00d_54 eb_27
noncomputable def d_X11_sees_23 := gq_11 db00d_54 eb_16
noncomputable def d_X11_sees_24 := gq_12 db00d_54 eb_0
noncomputable def d_X11_sees_25 := gq_13 db00d_54 eb_806
noncomputable def d_X11_sees_28 := gq_14 db00d_54 eb_14
noncomputable def d_X11_sees_29 := gq_15 db00d_54 eb_10
noncomputable def d_X11_sees_30 := gq_16 db00d_54 eb_0
noncomputable def d_X11_sees_31 := gq_17 db00d_54 eb_229
noncomputable def d_X11_sees_34 := gq_18 db00d_54 eb_0
noncomputable def d_X11_sees_35 := gq_19 db00d_54 eb_635
noncomputable def d_X11_sees_38 := gq_20 db00d_54 eb_809
noncomputable def d_X11_sees_41 := gq_21 db00d_54 eb_124
noncomputable def d_X11_sees_44 := gq_22 db00d_54 eb_20
noncomputable def d_X11_sees_45 := gq_23 db00d_54 eb_21
theorem db00d_55 : Pf_ prog_1_method_66_code [(48, [0x03]), (49, [0xac])] := pf_ok prog_1_method_66_code _ 48 (by decide +kernel)
noncomputable def d_X11_sees_48 := gq_0 db00d_55 eb_22
noncomputable def d_X11_sees_49 := gq_1 db00d_55 eb_16
theorem db00d_56 : Pf_ prog_1_method_67_code [(0, [0x1b]), (1, [0x9e, 0x00, 0x1c]), (4, [0x1b]), (5, [0x04]), (6, [0x2a]), (7, [0xb4, 0x00, 0x1a]), (10, [0xb4, 0x01, 0xd6]), (13, [0x78]), (14, [0xa2, 0x00, 0x0f]), (17, [0x1b]), (18, [0xb8, 0x01, 0xd8]), (21, [0x08]), (22, [0xa3, 0x00, 0x07]), (25, [0x04]), (26, [0xa7, 0x00, 0x04]), (29, [0x03]), (30, [0xac])] := pf_ok prog_1_method_67_code _ 0 (by decide +kernel)
noncomputable def d_X11_canShare_0 := gq_0 db00d_56 eb_10
noncomputable def d_X11_canShare_1 := gq_1 db00d_56 eb_810
noncomputable def d_X11_canShare_4 := gq_2 db00d_56 eb_10
noncomputable def d_X11_canShare_5 := gq_3 db00d_56 eb_20
noncomputable def d_X11_canShare_6 := gq_4 db00d_56 eb_0
noncomputable def d_X11_canShare_7 := gq_5 db00d_56 eb_229
noncomputable def d_X11_canShare_10 := gq_6 db00d_56 eb_811
noncomputable def d_X11_canShare_13 := gq_7 db00d_56 eb_12
noncomputable def d_X11_canShare_14 := gq_8 db00d_56 eb_474
noncomputable def d_X11_canShare_17 := gq_9 db00d_56 eb_10
noncomputable def d_X11_canShare_18 := gq_10 db00d_56 eb_812
noncomputable def d_X11_canShare_21 := gq_11 db00d_56 eb_123
noncomputable def d_X11_canShare_22 := gq_12 db00d_56 eb_114
noncomputable def d_X11_canShare_25 := gq_13 db00d_56 eb_20
noncomputable def d_X11_canShare_26 := gq_14 db00d_56 eb_21
noncomputable def d_X11_canShare_29 := gq_15 db00d_56 eb_22
noncomputable def d_X11_canShare_30 := gq_16 db00d_56 eb_16
theorem db00d_57 : Pf_ prog_1_method_68_code [(0, [0x2a]), (1, [0x1b]), (2, [0xb6, 0x01, 0xdd]), (5, [0x99, 0x00, 0x16]), (8, [0x2a]), (9, [0xb4, 0x00, 0x4d]), (12, [0x1b]), (13, [0x2a]), (14, [0xb4, 0x00, 0x1a]), (17, [0x2a]), (18, [0xb4, 0x00, 0x0a]), (21, [0xb6, 0x01, 0xe0]), (24, [0xa7, 0x00, 0x04]), (27, [0x02]), (28, [0xac])] := pf_ok prog_1_method_68_code _ 0 (by decide +kernel)
noncomputable def d_X11_safe_0 := gq_0 db00d_57 eb_0
noncomputable def d_X11_safe_1 := gq_1 db00d_57 eb_10
noncomputable def d_X11_safe_2 := gq_2 db00d_57 eb_813
noncomputable def d_X11_safe_5 := gq_3 db00d_57 eb_433
noncomputable def d_X11_safe_8 := gq_4 db00d_57 eb_0
noncomputable def d_X11_safe_9 := gq_5 db00d_57 eb_806
noncomputable def d_X11_safe_12 := gq_6 db00d_57 eb_10
noncomputable def d_X11_safe_13 := gq_7 db00d_57 eb_0
noncomputable def d_X11_safe_14 := gq_8 db00d_57 eb_229
noncomputable def d_X11_safe_17 := gq_9 db00d_57 eb_0
noncomputable def d_X11_safe_18 := gq_10 db00d_57 eb_635
noncomputable def d_X11_safe_21 := gq_11 db00d_57 eb_814
noncomputable def d_X11_safe_24 := gq_12 db00d_57 eb_21
noncomputable def d_X11_safe_27 := gq_13 db00d_57 eb_27
noncomputable def d_X11_safe_28 := gq_14 db00d_57 eb_16
theorem db00d_58 : Pf_ prog_1_method_69_code [(0, [0x2a]), (1, [0x1b]), (2, [0xb6, 0x01, 0xdd]), (5, [0x99, 0x00, 0x16]), (8, [0x2a]), (9, [0xb4, 0x00, 0x1a]), (12, [0x1c]), (13, [0xb6, 0x00, 0x94]), (16, [0x99, 0x00, 0x0b]), (19, [0x1b]), (20, [0x1c]), (21, [0x7a]), (22, [0x04]), (23, [0x7e]), (24, [0x9a, 0x00, 0x05]), (27, [0x02]), (28, [0xac]), (29, [0x2a]), (30, [0xb4, 0x00, 0x4d]), (33, [0x1b]), (34, [0x1c]), (35, [0x2a]), (36, [0xb4, 0x00, 0x1a]), (39, [0x2a])] := pf_ok prog_1_method_69_code _ 0 (by decide +kernel)
noncomputable def d_X11_share_0 := gq_0 db00d_58 eb_0
noncomputable def d_X11_share_1 := gq_1 db00d_58 eb_10
noncomputable def d_X11_share_2 := gq_2 db00d_58 eb_813
noncomputable def d_X11_share_5 := gq_3 db00d_58 eb_433
noncomputable def d_X11_share_8 := gq_4 db00d_58 eb_0
noncomputable def d_X11_share_9 := gq_5 db00d_58 eb_229
noncomputable def d_X11_share_12 := gq_6 db00d_58 eb_14
noncomputable def d_X11_share_13 := gq_7 db00d_58 eb_648
noncomputable def d_X11_share_16 := gq_8 db00d_58 eb_752
noncomputable def d_X11_share_19 := gq_9 db00d_58 eb_10
noncomputable def d_X11_share_20 := gq_10 db00d_58 eb_14
noncomputable def d_X11_share_21 := gq_11 db00d_58 eb_57
noncomputable def d_X11_share_22 := gq_12 db00d_58 eb_20
noncomputable def d_X11_share_23 := gq_13 db00d_58 eb_56
noncomputable def d_X11_share_24 := gq_14 db00d_58 eb_152
noncomputable def d_X11_share_27 := gq_15 db00d_58 eb_27
noncomputable def d_X11_share_28 := gq_16 db00d_58 eb_16
noncomputable def d_X11_share_29 := gq_17 db00d_58 eb_0
noncomputable def d_X11_share_30 := gq_18 db00d_58 eb_806
noncomputable def d_X11_share_33 := gq_19 db00d_58 eb_10
noncomputable def d_X11_share_34 := gq_20 db00d_58 eb_14
noncomputable def d_X11_share_35 := gq_21 db00d_58 eb_0
noncomputable def d_X11_share_36 := gq_22 db00d_58 eb_229
noncomputable def d_X11_share_39 := gq_23 db00d_58 eb_0
theorem db00d_59 : Pf_ prog_1_method_69_code [(40, [0xb4, 0x00, 0x0a]), (43, [0xb6, 0x01, 0xe4]), (46, [0xac])] := pf_ok prog_1_method_69_code _ 40 (by decide +kernel)
noncomputable def d_X11_share_40 := gq_0 db00d_59 eb_635
noncomputable def d_X11_share_43 := gq_1 db00d_59 eb_815
noncomputable def d_X11_share_46 := gq_2 db00d_59 eb_16
theorem db00d_60 : Pf_ prog_1_method_70_code [(0, [0x1b]), (1, [0xb8, 0x00, 0x6b]), (4, [0x99, 0x00, 0x17]), (7, [0x1c]), (8, [0x03]), (9, [0x11, 0x75, 0x30]), (12, [0xb8, 0x00, 0x60]), (15, [0x99, 0x00, 0x0c]), (18, [0x1d]), (19, [0x04]), (20, [0x06]), (21, [0xb8, 0x00, 0x60]), (24, [0x9a, 0x00, 0x05]), (27, [0x02]), (28, [0xac]), (29, [0x2a]), (30, [0xb4, 0x00, 0x4d]), (33, [0x1b]), (34, [0x1c]), (35, [0x1d]), (36, [0xb6, 0x01, 0xe8]), (39, [0xac])] := pf_ok prog_1_method_70_code _ 0 (by decide +kernel)
noncomputable def d_X11_fair_0 := gq_0 db00d_60 eb_10
noncomputable def d_X11_fair_1 := gq_1 db00d_60 eb_634
noncomputable def d_X11_fair_4 := gq_2 db00d_60 eb_207
noncomputable def d_X11_fair_7 := gq_3 db00d_60 eb_14
noncomputable def d_X11_fair_8 := gq_4 db00d_60 eb_22
noncomputable def d_X11_fair_9 := gq_5 db00d_60 eb_673
noncomputable def d_X11_fair_12 := gq_6 db00d_60 eb_629
noncomputable def d_X11_fair_15 := gq_7 db00d_60 eb_51
noncomputable def d_X11_fair_18 := gq_8 db00d_60 eb_30
noncomputable def d_X11_fair_19 := gq_9 db00d_60 eb_20
noncomputable def d_X11_fair_20 := gq_10 db00d_60 eb_55
noncomputable def d_X11_fair_21 := gq_11 db00d_60 eb_629
noncomputable def d_X11_fair_24 := gq_12 db00d_60 eb_152
noncomputable def d_X11_fair_27 := gq_13 db00d_60 eb_27
noncomputable def d_X11_fair_28 := gq_14 db00d_60 eb_16
noncomputable def d_X11_fair_29 := gq_15 db00d_60 eb_0
noncomputable def d_X11_fair_30 := gq_16 db00d_60 eb_806
noncomputable def d_X11_fair_33 := gq_17 db00d_60 eb_10
noncomputable def d_X11_fair_34 := gq_18 db00d_60 eb_14
noncomputable def d_X11_fair_35 := gq_19 db00d_60 eb_30
noncomputable def d_X11_fair_36 := gq_20 db00d_60 eb_816
noncomputable def d_X11_fair_39 := gq_21 db00d_60 eb_16
theorem db00d_61 : Pf_ prog_1_method_71_code [(0, [0x1b]), (1, [0x03]), (2, [0x04]), (3, [0xb8, 0x00, 0x60]), (6, [0x99, 0x00, 0x0a]), (9, [0x2a]), (10, [0xb6, 0x01, 0xeb]), (13, [0x9a, 0x00, 0x05]), (16, [0x02]), (17, [0xac]), (18, [0x1b]), (19, [0x9a, 0x00, 0x0d]), (22, [0x2a]), (23, [0xb4, 0x00, 0x4d]), (26, [0xb6, 0x01, 0xef]), (29, [0xa7, 0x00, 0x0a]), (32, [0x2a]), (33, [0xb4, 0x00, 0x4d]), (36, [0xb6, 0x01, 0xf2]), (39, [0xac])] := pf_ok prog_1_method_71_code _ 0 (by decide +kernel)
noncomputable def d_X11_lending_0 := gq_0 db00d_61 eb_10
noncomputable def d_X11_lending_1 := gq_1 db00d_61 eb_22
noncomputable def d_X11_lending_2 := gq_2 db00d_61 eb_20
noncomputable def d_X11_lending_3 := gq_3 db00d_61 eb_629
noncomputable def d_X11_lending_6 := gq_4 db00d_61 eb_205
noncomputable def d_X11_lending_9 := gq_5 db00d_61 eb_0
noncomputable def d_X11_lending_10 := gq_6 db00d_61 eb_817
noncomputable def d_X11_lending_13 := gq_7 db00d_61 eb_152
noncomputable def d_X11_lending_16 := gq_8 db00d_61 eb_27
noncomputable def d_X11_lending_17 := gq_9 db00d_61 eb_16
noncomputable def d_X11_lending_18 := gq_10 db00d_61 eb_10
noncomputable def d_X11_lending_19 := gq_11 db00d_61 eb_481
noncomputable def d_X11_lending_22 := gq_12 db00d_61 eb_0
noncomputable def d_X11_lending_23 := gq_13 db00d_61 eb_806
noncomputable def d_X11_lending_26 := gq_14 db00d_61 eb_818
noncomputable def d_X11_lending_29 := gq_15 db00d_61 eb_182
noncomputable def d_X11_lending_32 := gq_16 db00d_61 eb_0
noncomputable def d_X11_lending_33 := gq_17 db00d_61 eb_806
noncomputable def d_X11_lending_36 := gq_18 db00d_61 eb_819
noncomputable def d_X11_lending_39 := gq_19 db00d_61 eb_16
theorem db00d_62 : Pf_ prog_1_method_72_code [(0, [0x2a]), (1, [0x1b]), (2, [0xb6, 0x01, 0x3e]), (5, [0x99, 0x00, 0x15]), (8, [0x2a]), (9, [0xb6, 0x01, 0xeb]), (12, [0x99, 0x00, 0x0e]), (15, [0x2a]), (16, [0xb4, 0x00, 0x4d]), (19, [0x1b]), (20, [0xb6, 0x01, 0xf5]), (23, [0xa7, 0x00, 0x04]), (26, [0x02]), (27, [0xac])] := pf_ok prog_1_method_72_code _ 0 (by decide +kernel)
noncomputable def d_X11_lent_0 := gq_0 db00d_62 eb_0
noncomputable def d_X11_lent_1 := gq_1 db00d_62 eb_10
noncomputable def d_X11_lent_2 := gq_2 db00d_62 eb_751
noncomputable def d_X11_lent_5 := gq_3 db00d_62 eb_329
noncomputable def d_X11_lent_8 := gq_4 db00d_62 eb_0
noncomputable def d_X11_lent_9 := gq_5 db00d_62 eb_817
noncomputable def d_X11_lent_12 := gq_6 db00d_62 eb_176
noncomputable def d_X11_lent_15 := gq_7 db00d_62 eb_0
noncomputable def d_X11_lent_16 := gq_8 db00d_62 eb_806
noncomputable def d_X11_lent_19 := gq_9 db00d_62 eb_10
noncomputable def d_X11_lent_20 := gq_10 db00d_62 eb_820
noncomputable def d_X11_lent_23 := gq_11 db00d_62 eb_21
noncomputable def d_X11_lent_26 := gq_12 db00d_62 eb_27
noncomputable def d_X11_lent_27 := gq_13 db00d_62 eb_16
theorem db00d_63 : Pf_ prog_1_method_73_code [(0, [0x03]), (1, [0x3c]), (2, [0x1b]), (3, [0x2a]), (4, [0xb4, 0x00, 0x68]), (7, [0xa2, 0x00, 0x3f]), (10, [0x03]), (11, [0x3d]), (12, [0x1c]), (13, [0x2a]), (14, [0xb4, 0x00, 0x4d]), (17, [0xb4, 0x01, 0xf8]), (20, [0xa2, 0x00, 0x2c]), (23, [0x2a]), (24, [0xb4, 0x00, 0x4d]), (27, [0x1b]), (28, [0x1c]), (29, [0x2a]), (30, [0x2a]), (31, [0xb4, 0x00, 0x2a]), (34, [0x1b]), (35, [0x32]), (36, [0x2a]), (37, [0xb4, 0x00, 0x4d])] := pf_ok prog_1_method_73_code _ 0 (by decide +kernel)
noncomputable def d_X11_findLending_0 := gq_0 db00d_63 eb_22
noncomputable def d_X11_findLending_1 := gq_1 db00d_63 eb_225
noncomputable def d_X11_findLending_2 := gq_2 db00d_63 eb_10
noncomputable def d_X11_findLending_3 := gq_3 db00d_63 eb_0
noncomputable def d_X11_findLending_4 := gq_4 db00d_63 eb_406
noncomputable def d_X11_findLending_7 := gq_5 db00d_63 eb_821
noncomputable def d_X11_findLending_10 := gq_6 db00d_63 eb_22
noncomputable def d_X11_findLending_11 := gq_7 db00d_63 eb_28
noncomputable def d_X11_findLending_12 := gq_8 db00d_63 eb_14
noncomputable def d_X11_findLending_13 := gq_9 db00d_63 eb_0
noncomputable def d_X11_findLending_14 := gq_10 db00d_63 eb_806
noncomputable def d_X11_findLending_17 := gq_11 db00d_63 eb_822
noncomputable def d_X11_findLending_20 := gq_12 db00d_63 eb_446
noncomputable def d_X11_findLending_23 := gq_13 db00d_63 eb_0
noncomputable def d_X11_findLending_24 := gq_14 db00d_63 eb_806
noncomputable def d_X11_findLending_27 := gq_15 db00d_63 eb_10
noncomputable def d_X11_findLending_28 := gq_16 db00d_63 eb_14
noncomputable def d_X11_findLending_29 := gq_17 db00d_63 eb_0
noncomputable def d_X11_findLending_30 := gq_18 db00d_63 eb_0
noncomputable def d_X11_findLending_31 := gq_19 db00d_63 eb_179
noncomputable def d_X11_findLending_34 := gq_20 db00d_63 eb_10
noncomputable def d_X11_findLending_35 := gq_21 db00d_63 eb_631
noncomputable def d_X11_findLending_36 := gq_22 db00d_63 eb_0
noncomputable def d_X11_findLending_37 := gq_23 db00d_63 eb_806
theorem db00d_64 : Pf_ prog_1_method_73_code [(40, [0x1c]), (41, [0xb6, 0x01, 0xfb]), (44, [0x2a]), (45, [0xb4, 0x00, 0x4d]), (48, [0x1c]), (49, [0xb6, 0x01, 0xfe]), (52, [0xb6, 0x02, 0x01]), (55, [0xb6, 0x02, 0x04]), (58, [0x84, 0x02, 0x01]), (61, [0xa7, 0xff, 0xcf]), (64, [0x84, 0x01, 0x01]), (67, [0xa7, 0xff, 0xbf]), (70, [0x2a]), (71, [0xb4, 0x00, 0x4d]), (74, [0x2a]), (75, [0xb4, 0x00, 0x68]), (78, [0xb6, 0x02, 0x07]), (81, [0xac])] := pf_ok prog_1_method_73_code _ 40 (by decide +kernel)
noncomputable def d_X11_findLending_40 := gq_0 db00d_64 eb_14
noncomputable def d_X11_findLending_41 := gq_1 db00d_64 eb_823
noncomputable def d_X11_findLending_44 := gq_2 db00d_64 eb_0
noncomputable def d_X11_findLending_45 := gq_3 db00d_64 eb_806
noncomputable def d_X11_findLending_48 := gq_4 db00d_64 eb_14
noncomputable def d_X11_findLending_49 := gq_5 db00d_64 eb_824
noncomputable def d_X11_findLending_52 := gq_6 db00d_64 eb_825
noncomputable def d_X11_findLending_55 := gq_7 db00d_64 eb_826
noncomputable def d_X11_findLending_58 := gq_8 db00d_64 eb_42
noncomputable def d_X11_findLending_61 := gq_9 db00d_64 eb_467
noncomputable def d_X11_findLending_64 := gq_10 db00d_64 eb_231
noncomputable def d_X11_findLending_67 := gq_11 db00d_64 eb_827
noncomputable def d_X11_findLending_70 := gq_12 db00d_64 eb_0
noncomputable def d_X11_findLending_71 := gq_13 db00d_64 eb_806
noncomputable def d_X11_findLending_74 := gq_14 db00d_64 eb_0
noncomputable def d_X11_findLending_75 := gq_15 db00d_64 eb_406
noncomputable def d_X11_findLending_78 := gq_16 db00d_64 eb_828
noncomputable def d_X11_findLending_81 := gq_17 db00d_64 eb_16
theorem db00d_65 : Pf_ prog_1_method_74_code [(0, [0x2b]), (1, [0xc6, 0x00, 0x12]), (4, [0x2b]), (5, [0xb4, 0x00, 0x9e]), (8, [0x99, 0x00, 0x0d]), (11, [0x2b]), (12, [0xb4, 0x00, 0x9e]), (15, [0x04]), (16, [0x9f, 0x00, 0x05]), (19, [0x02]), (20, [0xac]), (21, [0x2b]), (22, [0xb4, 0x00, 0xd8]), (25, [0x02]), (26, [0x9f, 0x00, 0x07]), (29, [0x04]), (30, [0xa7, 0x00, 0x04]), (33, [0x03]), (34, [0x36, 0x04]), (36, [0x2a]), (37, [0xb4, 0x00, 0x0a]), (40, [0x15, 0x04]), (42, [0x99, 0x00, 0x0a]), (45, [0x2b])] := pf_ok prog_1_method_74_code _ 0 (by decide +kernel)
noncomputable def d_X11_priceOf_0 := gq_0 db00d_65 eb_24
noncomputable def d_X11_priceOf_1 := gq_1 db00d_65 eb_829
noncomputable def d_X11_priceOf_4 := gq_2 db00d_65 eb_24
noncomputable def d_X11_priceOf_5 := gq_3 db00d_65 eb_653
noncomputable def d_X11_priceOf_8 := gq_4 db00d_65 eb_120
noncomputable def d_X11_priceOf_11 := gq_5 db00d_65 eb_24
noncomputable def d_X11_priceOf_12 := gq_6 db00d_65 eb_653
noncomputable def d_X11_priceOf_15 := gq_7 db00d_65 eb_20
noncomputable def d_X11_priceOf_16 := gq_8 db00d_65 eb_121
noncomputable def d_X11_priceOf_19 := gq_9 db00d_65 eb_27
noncomputable def d_X11_priceOf_20 := gq_10 db00d_65 eb_16
noncomputable def d_X11_priceOf_21 := gq_11 db00d_65 eb_24
noncomputable def d_X11_priceOf_22 := gq_12 db00d_65 eb_679
noncomputable def d_X11_priceOf_25 := gq_13 db00d_65 eb_27
noncomputable def d_X11_priceOf_26 := gq_14 db00d_65 eb_557
noncomputable def d_X11_priceOf_29 := gq_15 db00d_65 eb_20
noncomputable def d_X11_priceOf_30 := gq_16 db00d_65 eb_21
noncomputable def d_X11_priceOf_33 := gq_17 db00d_65 eb_22
noncomputable def d_X11_priceOf_34 := gq_18 db00d_65 eb_134
noncomputable def d_X11_priceOf_36 := gq_19 db00d_65 eb_0
noncomputable def d_X11_priceOf_37 := gq_20 db00d_65 eb_635
noncomputable def d_X11_priceOf_40 := gq_21 db00d_65 eb_77
noncomputable def d_X11_priceOf_42 := gq_22 db00d_65 eb_205
noncomputable def d_X11_priceOf_45 := gq_23 db00d_65 eb_24
theorem db00d_66 : Pf_ prog_1_method_74_code [(46, [0xb4, 0x00, 0xd8]), (49, [0xa7, 0x00, 0x07]), (52, [0x2b]), (53, [0xb4, 0x01, 0x15]), (56, [0x1c]), (57, [0xb6, 0x00, 0x73]), (60, [0x36, 0x05]), (62, [0x15, 0x04]), (64, [0x99, 0x00, 0x0a]), (67, [0x2b]), (68, [0xb4, 0x00, 0xdb]), (71, [0xa7, 0x00, 0x07]), (74, [0x2a]), (75, [0xb4, 0x00, 0x5c]), (78, [0x36, 0x06]), (80, [0x15, 0x05]), (82, [0x02]), (83, [0x9f, 0x00, 0x0c]), (86, [0x15, 0x06]), (88, [0x15, 0x05]), (90, [0x60]), (91, [0x1d]), (92, [0xa4, 0x00, 0x05]), (95, [0x02])] := pf_ok prog_1_method_74_code _ 46 (by decide +kernel)
noncomputable def d_X11_priceOf_46 := gq_0 db00d_66 eb_679
noncomputable def d_X11_priceOf_49 := gq_1 db00d_66 eb_206
noncomputable def d_X11_priceOf_52 := gq_2 db00d_66 eb_24
noncomputable def d_X11_priceOf_53 := gq_3 db00d_66 eb_714
noncomputable def d_X11_priceOf_56 := gq_4 db00d_66 eb_14
noncomputable def d_X11_priceOf_57 := gq_5 db00d_66 eb_397
noncomputable def d_X11_priceOf_60 := gq_6 db00d_66 eb_135
noncomputable def d_X11_priceOf_62 := gq_7 db00d_66 eb_77
noncomputable def d_X11_priceOf_64 := gq_8 db00d_66 eb_205
noncomputable def d_X11_priceOf_67 := gq_9 db00d_66 eb_24
noncomputable def d_X11_priceOf_68 := gq_10 db00d_66 eb_694
noncomputable def d_X11_priceOf_71 := gq_11 db00d_66 eb_206
noncomputable def d_X11_priceOf_74 := gq_12 db00d_66 eb_0
noncomputable def d_X11_priceOf_75 := gq_13 db00d_66 eb_628
noncomputable def d_X11_priceOf_78 := gq_14 db00d_66 eb_59
noncomputable def d_X11_priceOf_80 := gq_15 db00d_66 eb_126
noncomputable def d_X11_priceOf_82 := gq_16 db00d_66 eb_27
noncomputable def d_X11_priceOf_83 := gq_17 db00d_66 eb_549
noncomputable def d_X11_priceOf_86 := gq_18 db00d_66 eb_76
noncomputable def d_X11_priceOf_88 := gq_19 db00d_66 eb_126
noncomputable def d_X11_priceOf_90 := gq_20 db00d_66 eb_36
noncomputable def d_X11_priceOf_91 := gq_21 db00d_66 eb_30
noncomputable def d_X11_priceOf_92 := gq_22 db00d_66 eb_337
noncomputable def d_X11_priceOf_95 := gq_23 db00d_66 eb_27
theorem db00d_67 : Pf_ prog_1_method_74_code [(96, [0xac]), (97, [0x2b]), (98, [0xb4, 0x00, 0x9e]), (101, [0x04]), (102, [0xa0, 0x00, 0x0a]), (105, [0x2b]), (106, [0xb6, 0x01, 0x25]), (109, [0xa7, 0x00, 0x04]), (112, [0x03]), (113, [0x36, 0x07]), (115, [0x15, 0x07]), (117, [0x15, 0x05]), (119, [0xb8, 0x02, 0x0a]), (122, [0xac])] := pf_ok prog_1_method_74_code _ 96 (by decide +kernel)
noncomputable def d_X11_priceOf_96 := gq_0 db00d_67 eb_16
noncomputable def d_X11_priceOf_97 := gq_1 db00d_67 eb_24
noncomputable def d_X11_priceOf_98 := gq_2 db00d_67 eb_653
noncomputable def d_X11_priceOf_101 := gq_3 db00d_67 eb_20
noncomputable def d_X11_priceOf_102 := gq_4 db00d_67 eb_262
noncomputable def d_X11_priceOf_105 := gq_5 db00d_67 eb_24
noncomputable def d_X11_priceOf_106 := gq_6 db00d_67 eb_728
noncomputable def d_X11_priceOf_109 := gq_7 db00d_67 eb_21
noncomputable def d_X11_priceOf_112 := gq_8 db00d_67 eb_22
noncomputable def d_X11_priceOf_113 := gq_9 db00d_67 eb_60
noncomputable def d_X11_priceOf_115 := gq_10 db00d_67 eb_74
noncomputable def d_X11_priceOf_117 := gq_11 db00d_67 eb_126
noncomputable def d_X11_priceOf_119 := gq_12 db00d_67 eb_830
noncomputable def d_X11_priceOf_122 := gq_13 db00d_67 eb_16
theorem db00d_68 : Pf_ prog_1_method_75_code [(0, [0x2a]), (1, [0xb4, 0x00, 0x4d]), (4, [0xb6, 0x02, 0x0d]), (7, [0xb1])] := pf_ok prog_1_method_75_code _ 0 (by decide +kernel)
noncomputable def d_X11_fairs_0 := gq_0 db00d_68 eb_0
noncomputable def d_X11_fairs_1 := gq_1 db00d_68 eb_806
noncomputable def d_X11_fairs_4 := gq_2 db00d_68 eb_831
noncomputable def d_X11_fairs_7 := gq_3 db00d_68 eb_8
theorem db00d_69 : Pf_ prog_1_method_76_code [(0, [0x1b]), (1, [0x03]), (2, [0x10, 0x1e]), (4, [0xb8, 0x00, 0x60]), (7, [0x99, 0x00, 0x0f]), (10, [0x2a]), (11, [0xb4, 0x00, 0x13]), (14, [0x03]), (15, [0xb6, 0x00, 0x8c]), (18, [0x02]), (19, [0x9f, 0x00, 0x05]), (22, [0x02]), (23, [0xac]), (24, [0x2a]), (25, [0x2a]), (26, [0xb4, 0x00, 0x25]), (29, [0x1b]), (30, [0xb6, 0x01, 0x54]), (33, [0xac])] := pf_ok prog_1_method_76_code _ 0 (by decide +kernel)
noncomputable def d_X11_pay_0 := gq_0 db00d_69 eb_10
noncomputable def d_X11_pay_1 := gq_1 db00d_69 eb_22
noncomputable def d_X11_pay_2 := gq_2 db00d_69 eb_93
noncomputable def d_X11_pay_4 := gq_3 db00d_69 eb_629
noncomputable def d_X11_pay_7 := gq_4 db00d_69 eb_297
noncomputable def d_X11_pay_10 := gq_5 db00d_69 eb_0
noncomputable def d_X11_pay_11 := gq_6 db00d_69 eb_642
noncomputable def d_X11_pay_14 := gq_7 db00d_69 eb_22
noncomputable def d_X11_pay_15 := gq_8 db00d_69 eb_419
noncomputable def d_X11_pay_18 := gq_9 db00d_69 eb_27
noncomputable def d_X11_pay_19 := gq_10 db00d_69 eb_121
noncomputable def d_X11_pay_22 := gq_11 db00d_69 eb_27
noncomputable def d_X11_pay_23 := gq_12 db00d_69 eb_16
noncomputable def d_X11_pay_24 := gq_13 db00d_69 eb_0
noncomputable def d_X11_pay_25 := gq_14 db00d_69 eb_0
noncomputable def d_X11_pay_26 := gq_15 db00d_69 eb_284
noncomputable def d_X11_pay_29 := gq_16 db00d_69 eb_10
noncomputable def d_X11_pay_30 := gq_17 db00d_69 eb_762
noncomputable def d_X11_pay_33 := gq_18 db00d_69 eb_16
theorem db00d_70 : Pf_ prog_1_method_77_code [(0, [0x2a]), (1, [0x1b]), (2, [0xb6, 0x01, 0x3e]), (5, [0x99, 0x00, 0x16]), (8, [0x1c]), (9, [0x04]), (10, [0x07]), (11, [0xb8, 0x00, 0x60]), (14, [0x99, 0x00, 0x0d]), (17, [0x1d]), (18, [0x03]), (19, [0x10, 0x1e]), (21, [0xb8, 0x00, 0x60]), (24, [0x9a, 0x00, 0x05]), (27, [0x03]), (28, [0xac]), (29, [0x2a]), (30, [0xb4, 0x00, 0x54]), (33, [0x1b]), (34, [0x1c]), (35, [0x1d]), (36, [0x2a]), (37, [0xb4, 0x00, 0x5c]), (40, [0xb6, 0x02, 0x10])] := pf_ok prog_1_method_77_code _ 0 (by decide +kernel)
noncomputable def d_X11_rank_0 := gq_0 db00d_70 eb_0
noncomputable def d_X11_rank_1 := gq_1 db00d_70 eb_10
noncomputable def d_X11_rank_2 := gq_2 db00d_70 eb_751
noncomputable def d_X11_rank_5 := gq_3 db00d_70 eb_433
noncomputable def d_X11_rank_8 := gq_4 db00d_70 eb_14
noncomputable def d_X11_rank_9 := gq_5 db00d_70 eb_20
noncomputable def d_X11_rank_10 := gq_6 db00d_70 eb_294
noncomputable def d_X11_rank_11 := gq_7 db00d_70 eb_629
noncomputable def d_X11_rank_14 := gq_8 db00d_70 eb_120
noncomputable def d_X11_rank_17 := gq_9 db00d_70 eb_30
noncomputable def d_X11_rank_18 := gq_10 db00d_70 eb_22
noncomputable def d_X11_rank_19 := gq_11 db00d_70 eb_93
noncomputable def d_X11_rank_21 := gq_12 db00d_70 eb_629
noncomputable def d_X11_rank_24 := gq_13 db00d_70 eb_152
noncomputable def d_X11_rank_27 := gq_14 db00d_70 eb_22
noncomputable def d_X11_rank_28 := gq_15 db00d_70 eb_16
noncomputable def d_X11_rank_29 := gq_16 db00d_70 eb_0
noncomputable def d_X11_rank_30 := gq_17 db00d_70 eb_769
noncomputable def d_X11_rank_33 := gq_18 db00d_70 eb_10
noncomputable def d_X11_rank_34 := gq_19 db00d_70 eb_14
noncomputable def d_X11_rank_35 := gq_20 db00d_70 eb_30
noncomputable def d_X11_rank_36 := gq_21 db00d_70 eb_0
noncomputable def d_X11_rank_37 := gq_22 db00d_70 eb_628
noncomputable def d_X11_rank_40 := gq_23 db00d_70 eb_832
theorem db00d_71 : Pf_ prog_1_method_77_code [(43, [0xac])] := pf_ok prog_1_method_77_code _ 43 (by decide +kernel)
noncomputable def d_X11_rank_43 := gq_0 db00d_71 eb_16
theorem db00d_72 : Pf_ prog_1_method_78_code [(0, [0x2a]), (1, [0x1b]), (2, [0xb6, 0x00, 0x64]), (5, [0x3a, 0x04]), (7, [0x19, 0x04]), (9, [0xc6, 0x00, 0x15]), (12, [0x1c]), (13, [0x03]), (14, [0x10, 0x1e]), (16, [0xb8, 0x00, 0x60]), (19, [0x99, 0x00, 0x0b]), (22, [0x2a]), (23, [0x1d]), (24, [0xb6, 0x01, 0x41]), (27, [0x9a, 0x00, 0x05]), (30, [0x02]), (31, [0xac]), (32, [0x2a]), (33, [0xb4, 0x00, 0x54]), (36, [0x19, 0x04]), (38, [0x1c]), (39, [0x1d]), (40, [0xb6, 0x01, 0x69]), (43, [0xac])] := pf_ok prog_1_method_78_code _ 0 (by decide +kernel)
noncomputable def d_X11_ranked_0 := gq_0 db00d_72 eb_0
noncomputable def d_X11_ranked_1 := gq_1 db00d_72 eb_10
noncomputable def d_X11_ranked_2 := gq_2 db00d_72 eb_168
noncomputable def d_X11_ranked_5 := gq_3 db00d_72 eb_671
noncomputable def d_X11_ranked_7 := gq_4 db00d_72 eb_359
noncomputable def d_X11_ranked_9 := gq_5 db00d_72 eb_693
noncomputable def d_X11_ranked_12 := gq_6 db00d_72 eb_14
noncomputable def d_X11_ranked_13 := gq_7 db00d_72 eb_22
noncomputable def d_X11_ranked_14 := gq_8 db00d_72 eb_93
noncomputable def d_X11_ranked_16 := gq_9 db00d_72 eb_629
noncomputable def d_X11_ranked_19 := gq_10 db00d_72 eb_752
noncomputable def d_X11_ranked_22 := gq_11 db00d_72 eb_0
noncomputable def d_X11_ranked_23 := gq_12 db00d_72 eb_30
noncomputable def d_X11_ranked_24 := gq_13 db00d_72 eb_753
noncomputable def d_X11_ranked_27 := gq_14 db00d_72 eb_152
noncomputable def d_X11_ranked_30 := gq_15 db00d_72 eb_27
noncomputable def d_X11_ranked_31 := gq_16 db00d_72 eb_16
noncomputable def d_X11_ranked_32 := gq_17 db00d_72 eb_0
noncomputable def d_X11_ranked_33 := gq_18 db00d_72 eb_769
noncomputable def d_X11_ranked_36 := gq_19 db00d_72 eb_359
noncomputable def d_X11_ranked_38 := gq_20 db00d_72 eb_14
noncomputable def d_X11_ranked_39 := gq_21 db00d_72 eb_30
noncomputable def d_X11_ranked_40 := gq_22 db00d_72 eb_770
noncomputable def d_X11_ranked_43 := gq_23 db00d_72 eb_16
theorem db00d_73 : Pf_ prog_1_method_79_code [(0, [0x2a]), (1, [0x1b]), (2, [0xb6, 0x00, 0x64]), (5, [0x3a, 0x04]), (7, [0x19, 0x04]), (9, [0xc6, 0x00, 0x1a]), (12, [0x2a]), (13, [0x1d]), (14, [0xb6, 0x01, 0x41]), (17, [0x99, 0x00, 0x12]), (20, [0x1c]), (21, [0x03]), (22, [0x1d]), (23, [0x11, 0x05, 0xa0]), (26, [0x6c]), (27, [0x04]), (28, [0x64]), (29, [0xb8, 0x00, 0x60]), (32, [0x9a, 0x00, 0x05]), (35, [0x02]), (36, [0xac]), (37, [0x2a]), (38, [0x19, 0x04]), (40, [0x1c])] := pf_ok prog_1_method_79_code _ 0 (by decide +kernel)
noncomputable def d_X11_paid_0 := gq_0 db00d_73 eb_0
noncomputable def d_X11_paid_1 := gq_1 db00d_73 eb_10
noncomputable def d_X11_paid_2 := gq_2 db00d_73 eb_168
noncomputable def d_X11_paid_5 := gq_3 db00d_73 eb_671
noncomputable def d_X11_paid_7 := gq_4 db00d_73 eb_359
noncomputable def d_X11_paid_9 := gq_5 db00d_73 eb_833
noncomputable def d_X11_paid_12 := gq_6 db00d_73 eb_0
noncomputable def d_X11_paid_13 := gq_7 db00d_73 eb_30
noncomputable def d_X11_paid_14 := gq_8 db00d_73 eb_753
noncomputable def d_X11_paid_17 := gq_9 db00d_73 eb_140
noncomputable def d_X11_paid_20 := gq_10 db00d_73 eb_14
noncomputable def d_X11_paid_21 := gq_11 db00d_73 eb_22
noncomputable def d_X11_paid_22 := gq_12 db00d_73 eb_30
noncomputable def d_X11_paid_23 := gq_13 db00d_73 eb_292
noncomputable def d_X11_paid_26 := gq_14 db00d_73 eb_222
noncomputable def d_X11_paid_27 := gq_15 db00d_73 eb_20
noncomputable def d_X11_paid_28 := gq_16 db00d_73 eb_49
noncomputable def d_X11_paid_29 := gq_17 db00d_73 eb_629
noncomputable def d_X11_paid_32 := gq_18 db00d_73 eb_152
noncomputable def d_X11_paid_35 := gq_19 db00d_73 eb_27
noncomputable def d_X11_paid_36 := gq_20 db00d_73 eb_16
noncomputable def d_X11_paid_37 := gq_21 db00d_73 eb_0
noncomputable def d_X11_paid_38 := gq_22 db00d_73 eb_359
noncomputable def d_X11_paid_40 := gq_23 db00d_73 eb_14
theorem db00d_74 : Pf_ prog_1_method_79_code [(41, [0x1d]), (42, [0xb6, 0x02, 0x14]), (45, [0xac])] := pf_ok prog_1_method_79_code _ 41 (by decide +kernel)
noncomputable def d_X11_paid_41 := gq_0 db00d_74 eb_30
noncomputable def d_X11_paid_42 := gq_1 db00d_74 eb_834
noncomputable def d_X11_paid_45 := gq_2 db00d_74 eb_16
theorem db00d_75 : Pf_ prog_1_method_80_code [(0, [0x2b]), (1, [0xc7, 0x00, 0x05]), (4, [0x03]), (5, [0xac]), (6, [0x2a]), (7, [0xb4, 0x00, 0x54]), (10, [0xb4, 0x02, 0x17]), (13, [0x3a, 0x04]), (15, [0x19, 0x04]), (17, [0x03]), (18, [0x2a]), (19, [0xb4, 0x00, 0x54]), (22, [0x2b]), (23, [0x1c]), (24, [0x1d]), (25, [0xb6, 0x01, 0x69]), (28, [0x4f]), (29, [0x19, 0x04]), (31, [0x04]), (32, [0x2b]), (33, [0xb4, 0x01, 0x39]), (36, [0x4f]), (37, [0x19, 0x04]), (39, [0x05])] := pf_ok prog_1_method_80_code _ 0 (by decide +kernel)
noncomputable def d_X11_wageOf_0 := gq_0 db00d_75 eb_24
noncomputable def d_X11_wageOf_1 := gq_1 db00d_75 eb_835
noncomputable def d_X11_wageOf_4 := gq_2 db00d_75 eb_22
noncomputable def d_X11_wageOf_5 := gq_3 db00d_75 eb_16
noncomputable def d_X11_wageOf_6 := gq_4 db00d_75 eb_0
noncomputable def d_X11_wageOf_7 := gq_5 db00d_75 eb_769
noncomputable def d_X11_wageOf_10 := gq_6 db00d_75 eb_836
noncomputable def d_X11_wageOf_13 := gq_7 db00d_75 eb_671
noncomputable def d_X11_wageOf_15 := gq_8 db00d_75 eb_359
noncomputable def d_X11_wageOf_17 := gq_9 db00d_75 eb_22
noncomputable def d_X11_wageOf_18 := gq_10 db00d_75 eb_0
noncomputable def d_X11_wageOf_19 := gq_11 db00d_75 eb_769
noncomputable def d_X11_wageOf_22 := gq_12 db00d_75 eb_24
noncomputable def d_X11_wageOf_23 := gq_13 db00d_75 eb_14
noncomputable def d_X11_wageOf_24 := gq_14 db00d_75 eb_30
noncomputable def d_X11_wageOf_25 := gq_15 db00d_75 eb_770
noncomputable def d_X11_wageOf_28 := gq_16 db00d_75 eb_39
noncomputable def d_X11_wageOf_29 := gq_17 db00d_75 eb_359
noncomputable def d_X11_wageOf_31 := gq_18 db00d_75 eb_20
noncomputable def d_X11_wageOf_32 := gq_19 db00d_75 eb_24
noncomputable def d_X11_wageOf_33 := gq_20 db00d_75 eb_749
noncomputable def d_X11_wageOf_36 := gq_21 db00d_75 eb_39
noncomputable def d_X11_wageOf_37 := gq_22 db00d_75 eb_359
noncomputable def d_X11_wageOf_39 := gq_23 db00d_75 eb_11
theorem db00d_76 : Pf_ prog_1_method_80_code [(40, [0x2a]), (41, [0xb4, 0x00, 0x31]), (44, [0x2b]), (45, [0xb4, 0x00, 0x7e]), (48, [0x1c]), (49, [0x1d]), (50, [0xb6, 0x02, 0x18]), (53, [0x4f]), (54, [0x19, 0x04]), (56, [0x06]), (57, [0x2a]), (58, [0xb4, 0x00, 0x31]), (61, [0x2b]), (62, [0xb4, 0x00, 0x7e]), (65, [0x1c]), (66, [0x1d]), (67, [0xb6, 0x02, 0x1b]), (70, [0x4f]), (71, [0x19, 0x04]), (73, [0x07]), (74, [0x2a]), (75, [0xb4, 0x00, 0x38]), (78, [0x2b]), (79, [0xb4, 0x00, 0x7e])] := pf_ok prog_1_method_80_code _ 40 (by decide +kernel)
noncomputable def d_X11_wageOf_40 := gq_0 db00d_76 eb_0
noncomputable def d_X11_wageOf_41 := gq_1 db00d_76 eb_288
noncomputable def d_X11_wageOf_44 := gq_2 db00d_76 eb_24
noncomputable def d_X11_wageOf_45 := gq_3 db00d_76 eb_641
noncomputable def d_X11_wageOf_48 := gq_4 db00d_76 eb_14
noncomputable def d_X11_wageOf_49 := gq_5 db00d_76 eb_30
noncomputable def d_X11_wageOf_50 := gq_6 db00d_76 eb_837
noncomputable def d_X11_wageOf_53 := gq_7 db00d_76 eb_39
noncomputable def d_X11_wageOf_54 := gq_8 db00d_76 eb_359
noncomputable def d_X11_wageOf_56 := gq_9 db00d_76 eb_55
noncomputable def d_X11_wageOf_57 := gq_10 db00d_76 eb_0
noncomputable def d_X11_wageOf_58 := gq_11 db00d_76 eb_288
noncomputable def d_X11_wageOf_61 := gq_12 db00d_76 eb_24
noncomputable def d_X11_wageOf_62 := gq_13 db00d_76 eb_641
noncomputable def d_X11_wageOf_65 := gq_14 db00d_76 eb_14
noncomputable def d_X11_wageOf_66 := gq_15 db00d_76 eb_30
noncomputable def d_X11_wageOf_67 := gq_16 db00d_76 eb_838
noncomputable def d_X11_wageOf_70 := gq_17 db00d_76 eb_39
noncomputable def d_X11_wageOf_71 := gq_18 db00d_76 eb_359
noncomputable def d_X11_wageOf_73 := gq_19 db00d_76 eb_294
noncomputable def d_X11_wageOf_74 := gq_20 db00d_76 eb_0
noncomputable def d_X11_wageOf_75 := gq_21 db00d_76 eb_497
noncomputable def d_X11_wageOf_78 := gq_22 db00d_76 eb_24
noncomputable def d_X11_wageOf_79 := gq_23 db00d_76 eb_641
theorem db00d_77 : Pf_ prog_1_method_80_code [(82, [0x1c]), (83, [0x2a]), (84, [0xb4, 0x00, 0x21]), (87, [0x1d]), (88, [0x04]), (89, [0xb6, 0x02, 0x1e]), (92, [0x4f]), (93, [0x19, 0x04]), (95, [0x08]), (96, [0x2a]), (97, [0xb4, 0x00, 0x38]), (100, [0x2b]), (101, [0xb4, 0x00, 0x7e]), (104, [0x1c]), (105, [0x2a]), (106, [0xb4, 0x00, 0x21]), (109, [0x1d]), (110, [0x03]), (111, [0xb6, 0x02, 0x1e]), (114, [0x4f]), (115, [0x2a]), (116, [0xb4, 0x00, 0x25]), (119, [0x2a]), (120, [0xb4, 0x00, 0x25])] := pf_ok prog_1_method_80_code _ 82 (by decide +kernel)
noncomputable def d_X11_wageOf_82 := gq_0 db00d_77 eb_14
noncomputable def d_X11_wageOf_83 := gq_1 db00d_77 eb_0
noncomputable def d_X11_wageOf_84 := gq_2 db00d_77 eb_110
noncomputable def d_X11_wageOf_87 := gq_3 db00d_77 eb_30
noncomputable def d_X11_wageOf_88 := gq_4 db00d_77 eb_20
noncomputable def d_X11_wageOf_89 := gq_5 db00d_77 eb_839
noncomputable def d_X11_wageOf_92 := gq_6 db00d_77 eb_39
noncomputable def d_X11_wageOf_93 := gq_7 db00d_77 eb_359
noncomputable def d_X11_wageOf_95 := gq_8 db00d_77 eb_123
noncomputable def d_X11_wageOf_96 := gq_9 db00d_77 eb_0
noncomputable def d_X11_wageOf_97 := gq_10 db00d_77 eb_497
noncomputable def d_X11_wageOf_100 := gq_11 db00d_77 eb_24
noncomputable def d_X11_wageOf_101 := gq_12 db00d_77 eb_641
noncomputable def d_X11_wageOf_104 := gq_13 db00d_77 eb_14
noncomputable def d_X11_wageOf_105 := gq_14 db00d_77 eb_0
noncomputable def d_X11_wageOf_106 := gq_15 db00d_77 eb_110
noncomputable def d_X11_wageOf_109 := gq_16 db00d_77 eb_30
noncomputable def d_X11_wageOf_110 := gq_17 db00d_77 eb_22
noncomputable def d_X11_wageOf_111 := gq_18 db00d_77 eb_839
noncomputable def d_X11_wageOf_114 := gq_19 db00d_77 eb_39
noncomputable def d_X11_wageOf_115 := gq_20 db00d_77 eb_0
noncomputable def d_X11_wageOf_116 := gq_21 db00d_77 eb_284
noncomputable def d_X11_wageOf_119 := gq_22 db00d_77 eb_0
noncomputable def d_X11_wageOf_120 := gq_23 db00d_77 eb_284
theorem db00d_78 : Pf_ prog_1_method_80_code [(123, [0x1c]), (124, [0x1d]), (125, [0xb6, 0x01, 0x5b]), (128, [0x19, 0x04]), (130, [0x03]), (131, [0xb6, 0x01, 0x7f]), (134, [0x36, 0x05]), (136, [0x03]), (137, [0x15, 0x05]), (139, [0x11, 0x27, 0x10]), (142, [0xb8, 0x00, 0xef]), (145, [0xb8, 0x00, 0xf4]), (148, [0xac])] := pf_ok prog_1_method_80_code _ 123 (by decide +kernel)
noncomputable def d_X11_wageOf_123 := gq_0 db00d_78 eb_14
noncomputable def d_X11_wageOf_124 := gq_1 db00d_78 eb_30
noncomputable def d_X11_wageOf_125 := gq_2 db00d_78 eb_764
noncomputable def d_X11_wageOf_128 := gq_3 db00d_78 eb_359
noncomputable def d_X11_wageOf_130 := gq_4 db00d_78 eb_22
noncomputable def d_X11_wageOf_131 := gq_5 db00d_78 eb_776
noncomputable def d_X11_wageOf_134 := gq_6 db00d_78 eb_135
noncomputable def d_X11_wageOf_136 := gq_7 db00d_78 eb_22
noncomputable def d_X11_wageOf_137 := gq_8 db00d_78 eb_126
noncomputable def d_X11_wageOf_139 := gq_9 db00d_78 eb_840
noncomputable def d_X11_wageOf_142 := gq_10 db00d_78 eb_697
noncomputable def d_X11_wageOf_145 := gq_11 db00d_78 eb_698
noncomputable def d_X11_wageOf_148 := gq_12 db00d_78 eb_16
theorem db00d_79 : Pf_ prog_1_method_81_code [(0, [0x2a]), (1, [0xb4, 0x00, 0x5c]), (4, [0x11, 0x05, 0xa0]), (7, [0x6c]), (8, [0x3c]), (9, [0x03]), (10, [0x3d]), (11, [0x1c]), (12, [0x1b]), (13, [0xa2, 0x00, 0x31]), (16, [0x03]), (17, [0x3e]), (18, [0x1d]), (19, [0x2a]), (20, [0xb4, 0x00, 0x68]), (23, [0xa2, 0x00, 0x21]), (26, [0x2a]), (27, [0xb4, 0x00, 0x54]), (30, [0x1d]), (31, [0x1c]), (32, [0x2a]), (33, [0x2a]), (34, [0xb4, 0x00, 0x2a]), (37, [0x1d])] := pf_ok prog_1_method_81_code _ 0 (by decide +kernel)
noncomputable def d_X11_book_0 := gq_0 db00d_79 eb_0
noncomputable def d_X11_book_1 := gq_1 db00d_79 eb_628
noncomputable def d_X11_book_4 := gq_2 db00d_79 eb_292
noncomputable def d_X11_book_7 := gq_3 db00d_79 eb_222
noncomputable def d_X11_book_8 := gq_4 db00d_79 eb_225
noncomputable def d_X11_book_9 := gq_5 db00d_79 eb_22
noncomputable def d_X11_book_10 := gq_6 db00d_79 eb_28
noncomputable def d_X11_book_11 := gq_7 db00d_79 eb_14
noncomputable def d_X11_book_12 := gq_8 db00d_79 eb_10
noncomputable def d_X11_book_13 := gq_9 db00d_79 eb_227
noncomputable def d_X11_book_16 := gq_10 db00d_79 eb_22
noncomputable def d_X11_book_17 := gq_11 db00d_79 eb_29
noncomputable def d_X11_book_18 := gq_12 db00d_79 eb_30
noncomputable def d_X11_book_19 := gq_13 db00d_79 eb_0
noncomputable def d_X11_book_20 := gq_14 db00d_79 eb_406
noncomputable def d_X11_book_23 := gq_15 db00d_79 eb_841
noncomputable def d_X11_book_26 := gq_16 db00d_79 eb_0
noncomputable def d_X11_book_27 := gq_17 db00d_79 eb_769
noncomputable def d_X11_book_30 := gq_18 db00d_79 eb_30
noncomputable def d_X11_book_31 := gq_19 db00d_79 eb_14
noncomputable def d_X11_book_32 := gq_20 db00d_79 eb_0
noncomputable def d_X11_book_33 := gq_21 db00d_79 eb_0
noncomputable def d_X11_book_34 := gq_22 db00d_79 eb_179
noncomputable def d_X11_book_37 := gq_23 db00d_79 eb_30
theorem db00d_80 : Pf_ prog_1_method_81_code [(38, [0x32]), (39, [0x1c]), (40, [0x2a]), (41, [0xb4, 0x00, 0x5c]), (44, [0xb6, 0x02, 0x14]), (47, [0xb6, 0x02, 0x22]), (50, [0x84, 0x03, 0x01]), (53, [0xa7, 0xff, 0xdd]), (56, [0x84, 0x02, 0x01]), (59, [0xa7, 0xff, 0xd0]), (62, [0x2a]), (63, [0xb4, 0x00, 0x54]), (66, [0x2a]), (67, [0xb4, 0x00, 0x68]), (70, [0x1b]), (71, [0x2a]), (72, [0xb4, 0x00, 0x5c]), (75, [0xb6, 0x02, 0x25]), (78, [0xac])] := pf_ok prog_1_method_81_code _ 38 (by decide +kernel)
noncomputable def d_X11_book_38 := gq_0 db00d_80 eb_631
noncomputable def d_X11_book_39 := gq_1 db00d_80 eb_14
noncomputable def d_X11_book_40 := gq_2 db00d_80 eb_0
noncomputable def d_X11_book_41 := gq_3 db00d_80 eb_628
noncomputable def d_X11_book_44 := gq_4 db00d_80 eb_834
noncomputable def d_X11_book_47 := gq_5 db00d_80 eb_842
noncomputable def d_X11_book_50 := gq_6 db00d_80 eb_43
noncomputable def d_X11_book_53 := gq_7 db00d_80 eb_151
noncomputable def d_X11_book_56 := gq_8 db00d_80 eb_42
noncomputable def d_X11_book_59 := gq_9 db00d_80 eb_44
noncomputable def d_X11_book_62 := gq_10 db00d_80 eb_0
noncomputable def d_X11_book_63 := gq_11 db00d_80 eb_769
noncomputable def d_X11_book_66 := gq_12 db00d_80 eb_0
noncomputable def d_X11_book_67 := gq_13 db00d_80 eb_406
noncomputable def d_X11_book_70 := gq_14 db00d_80 eb_10
noncomputable def d_X11_book_71 := gq_15 db00d_80 eb_0
noncomputable def d_X11_book_72 := gq_16 db00d_80 eb_628
noncomputable def d_X11_book_75 := gq_17 db00d_80 eb_843
noncomputable def d_X11_book_78 := gq_18 db00d_80 eb_16
theorem db00d_81 : Pf_ prog_1_method_82_code [(0, [0x2a]), (1, [0xb4, 0x00, 0x54]), (4, [0x1b]), (5, [0x1c]), (6, [0xb6, 0x02, 0x28]), (9, [0xac])] := pf_ok prog_1_method_82_code _ 0 (by decide +kernel)
noncomputable def d_X11_line_0 := gq_0 db00d_81 eb_0
noncomputable def d_X11_line_1 := gq_1 db00d_81 eb_769
noncomputable def d_X11_line_4 := gq_2 db00d_81 eb_10
noncomputable def d_X11_line_5 := gq_3 db00d_81 eb_14
noncomputable def d_X11_line_6 := gq_4 db00d_81 eb_844
noncomputable def d_X11_line_9 := gq_5 db00d_81 eb_16
theorem db00d_82 : Pf_ prog_1_method_83_code [(0, [0x1b]), (1, [0x03]), (2, [0x06]), (3, [0xb8, 0x00, 0x60]), (6, [0x99, 0x00, 0x15]), (9, [0x2a]), (10, [0x1c]), (11, [0xb6, 0x01, 0x3e]), (14, [0x99, 0x00, 0x0d]), (17, [0x1d]), (18, [0x03]), (19, [0x10, 0x0a]), (21, [0xb8, 0x00, 0x60]), (24, [0x9a, 0x00, 0x05]), (27, [0x03]), (28, [0xac]), (29, [0x2a]), (30, [0xb4, 0x00, 0x54]), (33, [0x1b]), (34, [0x1c]), (35, [0x1d]), (36, [0xb6, 0x02, 0x2b]), (39, [0x04]), (40, [0xac])] := pf_ok prog_1_method_83_code _ 0 (by decide +kernel)
noncomputable def d_X11_mark_0 := gq_0 db00d_82 eb_10
noncomputable def d_X11_mark_1 := gq_1 db00d_82 eb_22
noncomputable def d_X11_mark_2 := gq_2 db00d_82 eb_55
noncomputable def d_X11_mark_3 := gq_3 db00d_82 eb_629
noncomputable def d_X11_mark_6 := gq_4 db00d_82 eb_329
noncomputable def d_X11_mark_9 := gq_5 db00d_82 eb_0
noncomputable def d_X11_mark_10 := gq_6 db00d_82 eb_14
noncomputable def d_X11_mark_11 := gq_7 db00d_82 eb_751
noncomputable def d_X11_mark_14 := gq_8 db00d_82 eb_120
noncomputable def d_X11_mark_17 := gq_9 db00d_82 eb_30
noncomputable def d_X11_mark_18 := gq_10 db00d_82 eb_22
noncomputable def d_X11_mark_19 := gq_11 db00d_82 eb_94
noncomputable def d_X11_mark_21 := gq_12 db00d_82 eb_629
noncomputable def d_X11_mark_24 := gq_13 db00d_82 eb_152
noncomputable def d_X11_mark_27 := gq_14 db00d_82 eb_22
noncomputable def d_X11_mark_28 := gq_15 db00d_82 eb_16
noncomputable def d_X11_mark_29 := gq_16 db00d_82 eb_0
noncomputable def d_X11_mark_30 := gq_17 db00d_82 eb_769
noncomputable def d_X11_mark_33 := gq_18 db00d_82 eb_10
noncomputable def d_X11_mark_34 := gq_19 db00d_82 eb_14
noncomputable def d_X11_mark_35 := gq_20 db00d_82 eb_30
noncomputable def d_X11_mark_36 := gq_21 db00d_82 eb_845
noncomputable def d_X11_mark_39 := gq_22 db00d_82 eb_20
noncomputable def d_X11_mark_40 := gq_23 db00d_82 eb_16
theorem db00d_83 : Pf_ prog_1_method_84_code [(0, [0x1b]), (1, [0x04]), (2, [0x10, 0x0c]), (4, [0xb8, 0x00, 0x60]), (7, [0x9a, 0x00, 0x05]), (10, [0x03]), (11, [0xac]), (12, [0x2a]), (13, [0xb4, 0x00, 0x54]), (16, [0x1b]), (17, [0xb5, 0x02, 0x2e]), (20, [0x04]), (21, [0xac])] := pf_ok prog_1_method_84_code _ 0 (by decide +kernel)
noncomputable def d_X11_size_0 := gq_0 db00d_83 eb_10
noncomputable def d_X11_size_1 := gq_1 db00d_83 eb_20
noncomputable def d_X11_size_2 := gq_2 db00d_83 eb_5
noncomputable def d_X11_size_4 := gq_3 db00d_83 eb_629
noncomputable def d_X11_size_7 := gq_4 db00d_83 eb_152
noncomputable def d_X11_size_10 := gq_5 db00d_83 eb_22
noncomputable def d_X11_size_11 := gq_6 db00d_83 eb_16
noncomputable def d_X11_size_12 := gq_7 db00d_83 eb_0
noncomputable def d_X11_size_13 := gq_8 db00d_83 eb_769
noncomputable def d_X11_size_16 := gq_9 db00d_83 eb_10
noncomputable def d_X11_size_17 := gq_10 db00d_83 eb_846
noncomputable def d_X11_size_20 := gq_11 db00d_83 eb_20
noncomputable def d_X11_size_21 := gq_12 db00d_83 eb_16
theorem db00d_84 : Pf_ prog_1_method_85_code [(0, [0x1b]), (1, [0x03]), (2, [0x06]), (3, [0xb8, 0x00, 0x60]), (6, [0x99, 0x00, 0x11]), (9, [0x1c]), (10, [0x03]), (11, [0x06]), (12, [0xb8, 0x00, 0x60]), (15, [0x99, 0x00, 0x08]), (18, [0x1b]), (19, [0x1c]), (20, [0xa0, 0x00, 0x07]), (23, [0x13, 0x02, 0x31]), (26, [0xac]), (27, [0x2a]), (28, [0xb4, 0x00, 0x54]), (31, [0x1b]), (32, [0x1c]), (33, [0x2a]), (34, [0xb4, 0x00, 0x68]), (37, [0xb6, 0x02, 0x32]), (40, [0xac])] := pf_ok prog_1_method_85_code _ 0 (by decide +kernel)
noncomputable def d_X11_habit_0 := gq_0 db00d_84 eb_10
noncomputable def d_X11_habit_1 := gq_1 db00d_84 eb_22
noncomputable def d_X11_habit_2 := gq_2 db00d_84 eb_55
noncomputable def d_X11_habit_3 := gq_3 db00d_84 eb_629
noncomputable def d_X11_habit_6 := gq_4 db00d_84 eb_113
noncomputable def d_X11_habit_9 := gq_5 db00d_84 eb_14
noncomputable def d_X11_habit_10 := gq_6 db00d_84 eb_22
noncomputable def d_X11_habit_11 := gq_7 db00d_84 eb_55
noncomputable def d_X11_habit_12 := gq_8 db00d_84 eb_629
noncomputable def d_X11_habit_15 := gq_9 db00d_84 eb_506
noncomputable def d_X11_habit_18 := gq_10 db00d_84 eb_10
noncomputable def d_X11_habit_19 := gq_11 db00d_84 eb_14
noncomputable def d_X11_habit_20 := gq_12 db00d_84 eb_136
noncomputable def d_X11_habit_23 := gq_13 db00d_84 eb_847
noncomputable def d_X11_habit_26 := gq_14 db00d_84 eb_16
noncomputable def d_X11_habit_27 := gq_15 db00d_84 eb_0
noncomputable def d_X11_habit_28 := gq_16 db00d_84 eb_769
noncomputable def d_X11_habit_31 := gq_17 db00d_84 eb_10
noncomputable def d_X11_habit_32 := gq_18 db00d_84 eb_14
noncomputable def d_X11_habit_33 := gq_19 db00d_84 eb_0
noncomputable def d_X11_habit_34 := gq_20 db00d_84 eb_406
noncomputable def d_X11_habit_37 := gq_21 db00d_84 eb_848
noncomputable def d_X11_habit_40 := gq_22 db00d_84 eb_16
theorem db00d_85 : Pf_ prog_1_method_86_code [(0, [0x2a]), (1, [0x1b]), (2, [0xb6, 0x01, 0x3e]), (5, [0x99, 0x00, 0x1f]), (8, [0x1c]), (9, [0xb8, 0x00, 0x6b]), (12, [0x99, 0x00, 0x18]), (15, [0x2a]), (16, [0x1d]), (17, [0xb6, 0x01, 0x41]), (20, [0x99, 0x00, 0x10]), (23, [0x15, 0x04]), (25, [0x1d]), (26, [0x2a]), (27, [0xb4, 0x00, 0x5c]), (30, [0xb8, 0x00, 0x60]), (33, [0x9a, 0x00, 0x05]), (36, [0x02]), (37, [0xac]), (38, [0x15, 0x04]), (40, [0x1d]), (41, [0x64]), (42, [0x04]), (43, [0x60])] := pf_ok prog_1_method_86_code _ 0 (by decide +kernel)
noncomputable def d_X11_complain_0 := gq_0 db00d_85 eb_0
noncomputable def d_X11_complain_1 := gq_1 db00d_85 eb_10
noncomputable def d_X11_complain_2 := gq_2 db00d_85 eb_751
noncomputable def d_X11_complain_5 := gq_3 db00d_85 eb_795
noncomputable def d_X11_complain_8 := gq_4 db00d_85 eb_14
noncomputable def d_X11_complain_9 := gq_5 db00d_85 eb_634
noncomputable def d_X11_complain_12 := gq_6 db00d_85 eb_216
noncomputable def d_X11_complain_15 := gq_7 db00d_85 eb_0
noncomputable def d_X11_complain_16 := gq_8 db00d_85 eb_30
noncomputable def d_X11_complain_17 := gq_9 db00d_85 eb_753
noncomputable def d_X11_complain_20 := gq_10 db00d_85 eb_137
noncomputable def d_X11_complain_23 := gq_11 db00d_85 eb_77
noncomputable def d_X11_complain_25 := gq_12 db00d_85 eb_30
noncomputable def d_X11_complain_26 := gq_13 db00d_85 eb_0
noncomputable def d_X11_complain_27 := gq_14 db00d_85 eb_628
noncomputable def d_X11_complain_30 := gq_15 db00d_85 eb_629
noncomputable def d_X11_complain_33 := gq_16 db00d_85 eb_152
noncomputable def d_X11_complain_36 := gq_17 db00d_85 eb_27
noncomputable def d_X11_complain_37 := gq_18 db00d_85 eb_16
noncomputable def d_X11_complain_38 := gq_19 db00d_85 eb_77
noncomputable def d_X11_complain_40 := gq_20 db00d_85 eb_30
noncomputable def d_X11_complain_41 := gq_21 db00d_85 eb_49
noncomputable def d_X11_complain_42 := gq_22 db00d_85 eb_20
noncomputable def d_X11_complain_43 := gq_23 db00d_85 eb_36
theorem db00d_86 : Pf_ prog_1_method_86_code [(44, [0x11, 0x05, 0xa0]), (47, [0xa4, 0x00, 0x05]), (50, [0x02]), (51, [0xac]), (52, [0x03]), (53, [0x36, 0x05]), (55, [0x1d]), (56, [0x36, 0x06]), (58, [0x15, 0x06]), (60, [0x15, 0x04]), (62, [0xa3, 0x00, 0x26]), (65, [0x2a]), (66, [0x1b]), (67, [0x15, 0x06]), (69, [0xb6, 0x01, 0x44]), (72, [0x36, 0x07]), (74, [0x15, 0x07]), (76, [0x1c]), (77, [0x04]), (78, [0x60]), (79, [0xa0, 0x00, 0x05]), (82, [0x04]), (83, [0xac]), (84, [0x15, 0x07])] := pf_ok prog_1_method_86_code _ 44 (by decide +kernel)
noncomputable def d_X11_complain_44 := gq_0 db00d_86 eb_292
noncomputable def d_X11_complain_47 := gq_1 db00d_86 eb_337
noncomputable def d_X11_complain_50 := gq_2 db00d_86 eb_27
noncomputable def d_X11_complain_51 := gq_3 db00d_86 eb_16
noncomputable def d_X11_complain_52 := gq_4 db00d_86 eb_22
noncomputable def d_X11_complain_53 := gq_5 db00d_86 eb_135
noncomputable def d_X11_complain_55 := gq_6 db00d_86 eb_30
noncomputable def d_X11_complain_56 := gq_7 db00d_86 eb_59
noncomputable def d_X11_complain_58 := gq_8 db00d_86 eb_76
noncomputable def d_X11_complain_60 := gq_9 db00d_86 eb_77
noncomputable def d_X11_complain_62 := gq_10 db00d_86 eb_573
noncomputable def d_X11_complain_65 := gq_11 db00d_86 eb_0
noncomputable def d_X11_complain_66 := gq_12 db00d_86 eb_10
noncomputable def d_X11_complain_67 := gq_13 db00d_86 eb_76
noncomputable def d_X11_complain_69 := gq_14 db00d_86 eb_754
noncomputable def d_X11_complain_72 := gq_15 db00d_86 eb_60
noncomputable def d_X11_complain_74 := gq_16 db00d_86 eb_74
noncomputable def d_X11_complain_76 := gq_17 db00d_86 eb_14
noncomputable def d_X11_complain_77 := gq_18 db00d_86 eb_20
noncomputable def d_X11_complain_78 := gq_19 db00d_86 eb_36
noncomputable def d_X11_complain_79 := gq_20 db00d_86 eb_496
noncomputable def d_X11_complain_82 := gq_21 db00d_86 eb_20
noncomputable def d_X11_complain_83 := gq_22 db00d_86 eb_16
noncomputable def d_X11_complain_84 := gq_23 db00d_86 eb_74
theorem db00d_87 : Pf_ prog_1_method_86_code [(86, [0x10, 0x11]), (88, [0xa0, 0x00, 0x06]), (91, [0x05]), (92, [0x36, 0x05]), (94, [0x84, 0x06, 0x01]), (97, [0xa7, 0xff, 0xd9]), (100, [0x15, 0x05]), (102, [0xac])] := pf_ok prog_1_method_86_code _ 86 (by decide +kernel)
noncomputable def d_X11_complain_86 := gq_0 db00d_87 eb_755
noncomputable def d_X11_complain_88 := gq_1 db00d_87 eb_41
noncomputable def d_X11_complain_91 := gq_2 db00d_87 eb_11
noncomputable def d_X11_complain_92 := gq_3 db00d_87 eb_135
noncomputable def d_X11_complain_94 := gq_4 db00d_87 eb_73
noncomputable def d_X11_complain_97 := gq_5 db00d_87 eb_335
noncomputable def d_X11_complain_100 := gq_6 db00d_87 eb_126
noncomputable def d_X11_complain_102 := gq_7 db00d_87 eb_16
theorem d_X11_count_1 : decode prog_1_method_87_code 1 = .ok (.tableswitch 117 0 8 #[51, 56, 64, 69, 77, 85, 93, 101, 109], 51) := by decide +kernel
theorem db00d_88 : Pf_ prog_1_method_87_code [(0, [0x1b]), (52, [0x2a]), (53, [0xb4, 0x00, 0x5c]), (56, [0xac]), (57, [0x2a]), (58, [0xb4, 0x00, 0x0a]), (61, [0xb4, 0x02, 0x35]), (64, [0xac]), (65, [0x2a]), (66, [0xb4, 0x00, 0x68]), (69, [0xac]), (70, [0x2a]), (71, [0xb4, 0x00, 0x1a]), (74, [0xb4, 0x01, 0xd6]), (77, [0xac]), (78, [0x2a]), (79, [0xb4, 0x00, 0x31]), (82, [0xb4, 0x00, 0xad]), (85, [0xac]), (86, [0x2a]), (87, [0xb4, 0x00, 0x38]), (90, [0xb4, 0x01, 0x5e]), (93, [0xac]), (94, [0x2a])] := pf_ok prog_1_method_87_code _ 0 (by decide +kernel)
noncomputable def d_X11_count_0 := gq_0 db00d_88 eb_10
noncomputable def d_X11_count_52 := gq_1 db00d_88 eb_0
noncomputable def d_X11_count_53 := gq_2 db00d_88 eb_628
noncomputable def d_X11_count_56 := gq_3 db00d_88 eb_16
noncomputable def d_X11_count_57 := gq_4 db00d_88 eb_0
noncomputable def d_X11_count_58 := gq_5 db00d_88 eb_635
noncomputable def d_X11_count_61 := gq_6 db00d_88 eb_849
noncomputable def d_X11_count_64 := gq_7 db00d_88 eb_16
noncomputable def d_X11_count_65 := gq_8 db00d_88 eb_0
noncomputable def d_X11_count_66 := gq_9 db00d_88 eb_406
noncomputable def d_X11_count_69 := gq_10 db00d_88 eb_16
noncomputable def d_X11_count_70 := gq_11 db00d_88 eb_0
noncomputable def d_X11_count_71 := gq_12 db00d_88 eb_229
noncomputable def d_X11_count_74 := gq_13 db00d_88 eb_811
noncomputable def d_X11_count_77 := gq_14 db00d_88 eb_16
noncomputable def d_X11_count_78 := gq_15 db00d_88 eb_0
noncomputable def d_X11_count_79 := gq_16 db00d_88 eb_288
noncomputable def d_X11_count_82 := gq_17 db00d_88 eb_659
noncomputable def d_X11_count_85 := gq_18 db00d_88 eb_16
noncomputable def d_X11_count_86 := gq_19 db00d_88 eb_0
noncomputable def d_X11_count_87 := gq_20 db00d_88 eb_497
noncomputable def d_X11_count_90 := gq_21 db00d_88 eb_765
noncomputable def d_X11_count_93 := gq_22 db00d_88 eb_16
noncomputable def d_X11_count_94 := gq_23 db00d_88 eb_0
theorem db00d_89 : Pf_ prog_1_method_87_code [(95, [0xb4, 0x00, 0x38]), (98, [0xb4, 0x02, 0x38]), (101, [0xac]), (102, [0x2a]), (103, [0xb4, 0x00, 0x21]), (106, [0xb4, 0x02, 0x3b]), (109, [0xac]), (110, [0x2a]), (111, [0xb4, 0x00, 0x38]), (114, [0xb4, 0x02, 0x3e]), (117, [0xac]), (118, [0x2a]), (119, [0x1b]), (120, [0xb6, 0x02, 0x41]), (123, [0xac])] := pf_ok prog_1_method_87_code _ 95 (by decide +kernel)
noncomputable def d_X11_count_95 := gq_0 db00d_89 eb_497
noncomputable def d_X11_count_98 := gq_1 db00d_89 eb_850
noncomputable def d_X11_count_101 := gq_2 db00d_89 eb_16
noncomputable def d_X11_count_102 := gq_3 db00d_89 eb_0
noncomputable def d_X11_count_103 := gq_4 db00d_89 eb_110
noncomputable def d_X11_count_106 := gq_5 db00d_89 eb_851
noncomputable def d_X11_count_109 := gq_6 db00d_89 eb_16
noncomputable def d_X11_count_110 := gq_7 db00d_89 eb_0
noncomputable def d_X11_count_111 := gq_8 db00d_89 eb_497
noncomputable def d_X11_count_114 := gq_9 db00d_89 eb_852
noncomputable def d_X11_count_117 := gq_10 db00d_89 eb_16
noncomputable def d_X11_count_118 := gq_11 db00d_89 eb_0
noncomputable def d_X11_count_119 := gq_12 db00d_89 eb_10
noncomputable def d_X11_count_120 := gq_13 db00d_89 eb_853
noncomputable def d_X11_count_123 := gq_14 db00d_89 eb_16
theorem d_X11_countMore_1 : decode prog_1_method_88_code 1 = .ok (.tableswitch 135 9 18 #[55, 63, 71, 79, 87, 95, 103, 111, 119, 127], 55) := by decide +kernel
theorem db00d_90 : Pf_ prog_1_method_88_code [(0, [0x1b]), (56, [0x2a]), (57, [0xb4, 0x00, 0x3f]), (60, [0xb4, 0x02, 0x44]), (63, [0xac]), (64, [0x2a]), (65, [0xb4, 0x00, 0x3f]), (68, [0xb4, 0x02, 0x47]), (71, [0xac]), (72, [0x2a]), (73, [0xb4, 0x00, 0x46]), (76, [0xb4, 0x02, 0x4a]), (79, [0xac]), (80, [0x2a]), (81, [0xb4, 0x00, 0x46]), (84, [0xb4, 0x02, 0x4d]), (87, [0xac]), (88, [0x2a]), (89, [0xb4, 0x00, 0x4d]), (92, [0xb4, 0x02, 0x50]), (95, [0xac]), (96, [0x2a]), (97, [0xb4, 0x00, 0x4d]), (100, [0xb4, 0x01, 0xf8])] := pf_ok prog_1_method_88_code _ 0 (by decide +kernel)
noncomputable def d_X11_countMore_0 := gq_0 db00d_90 eb_10
noncomputable def d_X11_countMore_56 := gq_1 db00d_90 eb_0
noncomputable def d_X11_countMore_57 := gq_2 db00d_90 eb_279
noncomputable def d_X11_countMore_60 := gq_3 db00d_90 eb_854
noncomputable def d_X11_countMore_63 := gq_4 db00d_90 eb_16
noncomputable def d_X11_countMore_64 := gq_5 db00d_90 eb_0
noncomputable def d_X11_countMore_65 := gq_6 db00d_90 eb_279
noncomputable def d_X11_countMore_68 := gq_7 db00d_90 eb_855
noncomputable def d_X11_countMore_71 := gq_8 db00d_90 eb_16
noncomputable def d_X11_countMore_72 := gq_9 db00d_90 eb_0
noncomputable def d_X11_countMore_73 := gq_10 db00d_90 eb_301
noncomputable def d_X11_countMore_76 := gq_11 db00d_90 eb_856
noncomputable def d_X11_countMore_79 := gq_12 db00d_90 eb_16
noncomputable def d_X11_countMore_80 := gq_13 db00d_90 eb_0
noncomputable def d_X11_countMore_81 := gq_14 db00d_90 eb_301
noncomputable def d_X11_countMore_84 := gq_15 db00d_90 eb_857
noncomputable def d_X11_countMore_87 := gq_16 db00d_90 eb_16
noncomputable def d_X11_countMore_88 := gq_17 db00d_90 eb_0
noncomputable def d_X11_countMore_89 := gq_18 db00d_90 eb_806
noncomputable def d_X11_countMore_92 := gq_19 db00d_90 eb_858
noncomputable def d_X11_countMore_95 := gq_20 db00d_90 eb_16
noncomputable def d_X11_countMore_96 := gq_21 db00d_90 eb_0
noncomputable def d_X11_countMore_97 := gq_22 db00d_90 eb_806
noncomputable def d_X11_countMore_100 := gq_23 db00d_90 eb_822
theorem db00d_91 : Pf_ prog_1_method_88_code [(103, [0xac]), (104, [0x2a]), (105, [0xb4, 0x00, 0x25]), (108, [0xb4, 0x02, 0x3b]), (111, [0xac]), (112, [0x2a]), (113, [0xb4, 0x00, 0x54]), (116, [0xb4, 0x02, 0x53]), (119, [0xac]), (120, [0x2a]), (121, [0xb4, 0x00, 0x54]), (124, [0xb4, 0x02, 0x56]), (127, [0xac]), (128, [0x2a]), (129, [0xb4, 0x00, 0x13]), (132, [0xb4, 0x02, 0x59]), (135, [0xac]), (136, [0x02]), (137, [0xac])] := pf_ok prog_1_method_88_code _ 103 (by decide +kernel)
noncomputable def d_X11_countMore_103 := gq_0 db00d_91 eb_16
noncomputable def d_X11_countMore_104 := gq_1 db00d_91 eb_0
noncomputable def d_X11_countMore_105 := gq_2 db00d_91 eb_284
noncomputable def d_X11_countMore_108 := gq_3 db00d_91 eb_851
noncomputable def d_X11_countMore_111 := gq_4 db00d_91 eb_16
noncomputable def d_X11_countMore_112 := gq_5 db00d_91 eb_0
noncomputable def d_X11_countMore_113 := gq_6 db00d_91 eb_769
noncomputable def d_X11_countMore_116 := gq_7 db00d_91 eb_859
noncomputable def d_X11_countMore_119 := gq_8 db00d_91 eb_16
noncomputable def d_X11_countMore_120 := gq_9 db00d_91 eb_0
noncomputable def d_X11_countMore_121 := gq_10 db00d_91 eb_769
noncomputable def d_X11_countMore_124 := gq_11 db00d_91 eb_860
noncomputable def d_X11_countMore_127 := gq_12 db00d_91 eb_16
noncomputable def d_X11_countMore_128 := gq_13 db00d_91 eb_0
noncomputable def d_X11_countMore_129 := gq_14 db00d_91 eb_642
noncomputable def d_X11_countMore_132 := gq_15 db00d_91 eb_861
noncomputable def d_X11_countMore_135 := gq_16 db00d_91 eb_16
noncomputable def d_X11_countMore_136 := gq_17 db00d_91 eb_27
noncomputable def d_X11_countMore_137 := gq_18 db00d_91 eb_16
theorem db00d_92 : Pf_ prog_14_method_1_code [(0, [0x1a]), (1, [0x1b]), (2, [0xa1, 0x00, 0x0c]), (5, [0x1a]), (6, [0x1c]), (7, [0xa3, 0x00, 0x07]), (10, [0x04]), (11, [0xa7, 0x00, 0x04]), (14, [0x03]), (15, [0xac])] := pf_ok prog_14_method_1_code _ 0 (by decide +kernel)
noncomputable def d_X12_in_0 := gq_0 db00d_92 eb_9
noncomputable def d_X12_in_1 := gq_1 db00d_92 eb_10
noncomputable def d_X12_in_2 := gq_2 db00d_92 eb_626
noncomputable def d_X12_in_5 := gq_3 db00d_92 eb_9
noncomputable def d_X12_in_6 := gq_4 db00d_92 eb_14
noncomputable def d_X12_in_7 := gq_5 db00d_92 eb_114
noncomputable def d_X12_in_10 := gq_6 db00d_92 eb_20
noncomputable def d_X12_in_11 := gq_7 db00d_92 eb_21
noncomputable def d_X12_in_14 := gq_8 db00d_92 eb_22
noncomputable def d_X12_in_15 := gq_9 db00d_92 eb_16
theorem db00d_93 : Pf_ prog_14_method_2_code [(0, [0x2a]), (1, [0xb7, 0x00, 0x01]), (4, [0x2a]), (5, [0x10, 0x28]), (7, [0xbc, 0x0a]), (9, [0xb5, 0x00, 0x09]), (12, [0x2a]), (13, [0x10, 0x28]), (15, [0xbc, 0x0a]), (17, [0xb5, 0x00, 0x0d]), (20, [0x2a]), (21, [0x10, 0x28]), (23, [0xbc, 0x0a]), (25, [0xb5, 0x00, 0x10]), (28, [0x2a]), (29, [0x10, 0x10]), (31, [0xbc, 0x0a]), (33, [0xb5, 0x00, 0x13]), (36, [0x2a]), (37, [0x10, 0x0c]), (39, [0xbc, 0x0a]), (41, [0xb5, 0x00, 0x16]), (44, [0x2a]), (45, [0x10, 0x0c])] := pf_ok prog_14_method_2_code _ 0 (by decide +kernel)
noncomputable def d_X12_init_0 := gq_0 db00d_93 eb_0
noncomputable def d_X12_init_1 := gq_1 db00d_93 eb_599
noncomputable def d_X12_init_4 := gq_2 db00d_93 eb_0
noncomputable def d_X12_init_5 := gq_3 db00d_93 eb_317
noncomputable def d_X12_init_7 := gq_4 db00d_93 eb_3
noncomputable def d_X12_init_9 := gq_5 db00d_93 eb_196
noncomputable def d_X12_init_12 := gq_6 db00d_93 eb_0
noncomputable def d_X12_init_13 := gq_7 db00d_93 eb_317
noncomputable def d_X12_init_15 := gq_8 db00d_93 eb_3
noncomputable def d_X12_init_17 := gq_9 db00d_93 eb_862
noncomputable def d_X12_init_20 := gq_10 db00d_93 eb_0
noncomputable def d_X12_init_21 := gq_11 db00d_93 eb_317
noncomputable def d_X12_init_23 := gq_12 db00d_93 eb_3
noncomputable def d_X12_init_25 := gq_13 db00d_93 eb_863
noncomputable def d_X12_init_28 := gq_14 db00d_93 eb_0
noncomputable def d_X12_init_29 := gq_15 db00d_93 eb_100
noncomputable def d_X12_init_31 := gq_16 db00d_93 eb_3
noncomputable def d_X12_init_33 := gq_17 db00d_93 eb_605
noncomputable def d_X12_init_36 := gq_18 db00d_93 eb_0
noncomputable def d_X12_init_37 := gq_19 db00d_93 eb_5
noncomputable def d_X12_init_39 := gq_20 db00d_93 eb_3
noncomputable def d_X12_init_41 := gq_21 db00d_93 eb_198
noncomputable def d_X12_init_44 := gq_22 db00d_93 eb_0
noncomputable def d_X12_init_45 := gq_23 db00d_93 eb_5
theorem db00d_94 : Pf_ prog_14_method_2_code [(47, [0xbc, 0x0a]), (49, [0xb5, 0x00, 0x19]), (52, [0x2a]), (53, [0x10, 0x0c]), (55, [0xbc, 0x0a]), (57, [0xb5, 0x00, 0x1c]), (60, [0x2a]), (61, [0x10, 0x0c]), (63, [0xbc, 0x0a]), (65, [0xb5, 0x00, 0x1f]), (68, [0x2a]), (69, [0x10, 0x0c]), (71, [0xbc, 0x0a]), (73, [0xb5, 0x00, 0x22]), (76, [0x2a]), (77, [0x10, 0x0c]), (79, [0xbc, 0x0a]), (81, [0xb5, 0x00, 0x25]), (84, [0x2a]), (85, [0x10, 0x0c]), (87, [0xbc, 0x0a]), (89, [0xb5, 0x00, 0x28]), (92, [0x2a]), (93, [0x10, 0x0c])] := pf_ok prog_14_method_2_code _ 47 (by decide +kernel)
noncomputable def d_X12_init_47 := gq_0 db00d_94 eb_3
noncomputable def d_X12_init_49 := gq_1 db00d_94 eb_353
noncomputable def d_X12_init_52 := gq_2 db00d_94 eb_0
noncomputable def d_X12_init_53 := gq_3 db00d_94 eb_5
noncomputable def d_X12_init_55 := gq_4 db00d_94 eb_3
noncomputable def d_X12_init_57 := gq_5 db00d_94 eb_354
noncomputable def d_X12_init_60 := gq_6 db00d_94 eb_0
noncomputable def d_X12_init_61 := gq_7 db00d_94 eb_5
noncomputable def d_X12_init_63 := gq_8 db00d_94 eb_3
noncomputable def d_X12_init_65 := gq_9 db00d_94 eb_355
noncomputable def d_X12_init_68 := gq_10 db00d_94 eb_0
noncomputable def d_X12_init_69 := gq_11 db00d_94 eb_5
noncomputable def d_X12_init_71 := gq_12 db00d_94 eb_3
noncomputable def d_X12_init_73 := gq_13 db00d_94 eb_268
noncomputable def d_X12_init_76 := gq_14 db00d_94 eb_0
noncomputable def d_X12_init_77 := gq_15 db00d_94 eb_5
noncomputable def d_X12_init_79 := gq_16 db00d_94 eb_3
noncomputable def d_X12_init_81 := gq_17 db00d_94 eb_269
noncomputable def d_X12_init_84 := gq_18 db00d_94 eb_0
noncomputable def d_X12_init_85 := gq_19 db00d_94 eb_5
noncomputable def d_X12_init_87 := gq_20 db00d_94 eb_3
noncomputable def d_X12_init_89 := gq_21 db00d_94 eb_270
noncomputable def d_X12_init_92 := gq_22 db00d_94 eb_0
noncomputable def d_X12_init_93 := gq_23 db00d_94 eb_5
theorem db00d_95 : Pf_ prog_14_method_2_code [(95, [0xbc, 0x0a]), (97, [0xb5, 0x00, 0x2b]), (100, [0x2a]), (101, [0x10, 0x0c]), (103, [0xbc, 0x0a]), (105, [0xb5, 0x00, 0x2e]), (108, [0x2a]), (109, [0x10, 0x0c]), (111, [0xbc, 0x0a]), (113, [0xb5, 0x00, 0x31]), (116, [0x2a]), (117, [0x10, 0x0c]), (119, [0xbc, 0x0a]), (121, [0xb5, 0x00, 0x34]), (124, [0x2a]), (125, [0x10, 0x0c]), (127, [0xbc, 0x0a]), (129, [0xb5, 0x00, 0x37]), (132, [0x2a]), (133, [0x10, 0x0c]), (135, [0xbc, 0x0a]), (137, [0xb5, 0x00, 0x3a]), (140, [0x2a]), (141, [0x10, 0x0c])] := pf_ok prog_14_method_2_code _ 95 (by decide +kernel)
noncomputable def d_X12_init_95 := gq_0 db00d_95 eb_3
noncomputable def d_X12_init_97 := gq_1 db00d_95 eb_271
noncomputable def d_X12_init_100 := gq_2 db00d_95 eb_0
noncomputable def d_X12_init_101 := gq_3 db00d_95 eb_5
noncomputable def d_X12_init_103 := gq_4 db00d_95 eb_3
noncomputable def d_X12_init_105 := gq_5 db00d_95 eb_272
noncomputable def d_X12_init_108 := gq_6 db00d_95 eb_0
noncomputable def d_X12_init_109 := gq_7 db00d_95 eb_5
noncomputable def d_X12_init_111 := gq_8 db00d_95 eb_3
noncomputable def d_X12_init_113 := gq_9 db00d_95 eb_273
noncomputable def d_X12_init_116 := gq_10 db00d_95 eb_0
noncomputable def d_X12_init_117 := gq_11 db00d_95 eb_5
noncomputable def d_X12_init_119 := gq_12 db00d_95 eb_3
noncomputable def d_X12_init_121 := gq_13 db00d_95 eb_275
noncomputable def d_X12_init_124 := gq_14 db00d_95 eb_0
noncomputable def d_X12_init_125 := gq_15 db00d_95 eb_5
noncomputable def d_X12_init_127 := gq_16 db00d_95 eb_3
noncomputable def d_X12_init_129 := gq_17 db00d_95 eb_277
noncomputable def d_X12_init_132 := gq_18 db00d_95 eb_0
noncomputable def d_X12_init_133 := gq_19 db00d_95 eb_5
noncomputable def d_X12_init_135 := gq_20 db00d_95 eb_3
noncomputable def d_X12_init_137 := gq_21 db00d_95 eb_323
noncomputable def d_X12_init_140 := gq_22 db00d_95 eb_0
noncomputable def d_X12_init_141 := gq_23 db00d_95 eb_5
theorem db00d_96 : Pf_ prog_14_method_2_code [(143, [0xbc, 0x0a]), (145, [0xb5, 0x00, 0x3d]), (148, [0x2a]), (149, [0x10, 0x0c]), (151, [0xbc, 0x0a]), (153, [0xb5, 0x00, 0x40]), (156, [0x2a]), (157, [0x10, 0x0c]), (159, [0xbc, 0x0a]), (161, [0xb5, 0x00, 0x43]), (164, [0x2a]), (165, [0x12, 0x46]), (167, [0xbc, 0x08]), (169, [0xb5, 0x00, 0x47]), (172, [0x2a]), (173, [0x10, 0x28]), (175, [0xbc, 0x0a]), (177, [0xb5, 0x00, 0x4b]), (180, [0x2a]), (181, [0x10, 0x28]), (183, [0xbc, 0x0a]), (185, [0xb5, 0x00, 0x4e]), (188, [0x2a]), (189, [0x10, 0x28])] := pf_ok prog_14_method_2_code _ 143 (by decide +kernel)
noncomputable def d_X12_init_143 := gq_0 db00d_96 eb_3
noncomputable def d_X12_init_145 := gq_1 db00d_96 eb_864
noncomputable def d_X12_init_148 := gq_2 db00d_96 eb_0
noncomputable def d_X12_init_149 := gq_3 db00d_96 eb_5
noncomputable def d_X12_init_151 := gq_4 db00d_96 eb_3
noncomputable def d_X12_init_153 := gq_5 db00d_96 eb_865
noncomputable def d_X12_init_156 := gq_6 db00d_96 eb_0
noncomputable def d_X12_init_157 := gq_7 db00d_96 eb_5
noncomputable def d_X12_init_159 := gq_8 db00d_96 eb_3
noncomputable def d_X12_init_161 := gq_9 db00d_96 eb_380
noncomputable def d_X12_init_164 := gq_10 db00d_96 eb_0
noncomputable def d_X12_init_165 := gq_11 db00d_96 eb_866
noncomputable def d_X12_init_167 := gq_12 db00d_96 eb_867
noncomputable def d_X12_init_169 := gq_13 db00d_96 eb_868
noncomputable def d_X12_init_172 := gq_14 db00d_96 eb_0
noncomputable def d_X12_init_173 := gq_15 db00d_96 eb_317
noncomputable def d_X12_init_175 := gq_16 db00d_96 eb_3
noncomputable def d_X12_init_177 := gq_17 db00d_96 eb_869
noncomputable def d_X12_init_180 := gq_18 db00d_96 eb_0
noncomputable def d_X12_init_181 := gq_19 db00d_96 eb_317
noncomputable def d_X12_init_183 := gq_20 db00d_96 eb_3
noncomputable def d_X12_init_185 := gq_21 db00d_96 eb_870
noncomputable def d_X12_init_188 := gq_22 db00d_96 eb_0
noncomputable def d_X12_init_189 := gq_23 db00d_96 eb_317
theorem db00d_97 : Pf_ prog_14_method_2_code [(191, [0xbc, 0x0a]), (193, [0xb5, 0x00, 0x51]), (196, [0x2a]), (197, [0x10, 0x28]), (199, [0xbc, 0x0a]), (201, [0xb5, 0x00, 0x54]), (204, [0x2a]), (205, [0x11, 0x00, 0xa0]), (208, [0xbc, 0x0a]), (210, [0xb5, 0x00, 0x57]), (213, [0x2a]), (214, [0x11, 0x02, 0x30]), (217, [0xbc, 0x0a]), (219, [0xb5, 0x00, 0x5a]), (222, [0x2a]), (223, [0x10, 0x0c]), (225, [0xbc, 0x0a]), (227, [0xb5, 0x00, 0x5d]), (230, [0x2a]), (231, [0x11, 0x07, 0x08]), (234, [0xbc, 0x0a]), (236, [0xb5, 0x00, 0x60]), (239, [0x2a]), (240, [0x11, 0x07, 0x08])] := pf_ok prog_14_method_2_code _ 191 (by decide +kernel)
noncomputable def d_X12_init_191 := gq_0 db00d_97 eb_3
noncomputable def d_X12_init_193 := gq_1 db00d_97 eb_871
noncomputable def d_X12_init_196 := gq_2 db00d_97 eb_0
noncomputable def d_X12_init_197 := gq_3 db00d_97 eb_317
noncomputable def d_X12_init_199 := gq_4 db00d_97 eb_3
noncomputable def d_X12_init_201 := gq_5 db00d_97 eb_624
noncomputable def d_X12_init_204 := gq_6 db00d_97 eb_0
noncomputable def d_X12_init_205 := gq_7 db00d_97 eb_451
noncomputable def d_X12_init_208 := gq_8 db00d_97 eb_3
noncomputable def d_X12_init_210 := gq_9 db00d_97 eb_872
noncomputable def d_X12_init_213 := gq_10 db00d_97 eb_0
noncomputable def d_X12_init_214 := gq_11 db00d_97 eb_873
noncomputable def d_X12_init_217 := gq_12 db00d_97 eb_3
noncomputable def d_X12_init_219 := gq_13 db00d_97 eb_874
noncomputable def d_X12_init_222 := gq_14 db00d_97 eb_0
noncomputable def d_X12_init_223 := gq_15 db00d_97 eb_5
noncomputable def d_X12_init_225 := gq_16 db00d_97 eb_3
noncomputable def d_X12_init_227 := gq_17 db00d_97 eb_875
noncomputable def d_X12_init_230 := gq_18 db00d_97 eb_0
noncomputable def d_X12_init_231 := gq_19 db00d_97 eb_2
noncomputable def d_X12_init_234 := gq_20 db00d_97 eb_3
noncomputable def d_X12_init_236 := gq_21 db00d_97 eb_876
noncomputable def d_X12_init_239 := gq_22 db00d_97 eb_0
noncomputable def d_X12_init_240 := gq_23 db00d_97 eb_2
theorem db00d_98 : Pf_ prog_14_method_2_code [(243, [0xbc, 0x0a]), (245, [0xb5, 0x00, 0x63]), (248, [0x2a]), (249, [0x11, 0x07, 0x08]), (252, [0xbc, 0x0a]), (254, [0xb5, 0x00, 0x66]), (257, [0x2a]), (258, [0x11, 0x57, 0x80]), (261, [0xbc, 0x0a]), (263, [0xb5, 0x00, 0x69]), (266, [0x2a]), (267, [0x10, 0x28]), (269, [0xbc, 0x0a]), (271, [0xb5, 0x00, 0x6c]), (274, [0x2a]), (275, [0x10, 0x28]), (277, [0xbc, 0x0a]), (279, [0xb5, 0x00, 0x6f]), (282, [0x2a]), (283, [0x10, 0x28]), (285, [0xbc, 0x0a]), (287, [0xb5, 0x00, 0x72]), (290, [0x2a]), (291, [0x05])] := pf_ok prog_14_method_2_code _ 243 (by decide +kernel)
noncomputable def d_X12_init_243 := gq_0 db00d_98 eb_3
noncomputable def d_X12_init_245 := gq_1 db00d_98 eb_877
noncomputable def d_X12_init_248 := gq_2 db00d_98 eb_0
noncomputable def d_X12_init_249 := gq_3 db00d_98 eb_2
noncomputable def d_X12_init_252 := gq_4 db00d_98 eb_3
noncomputable def d_X12_init_254 := gq_5 db00d_98 eb_878
noncomputable def d_X12_init_257 := gq_6 db00d_98 eb_0
noncomputable def d_X12_init_258 := gq_7 db00d_98 eb_879
noncomputable def d_X12_init_261 := gq_8 db00d_98 eb_3
noncomputable def d_X12_init_263 := gq_9 db00d_98 eb_880
noncomputable def d_X12_init_266 := gq_10 db00d_98 eb_0
noncomputable def d_X12_init_267 := gq_11 db00d_98 eb_317
noncomputable def d_X12_init_269 := gq_12 db00d_98 eb_3
noncomputable def d_X12_init_271 := gq_13 db00d_98 eb_881
noncomputable def d_X12_init_274 := gq_14 db00d_98 eb_0
noncomputable def d_X12_init_275 := gq_15 db00d_98 eb_317
noncomputable def d_X12_init_277 := gq_16 db00d_98 eb_3
noncomputable def d_X12_init_279 := gq_17 db00d_98 eb_882
noncomputable def d_X12_init_282 := gq_18 db00d_98 eb_0
noncomputable def d_X12_init_283 := gq_19 db00d_98 eb_317
noncomputable def d_X12_init_285 := gq_20 db00d_98 eb_3
noncomputable def d_X12_init_287 := gq_21 db00d_98 eb_883
noncomputable def d_X12_init_290 := gq_22 db00d_98 eb_0
noncomputable def d_X12_init_291 := gq_23 db00d_98 eb_11
theorem db00d_99 : Pf_ prog_14_method_2_code [(292, [0xbc, 0x0a]), (294, [0xb5, 0x00, 0x75]), (297, [0x2a]), (298, [0x11, 0x00, 0x80]), (301, [0xbc, 0x0a]), (303, [0xb5, 0x00, 0x78]), (306, [0x2a]), (307, [0x11, 0x00, 0xc8]), (310, [0xbc, 0x0a]), (312, [0xb5, 0x00, 0x7b]), (315, [0x2a]), (316, [0x11, 0x01, 0x90]), (319, [0xbc, 0x0a]), (321, [0xb5, 0x00, 0x7e]), (324, [0x2a]), (325, [0x11, 0x01, 0x90]), (328, [0xbc, 0x0a]), (330, [0xb5, 0x00, 0x81]), (333, [0x2a]), (334, [0x11, 0x01, 0x90]), (337, [0xbc, 0x0a]), (339, [0xb5, 0x00, 0x84]), (342, [0x2a]), (343, [0x11, 0x01, 0x90])] := pf_ok prog_14_method_2_code _ 292 (by decide +kernel)
noncomputable def d_X12_init_292 := gq_0 db00d_99 eb_3
noncomputable def d_X12_init_294 := gq_1 db00d_99 eb_884
noncomputable def d_X12_init_297 := gq_2 db00d_99 eb_0
noncomputable def d_X12_init_298 := gq_3 db00d_99 eb_885
noncomputable def d_X12_init_301 := gq_4 db00d_99 eb_3
noncomputable def d_X12_init_303 := gq_5 db00d_99 eb_886
noncomputable def d_X12_init_306 := gq_6 db00d_99 eb_0
noncomputable def d_X12_init_307 := gq_7 db00d_99 eb_97
noncomputable def d_X12_init_310 := gq_8 db00d_99 eb_3
noncomputable def d_X12_init_312 := gq_9 db00d_99 eb_887
noncomputable def d_X12_init_315 := gq_10 db00d_99 eb_0
noncomputable def d_X12_init_316 := gq_11 db00d_99 eb_430
noncomputable def d_X12_init_319 := gq_12 db00d_99 eb_3
noncomputable def d_X12_init_321 := gq_13 db00d_99 eb_888
noncomputable def d_X12_init_324 := gq_14 db00d_99 eb_0
noncomputable def d_X12_init_325 := gq_15 db00d_99 eb_430
noncomputable def d_X12_init_328 := gq_16 db00d_99 eb_3
noncomputable def d_X12_init_330 := gq_17 db00d_99 eb_889
noncomputable def d_X12_init_333 := gq_18 db00d_99 eb_0
noncomputable def d_X12_init_334 := gq_19 db00d_99 eb_430
noncomputable def d_X12_init_337 := gq_20 db00d_99 eb_3
noncomputable def d_X12_init_339 := gq_21 db00d_99 eb_890
noncomputable def d_X12_init_342 := gq_22 db00d_99 eb_0
noncomputable def d_X12_init_343 := gq_23 db00d_99 eb_430
theorem db00d_100 : Pf_ prog_14_method_2_code [(346, [0xbc, 0x0a]), (348, [0xb5, 0x00, 0x87]), (351, [0x2a]), (352, [0x11, 0x01, 0x90]), (355, [0xbc, 0x0a]), (357, [0xb5, 0x00, 0x8a]), (360, [0x2a]), (361, [0x11, 0x01, 0x90]), (364, [0xbc, 0x0a]), (366, [0xb5, 0x00, 0x8d]), (369, [0x2a]), (370, [0x11, 0x01, 0x90]), (373, [0xbc, 0x0a]), (375, [0xb5, 0x00, 0x90]), (378, [0x2a]), (379, [0x11, 0x00, 0xc8]), (382, [0xbc, 0x0a]), (384, [0xb5, 0x00, 0x93]), (387, [0x2a]), (388, [0x11, 0x00, 0xc8]), (391, [0xbc, 0x0a]), (393, [0xb5, 0x00, 0x96]), (396, [0x2a]), (397, [0x11, 0x00, 0xc8])] := pf_ok prog_14_method_2_code _ 346 (by decide +kernel)
noncomputable def d_X12_init_346 := gq_0 db00d_100 eb_3
noncomputable def d_X12_init_348 := gq_1 db00d_100 eb_891
noncomputable def d_X12_init_351 := gq_2 db00d_100 eb_0
noncomputable def d_X12_init_352 := gq_3 db00d_100 eb_430
noncomputable def d_X12_init_355 := gq_4 db00d_100 eb_3
noncomputable def d_X12_init_357 := gq_5 db00d_100 eb_892
noncomputable def d_X12_init_360 := gq_6 db00d_100 eb_0
noncomputable def d_X12_init_361 := gq_7 db00d_100 eb_430
noncomputable def d_X12_init_364 := gq_8 db00d_100 eb_3
noncomputable def d_X12_init_366 := gq_9 db00d_100 eb_893
noncomputable def d_X12_init_369 := gq_10 db00d_100 eb_0
noncomputable def d_X12_init_370 := gq_11 db00d_100 eb_430
noncomputable def d_X12_init_373 := gq_12 db00d_100 eb_3
noncomputable def d_X12_init_375 := gq_13 db00d_100 eb_894
noncomputable def d_X12_init_378 := gq_14 db00d_100 eb_0
noncomputable def d_X12_init_379 := gq_15 db00d_100 eb_97
noncomputable def d_X12_init_382 := gq_16 db00d_100 eb_3
noncomputable def d_X12_init_384 := gq_17 db00d_100 eb_895
noncomputable def d_X12_init_387 := gq_18 db00d_100 eb_0
noncomputable def d_X12_init_388 := gq_19 db00d_100 eb_97
noncomputable def d_X12_init_391 := gq_20 db00d_100 eb_3
noncomputable def d_X12_init_393 := gq_21 db00d_100 eb_896
noncomputable def d_X12_init_396 := gq_22 db00d_100 eb_0
noncomputable def d_X12_init_397 := gq_23 db00d_100 eb_97
theorem db00d_101 : Pf_ prog_14_method_2_code [(400, [0xbc, 0x0a]), (402, [0xb5, 0x00, 0x99]), (405, [0x2a]), (406, [0x10, 0x0c]), (408, [0xbc, 0x04]), (410, [0xb5, 0x00, 0x9c]), (413, [0x2a]), (414, [0x10, 0x50]), (416, [0xbc, 0x0a]), (418, [0xb5, 0x00, 0xa0]), (421, [0x2a]), (422, [0x10, 0x50]), (424, [0xbc, 0x0a]), (426, [0xb5, 0x00, 0xa3]), (429, [0x2a]), (430, [0x10, 0x50]), (432, [0xbc, 0x0a]), (434, [0xb5, 0x00, 0xa6]), (437, [0x2a]), (438, [0x10, 0x50]), (440, [0xbc, 0x0a]), (442, [0xb5, 0x00, 0xa9]), (445, [0x2a]), (446, [0x10, 0x50])] := pf_ok prog_14_method_2_code _ 400 (by decide +kernel)
noncomputable def d_X12_init_400 := gq_0 db00d_101 eb_3
noncomputable def d_X12_init_402 := gq_1 db00d_101 eb_897
noncomputable def d_X12_init_405 := gq_2 db00d_101 eb_0
noncomputable def d_X12_init_406 := gq_3 db00d_101 eb_5
noncomputable def d_X12_init_408 := gq_4 db00d_101 eb_203
noncomputable def d_X12_init_410 := gq_5 db00d_101 eb_898
noncomputable def d_X12_init_413 := gq_6 db00d_101 eb_0
noncomputable def d_X12_init_414 := gq_7 db00d_101 eb_266
noncomputable def d_X12_init_416 := gq_8 db00d_101 eb_3
noncomputable def d_X12_init_418 := gq_9 db00d_101 eb_899
noncomputable def d_X12_init_421 := gq_10 db00d_101 eb_0
noncomputable def d_X12_init_422 := gq_11 db00d_101 eb_266
noncomputable def d_X12_init_424 := gq_12 db00d_101 eb_3
noncomputable def d_X12_init_426 := gq_13 db00d_101 eb_900
noncomputable def d_X12_init_429 := gq_14 db00d_101 eb_0
noncomputable def d_X12_init_430 := gq_15 db00d_101 eb_266
noncomputable def d_X12_init_432 := gq_16 db00d_101 eb_3
noncomputable def d_X12_init_434 := gq_17 db00d_101 eb_901
noncomputable def d_X12_init_437 := gq_18 db00d_101 eb_0
noncomputable def d_X12_init_438 := gq_19 db00d_101 eb_266
noncomputable def d_X12_init_440 := gq_20 db00d_101 eb_3
noncomputable def d_X12_init_442 := gq_21 db00d_101 eb_902
noncomputable def d_X12_init_445 := gq_22 db00d_101 eb_0
noncomputable def d_X12_init_446 := gq_23 db00d_101 eb_266
theorem db00d_102 : Pf_ prog_14_method_2_code [(448, [0xbc, 0x0a]), (450, [0xb5, 0x00, 0xac]), (453, [0x2a]), (454, [0x10, 0x50]), (456, [0xbc, 0x04]), (458, [0xb5, 0x00, 0xaf]), (461, [0x2a]), (462, [0x11, 0x01, 0x2c]), (465, [0xbc, 0x0a]), (467, [0xb5, 0x00, 0xb2]), (470, [0x2a]), (471, [0x11, 0x01, 0x2c]), (474, [0xbc, 0x0a]), (476, [0xb5, 0x00, 0xb5]), (479, [0x2a]), (480, [0x11, 0x01, 0x2c]), (483, [0xbc, 0x0a]), (485, [0xb5, 0x00, 0xb8]), (488, [0x2a]), (489, [0x11, 0x01, 0x2c]), (492, [0xbc, 0x0a]), (494, [0xb5, 0x00, 0xbb]), (497, [0x2a]), (498, [0x11, 0x01, 0x2c])] := pf_ok prog_14_method_2_code _ 448 (by decide +kernel)
noncomputable def d_X12_init_448 := gq_0 db00d_102 eb_3
noncomputable def d_X12_init_450 := gq_1 db00d_102 eb_903
noncomputable def d_X12_init_453 := gq_2 db00d_102 eb_0
noncomputable def d_X12_init_454 := gq_3 db00d_102 eb_266
noncomputable def d_X12_init_456 := gq_4 db00d_102 eb_203
noncomputable def d_X12_init_458 := gq_5 db00d_102 eb_904
noncomputable def d_X12_init_461 := gq_6 db00d_102 eb_0
noncomputable def d_X12_init_462 := gq_7 db00d_102 eb_267
noncomputable def d_X12_init_465 := gq_8 db00d_102 eb_3
noncomputable def d_X12_init_467 := gq_9 db00d_102 eb_905
noncomputable def d_X12_init_470 := gq_10 db00d_102 eb_0
noncomputable def d_X12_init_471 := gq_11 db00d_102 eb_267
noncomputable def d_X12_init_474 := gq_12 db00d_102 eb_3
noncomputable def d_X12_init_476 := gq_13 db00d_102 eb_906
noncomputable def d_X12_init_479 := gq_14 db00d_102 eb_0
noncomputable def d_X12_init_480 := gq_15 db00d_102 eb_267
noncomputable def d_X12_init_483 := gq_16 db00d_102 eb_3
noncomputable def d_X12_init_485 := gq_17 db00d_102 eb_907
noncomputable def d_X12_init_488 := gq_18 db00d_102 eb_0
noncomputable def d_X12_init_489 := gq_19 db00d_102 eb_267
noncomputable def d_X12_init_492 := gq_20 db00d_102 eb_3
noncomputable def d_X12_init_494 := gq_21 db00d_102 eb_908
noncomputable def d_X12_init_497 := gq_22 db00d_102 eb_0
noncomputable def d_X12_init_498 := gq_23 db00d_102 eb_267
theorem db00d_103 : Pf_ prog_14_method_2_code [(501, [0xbc, 0x0a]), (503, [0xb5, 0x00, 0xbe]), (506, [0x2a]), (507, [0x11, 0x01, 0x2c]), (510, [0xbc, 0x0a]), (512, [0xb5, 0x00, 0xc1]), (515, [0x2a]), (516, [0x11, 0x0a, 0x8c]), (519, [0xbc, 0x0a]), (521, [0xb5, 0x00, 0xc4]), (524, [0x2a]), (525, [0x10, 0x1e]), (527, [0xbc, 0x0a]), (529, [0xb5, 0x00, 0xc7]), (532, [0x2a]), (533, [0x10, 0x1e]), (535, [0xbc, 0x0a]), (537, [0xb5, 0x00, 0xca]), (540, [0x2a]), (541, [0x10, 0x0a]), (543, [0xbc, 0x0a]), (545, [0xb5, 0x00, 0xcd]), (548, [0x2a]), (549, [0x10, 0x08])] := pf_ok prog_14_method_2_code _ 501 (by decide +kernel)
noncomputable def d_X12_init_501 := gq_0 db00d_103 eb_3
noncomputable def d_X12_init_503 := gq_1 db00d_103 eb_909
noncomputable def d_X12_init_506 := gq_2 db00d_103 eb_0
noncomputable def d_X12_init_507 := gq_3 db00d_103 eb_267
noncomputable def d_X12_init_510 := gq_4 db00d_103 eb_3
noncomputable def d_X12_init_512 := gq_5 db00d_103 eb_910
noncomputable def d_X12_init_515 := gq_6 db00d_103 eb_0
noncomputable def d_X12_init_516 := gq_7 db00d_103 eb_274
noncomputable def d_X12_init_519 := gq_8 db00d_103 eb_3
noncomputable def d_X12_init_521 := gq_9 db00d_103 eb_911
noncomputable def d_X12_init_524 := gq_10 db00d_103 eb_0
noncomputable def d_X12_init_525 := gq_11 db00d_103 eb_93
noncomputable def d_X12_init_527 := gq_12 db00d_103 eb_3
noncomputable def d_X12_init_529 := gq_13 db00d_103 eb_912
noncomputable def d_X12_init_532 := gq_14 db00d_103 eb_0
noncomputable def d_X12_init_533 := gq_15 db00d_103 eb_93
noncomputable def d_X12_init_535 := gq_16 db00d_103 eb_3
noncomputable def d_X12_init_537 := gq_17 db00d_103 eb_913
noncomputable def d_X12_init_540 := gq_18 db00d_103 eb_0
noncomputable def d_X12_init_541 := gq_19 db00d_103 eb_94
noncomputable def d_X12_init_543 := gq_20 db00d_103 eb_3
noncomputable def d_X12_init_545 := gq_21 db00d_103 eb_914
noncomputable def d_X12_init_548 := gq_22 db00d_103 eb_0
noncomputable def d_X12_init_549 := gq_23 db00d_103 eb_95
theorem db00d_104 : Pf_ prog_14_method_2_code [(551, [0xbc, 0x0a]), (553, [0xb5, 0x00, 0xd0]), (556, [0x2a]), (557, [0x11, 0x00, 0xc8]), (560, [0xbc, 0x0a]), (562, [0xb5, 0x00, 0xd3]), (565, [0x2a]), (566, [0x11, 0x00, 0xc8]), (569, [0xbc, 0x0a]), (571, [0xb5, 0x00, 0xd6]), (574, [0x2a]), (575, [0x11, 0x00, 0xc8]), (578, [0xbc, 0x0a]), (580, [0xb5, 0x00, 0xd9]), (583, [0x2a]), (584, [0x11, 0x00, 0xc8]), (587, [0xbc, 0x0a]), (589, [0xb5, 0x00, 0xdc]), (592, [0x2a]), (593, [0x11, 0x00, 0xc8]), (596, [0xbc, 0x04]), (598, [0xb5, 0x00, 0xdf]), (601, [0x2a]), (602, [0x10, 0x10])] := pf_ok prog_14_method_2_code _ 551 (by decide +kernel)
noncomputable def d_X12_init_551 := gq_0 db00d_104 eb_3
noncomputable def d_X12_init_553 := gq_1 db00d_104 eb_915
noncomputable def d_X12_init_556 := gq_2 db00d_104 eb_0
noncomputable def d_X12_init_557 := gq_3 db00d_104 eb_97
noncomputable def d_X12_init_560 := gq_4 db00d_104 eb_3
noncomputable def d_X12_init_562 := gq_5 db00d_104 eb_916
noncomputable def d_X12_init_565 := gq_6 db00d_104 eb_0
noncomputable def d_X12_init_566 := gq_7 db00d_104 eb_97
noncomputable def d_X12_init_569 := gq_8 db00d_104 eb_3
noncomputable def d_X12_init_571 := gq_9 db00d_104 eb_917
noncomputable def d_X12_init_574 := gq_10 db00d_104 eb_0
noncomputable def d_X12_init_575 := gq_11 db00d_104 eb_97
noncomputable def d_X12_init_578 := gq_12 db00d_104 eb_3
noncomputable def d_X12_init_580 := gq_13 db00d_104 eb_918
noncomputable def d_X12_init_583 := gq_14 db00d_104 eb_0
noncomputable def d_X12_init_584 := gq_15 db00d_104 eb_97
noncomputable def d_X12_init_587 := gq_16 db00d_104 eb_3
noncomputable def d_X12_init_589 := gq_17 db00d_104 eb_919
noncomputable def d_X12_init_592 := gq_18 db00d_104 eb_0
noncomputable def d_X12_init_593 := gq_19 db00d_104 eb_97
noncomputable def d_X12_init_596 := gq_20 db00d_104 eb_203
noncomputable def d_X12_init_598 := gq_21 db00d_104 eb_920
noncomputable def d_X12_init_601 := gq_22 db00d_104 eb_0
noncomputable def d_X12_init_602 := gq_23 db00d_104 eb_100
theorem db00d_105 : Pf_ prog_14_method_2_code [(604, [0xbc, 0x0a]), (606, [0xb5, 0x00, 0xe2]), (609, [0x2a]), (610, [0x10, 0x10]), (612, [0xbc, 0x04]), (614, [0xb5, 0x00, 0xe5]), (617, [0x2a]), (618, [0x11, 0x00, 0xb4]), (621, [0xbc, 0x0a]), (623, [0xb5, 0x00, 0xe8]), (626, [0x2a]), (627, [0x11, 0x00, 0xb4]), (630, [0xbc, 0x0a]), (632, [0xb5, 0x00, 0xeb]), (635, [0x2a]), (636, [0x11, 0x00, 0xb4]), (639, [0xbc, 0x0a]), (641, [0xb5, 0x00, 0xee]), (644, [0x2a]), (645, [0x10, 0x1e]), (647, [0xbc, 0x0a]), (649, [0xb5, 0x00, 0xf1]), (652, [0x2a]), (653, [0x10, 0x1e])] := pf_ok prog_14_method_2_code _ 604 (by decide +kernel)
noncomputable def d_X12_init_604 := gq_0 db00d_105 eb_3
noncomputable def d_X12_init_606 := gq_1 db00d_105 eb_921
noncomputable def d_X12_init_609 := gq_2 db00d_105 eb_0
noncomputable def d_X12_init_610 := gq_3 db00d_105 eb_100
noncomputable def d_X12_init_612 := gq_4 db00d_105 eb_203
noncomputable def d_X12_init_614 := gq_5 db00d_105 eb_922
noncomputable def d_X12_init_617 := gq_6 db00d_105 eb_0
noncomputable def d_X12_init_618 := gq_7 db00d_105 eb_102
noncomputable def d_X12_init_621 := gq_8 db00d_105 eb_3
noncomputable def d_X12_init_623 := gq_9 db00d_105 eb_741
noncomputable def d_X12_init_626 := gq_10 db00d_105 eb_0
noncomputable def d_X12_init_627 := gq_11 db00d_105 eb_102
noncomputable def d_X12_init_630 := gq_12 db00d_105 eb_3
noncomputable def d_X12_init_632 := gq_13 db00d_105 eb_923
noncomputable def d_X12_init_635 := gq_14 db00d_105 eb_0
noncomputable def d_X12_init_636 := gq_15 db00d_105 eb_102
noncomputable def d_X12_init_639 := gq_16 db00d_105 eb_3
noncomputable def d_X12_init_641 := gq_17 db00d_105 eb_924
noncomputable def d_X12_init_644 := gq_18 db00d_105 eb_0
noncomputable def d_X12_init_645 := gq_19 db00d_105 eb_93
noncomputable def d_X12_init_647 := gq_20 db00d_105 eb_3
noncomputable def d_X12_init_649 := gq_21 db00d_105 eb_925
noncomputable def d_X12_init_652 := gq_22 db00d_105 eb_0
noncomputable def d_X12_init_653 := gq_23 db00d_105 eb_93
theorem db00d_106 : Pf_ prog_14_method_2_code [(655, [0xbc, 0x0a]), (657, [0xb5, 0x00, 0xf4]), (660, [0x2a]), (661, [0x10, 0x08]), (663, [0xbc, 0x0a]), (665, [0xb5, 0x00, 0xf7]), (668, [0x2a]), (669, [0x10, 0x08]), (671, [0xbc, 0x0a]), (673, [0xb5, 0x00, 0xfa]), (676, [0x2a]), (677, [0x06]), (678, [0xb5, 0x00, 0xfd]), (681, [0x2a]), (682, [0x11, 0x09, 0x00]), (685, [0xbc, 0x0a]), (687, [0xb5, 0x01, 0x01]), (690, [0x2a]), (691, [0x10, 0x08]), (693, [0xbc, 0x0a]), (695, [0xb5, 0x01, 0x04]), (698, [0x2a]), (699, [0x10, 0x08]), (701, [0xbc, 0x0a])] := pf_ok prog_14_method_2_code _ 655 (by decide +kernel)
noncomputable def d_X12_init_655 := gq_0 db00d_106 eb_3
noncomputable def d_X12_init_657 := gq_1 db00d_106 eb_926
noncomputable def d_X12_init_660 := gq_2 db00d_106 eb_0
noncomputable def d_X12_init_661 := gq_3 db00d_106 eb_95
noncomputable def d_X12_init_663 := gq_4 db00d_106 eb_3
noncomputable def d_X12_init_665 := gq_5 db00d_106 eb_927
noncomputable def d_X12_init_668 := gq_6 db00d_106 eb_0
noncomputable def d_X12_init_669 := gq_7 db00d_106 eb_95
noncomputable def d_X12_init_671 := gq_8 db00d_106 eb_3
noncomputable def d_X12_init_673 := gq_9 db00d_106 eb_928
noncomputable def d_X12_init_676 := gq_10 db00d_106 eb_0
noncomputable def d_X12_init_677 := gq_11 db00d_106 eb_55
noncomputable def d_X12_init_678 := gq_12 db00d_106 eb_929
noncomputable def d_X12_init_681 := gq_13 db00d_106 eb_0
noncomputable def d_X12_init_682 := gq_14 db00d_106 eb_201
noncomputable def d_X12_init_685 := gq_15 db00d_106 eb_3
noncomputable def d_X12_init_687 := gq_16 db00d_106 eb_930
noncomputable def d_X12_init_690 := gq_17 db00d_106 eb_0
noncomputable def d_X12_init_691 := gq_18 db00d_106 eb_95
noncomputable def d_X12_init_693 := gq_19 db00d_106 eb_3
noncomputable def d_X12_init_695 := gq_20 db00d_106 eb_931
noncomputable def d_X12_init_698 := gq_21 db00d_106 eb_0
noncomputable def d_X12_init_699 := gq_22 db00d_106 eb_95
noncomputable def d_X12_init_701 := gq_23 db00d_106 eb_3
theorem db00d_107 : Pf_ prog_14_method_2_code [(703, [0xb5, 0x01, 0x07]), (706, [0x2a]), (707, [0x10, 0x08]), (709, [0xbc, 0x0a]), (711, [0xb5, 0x01, 0x0a]), (714, [0x2a]), (715, [0x08]), (716, [0xbc, 0x0a]), (718, [0xb5, 0x01, 0x0d]), (721, [0x2a]), (722, [0x08]), (723, [0xbc, 0x0a]), (725, [0xb5, 0x01, 0x10]), (728, [0x2a]), (729, [0x08]), (730, [0xbc, 0x0a]), (732, [0xb5, 0x01, 0x13]), (735, [0x2a]), (736, [0x08]), (737, [0xbc, 0x0a]), (739, [0xb5, 0x01, 0x16]), (742, [0x2a]), (743, [0x07]), (744, [0xbc, 0x0a])] := pf_ok prog_14_method_2_code _ 703 (by decide +kernel)
noncomputable def d_X12_init_703 := gq_0 db00d_107 eb_932
noncomputable def d_X12_init_706 := gq_1 db00d_107 eb_0
noncomputable def d_X12_init_707 := gq_2 db00d_107 eb_95
noncomputable def d_X12_init_709 := gq_3 db00d_107 eb_3
noncomputable def d_X12_init_711 := gq_4 db00d_107 eb_933
noncomputable def d_X12_init_714 := gq_5 db00d_107 eb_0
noncomputable def d_X12_init_715 := gq_6 db00d_107 eb_123
noncomputable def d_X12_init_716 := gq_7 db00d_107 eb_3
noncomputable def d_X12_init_718 := gq_8 db00d_107 eb_934
noncomputable def d_X12_init_721 := gq_9 db00d_107 eb_0
noncomputable def d_X12_init_722 := gq_10 db00d_107 eb_123
noncomputable def d_X12_init_723 := gq_11 db00d_107 eb_3
noncomputable def d_X12_init_725 := gq_12 db00d_107 eb_935
noncomputable def d_X12_init_728 := gq_13 db00d_107 eb_0
noncomputable def d_X12_init_729 := gq_14 db00d_107 eb_123
noncomputable def d_X12_init_730 := gq_15 db00d_107 eb_3
noncomputable def d_X12_init_732 := gq_16 db00d_107 eb_936
noncomputable def d_X12_init_735 := gq_17 db00d_107 eb_0
noncomputable def d_X12_init_736 := gq_18 db00d_107 eb_123
noncomputable def d_X12_init_737 := gq_19 db00d_107 eb_3
noncomputable def d_X12_init_739 := gq_20 db00d_107 eb_937
noncomputable def d_X12_init_742 := gq_21 db00d_107 eb_0
noncomputable def d_X12_init_743 := gq_22 db00d_107 eb_294
noncomputable def d_X12_init_744 := gq_23 db00d_107 eb_3
theorem db00d_108 : Pf_ prog_14_method_2_code [(746, [0xb5, 0x01, 0x19]), (749, [0x2a]), (750, [0x07]), (751, [0xbc, 0x0a]), (753, [0xb5, 0x01, 0x1c]), (756, [0x2a]), (757, [0x07]), (758, [0xbc, 0x0a]), (760, [0xb5, 0x01, 0x1f]), (763, [0x2a]), (764, [0x11, 0x0d, 0x00]), (767, [0xbc, 0x0a]), (769, [0xb5, 0x01, 0x22]), (772, [0x2a]), (773, [0x10, 0x30]), (775, [0xbc, 0x0a]), (777, [0xb5, 0x01, 0x25]), (780, [0x2a]), (781, [0x11, 0x01, 0x74]), (784, [0xbc, 0x0a]), (786, [0xb5, 0x01, 0x28]), (789, [0x2a]), (790, [0x11, 0x02, 0x58]), (793, [0xbc, 0x0a])] := pf_ok prog_14_method_2_code _ 746 (by decide +kernel)
noncomputable def d_X12_init_746 := gq_0 db00d_108 eb_938
noncomputable def d_X12_init_749 := gq_1 db00d_108 eb_0
noncomputable def d_X12_init_750 := gq_2 db00d_108 eb_294
noncomputable def d_X12_init_751 := gq_3 db00d_108 eb_3
noncomputable def d_X12_init_753 := gq_4 db00d_108 eb_939
noncomputable def d_X12_init_756 := gq_5 db00d_108 eb_0
noncomputable def d_X12_init_757 := gq_6 db00d_108 eb_294
noncomputable def d_X12_init_758 := gq_7 db00d_108 eb_3
noncomputable def d_X12_init_760 := gq_8 db00d_108 eb_725
noncomputable def d_X12_init_763 := gq_9 db00d_108 eb_0
noncomputable def d_X12_init_764 := gq_10 db00d_108 eb_356
noncomputable def d_X12_init_767 := gq_11 db00d_108 eb_3
noncomputable def d_X12_init_769 := gq_12 db00d_108 eb_727
noncomputable def d_X12_init_772 := gq_13 db00d_108 eb_0
noncomputable def d_X12_init_773 := gq_14 db00d_108 eb_320
noncomputable def d_X12_init_775 := gq_15 db00d_108 eb_3
noncomputable def d_X12_init_777 := gq_16 db00d_108 eb_940
noncomputable def d_X12_init_780 := gq_17 db00d_108 eb_0
noncomputable def d_X12_init_781 := gq_18 db00d_108 eb_941
noncomputable def d_X12_init_784 := gq_19 db00d_108 eb_3
noncomputable def d_X12_init_786 := gq_20 db00d_108 eb_942
noncomputable def d_X12_init_789 := gq_21 db00d_108 eb_0
noncomputable def d_X12_init_790 := gq_22 db00d_108 eb_319
noncomputable def d_X12_init_793 := gq_23 db00d_108 eb_3
theorem db00d_109 : Pf_ prog_14_method_2_code [(795, [0xb5, 0x01, 0x2b]), (798, [0x2a]), (799, [0x11, 0x02, 0x58]), (802, [0xbc, 0x0a]), (804, [0xb5, 0x01, 0x2e]), (807, [0x2a]), (808, [0x11, 0x02, 0x58]), (811, [0xbc, 0x0a]), (813, [0xb5, 0x01, 0x31]), (816, [0x2a]), (817, [0x11, 0x02, 0x58]), (820, [0xbc, 0x0a]), (822, [0xb5, 0x01, 0x34]), (825, [0x2a]), (826, [0x10, 0x30]), (828, [0xbc, 0x0a]), (830, [0xb5, 0x01, 0x37]), (833, [0x2a]), (834, [0x10, 0x30]), (836, [0xbc, 0x04]), (838, [0xb5, 0x01, 0x3a]), (841, [0x2a]), (842, [0x06]), (843, [0xb5, 0x01, 0x3d])] := pf_ok prog_14_method_2_code _ 795 (by decide +kernel)
noncomputable def d_X12_init_795 := gq_0 db00d_109 eb_943
noncomputable def d_X12_init_798 := gq_1 db00d_109 eb_0
noncomputable def d_X12_init_799 := gq_2 db00d_109 eb_319
noncomputable def d_X12_init_802 := gq_3 db00d_109 eb_3
noncomputable def d_X12_init_804 := gq_4 db00d_109 eb_944
noncomputable def d_X12_init_807 := gq_5 db00d_109 eb_0
noncomputable def d_X12_init_808 := gq_6 db00d_109 eb_319
noncomputable def d_X12_init_811 := gq_7 db00d_109 eb_3
noncomputable def d_X12_init_813 := gq_8 db00d_109 eb_945
noncomputable def d_X12_init_816 := gq_9 db00d_109 eb_0
noncomputable def d_X12_init_817 := gq_10 db00d_109 eb_319
noncomputable def d_X12_init_820 := gq_11 db00d_109 eb_3
noncomputable def d_X12_init_822 := gq_12 db00d_109 eb_946
noncomputable def d_X12_init_825 := gq_13 db00d_109 eb_0
noncomputable def d_X12_init_826 := gq_14 db00d_109 eb_320
noncomputable def d_X12_init_828 := gq_15 db00d_109 eb_3
noncomputable def d_X12_init_830 := gq_16 db00d_109 eb_947
noncomputable def d_X12_init_833 := gq_17 db00d_109 eb_0
noncomputable def d_X12_init_834 := gq_18 db00d_109 eb_320
noncomputable def d_X12_init_836 := gq_19 db00d_109 eb_203
noncomputable def d_X12_init_838 := gq_20 db00d_109 eb_948
noncomputable def d_X12_init_841 := gq_21 db00d_109 eb_0
noncomputable def d_X12_init_842 := gq_22 db00d_109 eb_55
noncomputable def d_X12_init_843 := gq_23 db00d_109 eb_949
theorem db00d_110 : Pf_ prog_14_method_2_code [(846, [0x03]), (847, [0x3c]), (848, [0x1b]), (849, [0x10, 0x08]), (851, [0xa2, 0x00, 0x10]), (854, [0x2a]), (855, [0xb4, 0x00, 0xd0]), (858, [0x1b]), (859, [0x04]), (860, [0x4f]), (861, [0x84, 0x01, 0x01]), (864, [0xa7, 0xff, 0xf0]), (867, [0xb1])] := pf_ok prog_14_method_2_code _ 846 (by decide +kernel)
noncomputable def d_X12_init_846 := gq_0 db00d_110 eb_22
noncomputable def d_X12_init_847 := gq_1 db00d_110 eb_225
noncomputable def d_X12_init_848 := gq_2 db00d_110 eb_10
noncomputable def d_X12_init_849 := gq_3 db00d_110 eb_95
noncomputable def d_X12_init_851 := gq_4 db00d_110 eb_246
noncomputable def d_X12_init_854 := gq_5 db00d_110 eb_0
noncomputable def d_X12_init_855 := gq_6 db00d_110 eb_950
noncomputable def d_X12_init_858 := gq_7 db00d_110 eb_10
noncomputable def d_X12_init_859 := gq_8 db00d_110 eb_20
noncomputable def d_X12_init_860 := gq_9 db00d_110 eb_39
noncomputable def d_X12_init_861 := gq_10 db00d_110 eb_231
noncomputable def d_X12_init_864 := gq_11 db00d_110 eb_729
noncomputable def d_X12_init_867 := gq_12 db00d_110 eb_8
theorem db00d_111 : Pf_ prog_14_method_4_code [(0, [0x1a]), (1, [0x03]), (2, [0x10, 0x0f]), (4, [0xb8, 0x01, 0x43]), (7, [0xac])] := pf_ok prog_14_method_4_code _ 0 (by decide +kernel)
noncomputable def d_X12_isPlace_0 := gq_0 db00d_111 eb_9
noncomputable def d_X12_isPlace_1 := gq_1 db00d_111 eb_22
noncomputable def d_X12_isPlace_2 := gq_2 db00d_111 eb_58
noncomputable def d_X12_isPlace_4 := gq_3 db00d_111 eb_951
noncomputable def d_X12_isPlace_7 := gq_4 db00d_111 eb_16
theorem db00d_112 : Pf_ prog_14_method_5_code [(0, [0x1b]), (1, [0xb8, 0x01, 0x47]), (4, [0x99, 0x00, 0x22]), (7, [0x1c]), (8, [0xb8, 0x01, 0x47]), (11, [0x99, 0x00, 0x1b]), (14, [0x1b]), (15, [0x1c]), (16, [0x9f, 0x00, 0x16]), (19, [0x1d]), (20, [0x04]), (21, [0x10, 0x3c]), (23, [0xb8, 0x01, 0x43]), (26, [0x99, 0x00, 0x0c]), (29, [0x2a])] := pf_ok prog_14_method_5_code _ 0 (by decide +kernel)
noncomputable def d_X12_path_0 := gq_0 db00d_112 eb_10
noncomputable def d_X12_path_1 := gq_1 db00d_112 eb_952
noncomputable def d_X12_path_4 := gq_2 db00d_112 eb_484
noncomputable def d_X12_path_7 := gq_3 db00d_112 eb_14
noncomputable def d_X12_path_8 := gq_4 db00d_112 eb_952
noncomputable def d_X12_path_11 := gq_5 db00d_112 eb_447
noncomputable def d_X12_path_14 := gq_6 db00d_112 eb_10
noncomputable def d_X12_path_15 := gq_7 db00d_112 eb_14
noncomputable def d_X12_path_16 := gq_8 db00d_112 eb_350
noncomputable def d_X12_path_19 := gq_9 db00d_112 eb_30
noncomputable def d_X12_path_20 := gq_10 db00d_112 eb_20
noncomputable def d_X12_path_21 := gq_11 db00d_112 eb_293
noncomputable def d_X12_path_23 := gq_12 db00d_112 eb_951
noncomputable def d_X12_path_26 := gq_13 db00d_112 eb_51
noncomputable def d_X12_path_29 := gq_14 db00d_112 eb_0
end
section
theorem db00e_0 : Pf_ prog_14_method_5_code [(30, [0xb4, 0x01, 0x4b]), (33, [0x10, 0x28]), (35, [0xa0, 0x00, 0x05]), (38, [0x02]), (39, [0xac]), (40, [0x2a]), (41, [0xb4, 0x00, 0x09]), (44, [0x2a]), (45, [0xb4, 0x01, 0x4b]), (48, [0x1b]), (49, [0x4f]), (50, [0x2a]), (51, [0xb4, 0x00, 0x0d]), (54, [0x2a]), (55, [0xb4, 0x01, 0x4b]), (58, [0x1c]), (59, [0x4f]), (60, [0x2a]), (61, [0xb4, 0x00, 0x10]), (64, [0x2a]), (65, [0xb4, 0x01, 0x4b]), (68, [0x1d]), (69, [0x4f]), (70, [0x2a])] := pf_ok prog_14_method_5_code _ 30 (by decide +kernel)
noncomputable def d_X12_path_30 := gq_0 db00e_0 eb_953
noncomputable def d_X12_path_33 := gq_1 db00e_0 eb_317
noncomputable def d_X12_path_35 := gq_2 db00e_0 eb_496
noncomputable def d_X12_path_38 := gq_3 db00e_0 eb_27
noncomputable def d_X12_path_39 := gq_4 db00e_0 eb_16
noncomputable def d_X12_path_40 := gq_5 db00e_0 eb_0
noncomputable def d_X12_path_41 := gq_6 db00e_0 eb_562
noncomputable def d_X12_path_44 := gq_7 db00e_0 eb_0
noncomputable def d_X12_path_45 := gq_8 db00e_0 eb_953
noncomputable def d_X12_path_48 := gq_9 db00e_0 eb_10
noncomputable def d_X12_path_49 := gq_10 db00e_0 eb_39
noncomputable def d_X12_path_50 := gq_11 db00e_0 eb_0
noncomputable def d_X12_path_51 := gq_12 db00e_0 eb_954
noncomputable def d_X12_path_54 := gq_13 db00e_0 eb_0
noncomputable def d_X12_path_55 := gq_14 db00e_0 eb_953
noncomputable def d_X12_path_58 := gq_15 db00e_0 eb_14
noncomputable def d_X12_path_59 := gq_16 db00e_0 eb_39
noncomputable def d_X12_path_60 := gq_17 db00e_0 eb_0
noncomputable def d_X12_path_61 := gq_18 db00e_0 eb_955
noncomputable def d_X12_path_64 := gq_19 db00e_0 eb_0
noncomputable def d_X12_path_65 := gq_20 db00e_0 eb_953
noncomputable def d_X12_path_68 := gq_21 db00e_0 eb_30
noncomputable def d_X12_path_69 := gq_22 db00e_0 eb_39
noncomputable def d_X12_path_70 := gq_23 db00e_0 eb_0
theorem db00e_1 : Pf_ prog_14_method_5_code [(71, [0x59]), (72, [0xb4, 0x01, 0x4b]), (75, [0x04]), (76, [0x60]), (77, [0xb5, 0x01, 0x4b]), (80, [0x2a]), (81, [0xb4, 0x01, 0x4b]), (84, [0x04]), (85, [0x64]), (86, [0xac])] := pf_ok prog_14_method_5_code _ 71 (by decide +kernel)
noncomputable def d_X12_path_71 := gq_0 db00e_1 eb_47
noncomputable def d_X12_path_72 := gq_1 db00e_1 eb_953
noncomputable def d_X12_path_75 := gq_2 db00e_1 eb_20
noncomputable def d_X12_path_76 := gq_3 db00e_1 eb_36
noncomputable def d_X12_path_77 := gq_4 db00e_1 eb_956
noncomputable def d_X12_path_80 := gq_5 db00e_1 eb_0
noncomputable def d_X12_path_81 := gq_6 db00e_1 eb_953
noncomputable def d_X12_path_84 := gq_7 db00e_1 eb_20
noncomputable def d_X12_path_85 := gq_8 db00e_1 eb_49
noncomputable def d_X12_path_86 := gq_9 db00e_1 eb_16
theorem db00e_2 : Pf_ prog_14_method_6_code [(0, [0x03]), (1, [0x3e]), (2, [0x1d]), (3, [0x10, 0x10]), (5, [0xa2, 0x00, 0x1b]), (8, [0x2a]), (9, [0xb4, 0x00, 0x13]), (12, [0x1d]), (13, [0x1d]), (14, [0x1b]), (15, [0xa0, 0x00, 0x07]), (18, [0x03]), (19, [0xa7, 0x00, 0x06]), (22, [0x13, 0x01, 0x4e]), (25, [0x4f]), (26, [0x84, 0x03, 0x01]), (29, [0xa7, 0xff, 0xe5]), (32, [0x04]), (33, [0x3e]), (34, [0x1d]), (35, [0x99, 0x00, 0x8e]), (38, [0x03]), (39, [0x3e]), (40, [0x03])] := pf_ok prog_14_method_6_code _ 0 (by decide +kernel)
noncomputable def d_X12_walkOf_0 := gq_0 db00e_2 eb_22
noncomputable def d_X12_walkOf_1 := gq_1 db00e_2 eb_29
noncomputable def d_X12_walkOf_2 := gq_2 db00e_2 eb_30
noncomputable def d_X12_walkOf_3 := gq_3 db00e_2 eb_100
noncomputable def d_X12_walkOf_5 := gq_4 db00e_2 eb_339
noncomputable def d_X12_walkOf_8 := gq_5 db00e_2 eb_0
noncomputable def d_X12_walkOf_9 := gq_6 db00e_2 eb_642
noncomputable def d_X12_walkOf_12 := gq_7 db00e_2 eb_30
noncomputable def d_X12_walkOf_13 := gq_8 db00e_2 eb_30
noncomputable def d_X12_walkOf_14 := gq_9 db00e_2 eb_10
noncomputable def d_X12_walkOf_15 := gq_10 db00e_2 eb_136
noncomputable def d_X12_walkOf_18 := gq_11 db00e_2 eb_22
noncomputable def d_X12_walkOf_19 := gq_12 db00e_2 eb_756
noncomputable def d_X12_walkOf_22 := gq_13 db00e_2 eb_957
noncomputable def d_X12_walkOf_25 := gq_14 db00e_2 eb_39
noncomputable def d_X12_walkOf_26 := gq_15 db00e_2 eb_43
noncomputable def d_X12_walkOf_29 := gq_16 db00e_2 eb_710
noncomputable def d_X12_walkOf_32 := gq_17 db00e_2 eb_20
noncomputable def d_X12_walkOf_33 := gq_18 db00e_2 eb_29
noncomputable def d_X12_walkOf_34 := gq_19 db00e_2 eb_30
noncomputable def d_X12_walkOf_35 := gq_20 db00e_2 eb_958
noncomputable def d_X12_walkOf_38 := gq_21 db00e_2 eb_22
noncomputable def d_X12_walkOf_39 := gq_22 db00e_2 eb_29
noncomputable def d_X12_walkOf_40 := gq_23 db00e_2 eb_22
theorem db00e_3 : Pf_ prog_14_method_6_code [(41, [0x36, 0x04]), (43, [0x15, 0x04]), (45, [0x2a]), (46, [0xb4, 0x01, 0x4b]), (49, [0xa2, 0x00, 0x7d]), (52, [0x2a]), (53, [0xb4, 0x00, 0x09]), (56, [0x15, 0x04]), (58, [0x2e]), (59, [0x36, 0x05]), (61, [0x2a]), (62, [0xb4, 0x00, 0x0d]), (65, [0x15, 0x04]), (67, [0x2e]), (68, [0x36, 0x06]), (70, [0x2a]), (71, [0xb4, 0x00, 0x13]), (74, [0x15, 0x05]), (76, [0x2e]), (77, [0x2a]), (78, [0xb4, 0x00, 0x10]), (81, [0x15, 0x04]), (83, [0x2e]), (84, [0x60])] := pf_ok prog_14_method_6_code _ 41 (by decide +kernel)
noncomputable def d_X12_walkOf_41 := gq_0 db00e_3 eb_134
noncomputable def d_X12_walkOf_43 := gq_1 db00e_3 eb_77
noncomputable def d_X12_walkOf_45 := gq_2 db00e_3 eb_0
noncomputable def d_X12_walkOf_46 := gq_3 db00e_3 eb_953
noncomputable def d_X12_walkOf_49 := gq_4 db00e_3 eb_959
noncomputable def d_X12_walkOf_52 := gq_5 db00e_3 eb_0
noncomputable def d_X12_walkOf_53 := gq_6 db00e_3 eb_562
noncomputable def d_X12_walkOf_56 := gq_7 db00e_3 eb_77
noncomputable def d_X12_walkOf_58 := gq_8 db00e_3 eb_38
noncomputable def d_X12_walkOf_59 := gq_9 db00e_3 eb_135
noncomputable def d_X12_walkOf_61 := gq_10 db00e_3 eb_0
noncomputable def d_X12_walkOf_62 := gq_11 db00e_3 eb_954
noncomputable def d_X12_walkOf_65 := gq_12 db00e_3 eb_77
noncomputable def d_X12_walkOf_67 := gq_13 db00e_3 eb_38
noncomputable def d_X12_walkOf_68 := gq_14 db00e_3 eb_59
noncomputable def d_X12_walkOf_70 := gq_15 db00e_3 eb_0
noncomputable def d_X12_walkOf_71 := gq_16 db00e_3 eb_642
noncomputable def d_X12_walkOf_74 := gq_17 db00e_3 eb_126
noncomputable def d_X12_walkOf_76 := gq_18 db00e_3 eb_38
noncomputable def d_X12_walkOf_77 := gq_19 db00e_3 eb_0
noncomputable def d_X12_walkOf_78 := gq_20 db00e_3 eb_955
noncomputable def d_X12_walkOf_81 := gq_21 db00e_3 eb_77
noncomputable def d_X12_walkOf_83 := gq_22 db00e_3 eb_38
noncomputable def d_X12_walkOf_84 := gq_23 db00e_3 eb_36
theorem db00e_4 : Pf_ prog_14_method_6_code [(85, [0x2a]), (86, [0xb4, 0x00, 0x13]), (89, [0x15, 0x06]), (91, [0x2e]), (92, [0xa2, 0x00, 0x1b]), (95, [0x2a]), (96, [0xb4, 0x00, 0x13]), (99, [0x15, 0x06]), (101, [0x2a]), (102, [0xb4, 0x00, 0x13]), (105, [0x15, 0x05]), (107, [0x2e]), (108, [0x2a]), (109, [0xb4, 0x00, 0x10]), (112, [0x15, 0x04]), (114, [0x2e]), (115, [0x60]), (116, [0x4f]), (117, [0x04]), (118, [0x3e]), (119, [0x2a]), (120, [0xb4, 0x00, 0x13]), (123, [0x15, 0x06]), (125, [0x2e])] := pf_ok prog_14_method_6_code _ 85 (by decide +kernel)
noncomputable def d_X12_walkOf_85 := gq_0 db00e_4 eb_0
noncomputable def d_X12_walkOf_86 := gq_1 db00e_4 eb_642
noncomputable def d_X12_walkOf_89 := gq_2 db00e_4 eb_76
noncomputable def d_X12_walkOf_91 := gq_3 db00e_4 eb_38
noncomputable def d_X12_walkOf_92 := gq_4 db00e_4 eb_339
noncomputable def d_X12_walkOf_95 := gq_5 db00e_4 eb_0
noncomputable def d_X12_walkOf_96 := gq_6 db00e_4 eb_642
noncomputable def d_X12_walkOf_99 := gq_7 db00e_4 eb_76
noncomputable def d_X12_walkOf_101 := gq_8 db00e_4 eb_0
noncomputable def d_X12_walkOf_102 := gq_9 db00e_4 eb_642
noncomputable def d_X12_walkOf_105 := gq_10 db00e_4 eb_126
noncomputable def d_X12_walkOf_107 := gq_11 db00e_4 eb_38
noncomputable def d_X12_walkOf_108 := gq_12 db00e_4 eb_0
noncomputable def d_X12_walkOf_109 := gq_13 db00e_4 eb_955
noncomputable def d_X12_walkOf_112 := gq_14 db00e_4 eb_77
noncomputable def d_X12_walkOf_114 := gq_15 db00e_4 eb_38
noncomputable def d_X12_walkOf_115 := gq_16 db00e_4 eb_36
noncomputable def d_X12_walkOf_116 := gq_17 db00e_4 eb_39
noncomputable def d_X12_walkOf_117 := gq_18 db00e_4 eb_20
noncomputable def d_X12_walkOf_118 := gq_19 db00e_4 eb_29
noncomputable def d_X12_walkOf_119 := gq_20 db00e_4 eb_0
noncomputable def d_X12_walkOf_120 := gq_21 db00e_4 eb_642
noncomputable def d_X12_walkOf_123 := gq_22 db00e_4 eb_76
noncomputable def d_X12_walkOf_125 := gq_23 db00e_4 eb_38
theorem db00e_5 : Pf_ prog_14_method_6_code [(126, [0x2a]), (127, [0xb4, 0x00, 0x10]), (130, [0x15, 0x04]), (132, [0x2e]), (133, [0x60]), (134, [0x2a]), (135, [0xb4, 0x00, 0x13]), (138, [0x15, 0x05]), (140, [0x2e]), (141, [0xa2, 0x00, 0x1b]), (144, [0x2a]), (145, [0xb4, 0x00, 0x13]), (148, [0x15, 0x05]), (150, [0x2a]), (151, [0xb4, 0x00, 0x13]), (154, [0x15, 0x06]), (156, [0x2e]), (157, [0x2a]), (158, [0xb4, 0x00, 0x10]), (161, [0x15, 0x04]), (163, [0x2e]), (164, [0x60]), (165, [0x4f]), (166, [0x04])] := pf_ok prog_14_method_6_code _ 126 (by decide +kernel)
noncomputable def d_X12_walkOf_126 := gq_0 db00e_5 eb_0
noncomputable def d_X12_walkOf_127 := gq_1 db00e_5 eb_955
noncomputable def d_X12_walkOf_130 := gq_2 db00e_5 eb_77
noncomputable def d_X12_walkOf_132 := gq_3 db00e_5 eb_38
noncomputable def d_X12_walkOf_133 := gq_4 db00e_5 eb_36
noncomputable def d_X12_walkOf_134 := gq_5 db00e_5 eb_0
noncomputable def d_X12_walkOf_135 := gq_6 db00e_5 eb_642
noncomputable def d_X12_walkOf_138 := gq_7 db00e_5 eb_126
noncomputable def d_X12_walkOf_140 := gq_8 db00e_5 eb_38
noncomputable def d_X12_walkOf_141 := gq_9 db00e_5 eb_339
noncomputable def d_X12_walkOf_144 := gq_10 db00e_5 eb_0
noncomputable def d_X12_walkOf_145 := gq_11 db00e_5 eb_642
noncomputable def d_X12_walkOf_148 := gq_12 db00e_5 eb_126
noncomputable def d_X12_walkOf_150 := gq_13 db00e_5 eb_0
noncomputable def d_X12_walkOf_151 := gq_14 db00e_5 eb_642
noncomputable def d_X12_walkOf_154 := gq_15 db00e_5 eb_76
noncomputable def d_X12_walkOf_156 := gq_16 db00e_5 eb_38
noncomputable def d_X12_walkOf_157 := gq_17 db00e_5 eb_0
noncomputable def d_X12_walkOf_158 := gq_18 db00e_5 eb_955
noncomputable def d_X12_walkOf_161 := gq_19 db00e_5 eb_77
noncomputable def d_X12_walkOf_163 := gq_20 db00e_5 eb_38
noncomputable def d_X12_walkOf_164 := gq_21 db00e_5 eb_36
noncomputable def d_X12_walkOf_165 := gq_22 db00e_5 eb_39
noncomputable def d_X12_walkOf_166 := gq_23 db00e_5 eb_20
theorem db00e_6 : Pf_ prog_14_method_6_code [(167, [0x3e]), (168, [0x84, 0x04, 0x01]), (171, [0xa7, 0xff, 0x80]), (174, [0xa7, 0xff, 0x74]), (177, [0x2a]), (178, [0xb4, 0x00, 0x13]), (181, [0x1c]), (182, [0x2e]), (183, [0x13, 0x01, 0x4e]), (186, [0xa1, 0x00, 0x07]), (189, [0x02]), (190, [0xa7, 0x00, 0x09]), (193, [0x2a]), (194, [0xb4, 0x00, 0x13]), (197, [0x1c]), (198, [0x2e]), (199, [0xac])] := pf_ok prog_14_method_6_code _ 167 (by decide +kernel)
noncomputable def d_X12_walkOf_167 := gq_0 db00e_6 eb_29
noncomputable def d_X12_walkOf_168 := gq_1 db00e_6 eb_146
noncomputable def d_X12_walkOf_171 := gq_2 db00e_6 eb_960
noncomputable def d_X12_walkOf_174 := gq_3 db00e_6 eb_961
noncomputable def d_X12_walkOf_177 := gq_4 db00e_6 eb_0
noncomputable def d_X12_walkOf_178 := gq_5 db00e_6 eb_642
noncomputable def d_X12_walkOf_181 := gq_6 db00e_6 eb_14
noncomputable def d_X12_walkOf_182 := gq_7 db00e_6 eb_38
noncomputable def d_X12_walkOf_183 := gq_8 db00e_6 eb_957
noncomputable def d_X12_walkOf_186 := gq_9 db00e_6 eb_156
noncomputable def d_X12_walkOf_189 := gq_10 db00e_6 eb_27
noncomputable def d_X12_walkOf_190 := gq_11 db00e_6 eb_962
noncomputable def d_X12_walkOf_193 := gq_12 db00e_6 eb_0
noncomputable def d_X12_walkOf_194 := gq_13 db00e_6 eb_642
noncomputable def d_X12_walkOf_197 := gq_14 db00e_6 eb_14
noncomputable def d_X12_walkOf_198 := gq_15 db00e_6 eb_38
noncomputable def d_X12_walkOf_199 := gq_16 db00e_6 eb_16
theorem db00e_7 : Pf_ prog_14_method_7_code [(0, [0x1b]), (1, [0xb8, 0x01, 0x47]), (4, [0x99, 0x00, 0x13]), (7, [0x1c]), (8, [0xb8, 0x01, 0x47]), (11, [0x99, 0x00, 0x0c]), (14, [0x2a]), (15, [0x1b]), (16, [0x1c]), (17, [0xb6, 0x01, 0x4f]), (20, [0xa7, 0x00, 0x04]), (23, [0x02]), (24, [0xac])] := pf_ok prog_14_method_7_code _ 0 (by decide +kernel)
noncomputable def d_X12_walk_0 := gq_0 db00e_7 eb_10
noncomputable def d_X12_walk_1 := gq_1 db00e_7 eb_952
noncomputable def d_X12_walk_4 := gq_2 db00e_7 eb_700
noncomputable def d_X12_walk_7 := gq_3 db00e_7 eb_14
noncomputable def d_X12_walk_8 := gq_4 db00e_7 eb_952
noncomputable def d_X12_walk_11 := gq_5 db00e_7 eb_51
noncomputable def d_X12_walk_14 := gq_6 db00e_7 eb_0
noncomputable def d_X12_walk_15 := gq_7 db00e_7 eb_10
noncomputable def d_X12_walk_16 := gq_8 db00e_7 eb_14
noncomputable def d_X12_walk_17 := gq_9 db00e_7 eb_963
noncomputable def d_X12_walk_20 := gq_10 db00e_7 eb_21
noncomputable def d_X12_walk_23 := gq_11 db00e_7 eb_27
noncomputable def d_X12_walk_24 := gq_12 db00e_7 eb_16
theorem db00e_8 : Pf_ prog_14_method_8_code [(0, [0x1b]), (1, [0x03]), (2, [0x2a]), (3, [0xb4, 0x01, 0x53]), (6, [0x04]), (7, [0x64]), (8, [0xb8, 0x01, 0x43]), (11, [0xac])] := pf_ok prog_14_method_8_code _ 0 (by decide +kernel)
noncomputable def d_X12_isMan_0 := gq_0 db00e_8 eb_10
noncomputable def d_X12_isMan_1 := gq_1 db00e_8 eb_22
noncomputable def d_X12_isMan_2 := gq_2 db00e_8 eb_0
noncomputable def d_X12_isMan_3 := gq_3 db00e_8 eb_964
noncomputable def d_X12_isMan_6 := gq_4 db00e_8 eb_20
noncomputable def d_X12_isMan_7 := gq_5 db00e_8 eb_49
noncomputable def d_X12_isMan_8 := gq_6 db00e_8 eb_951
noncomputable def d_X12_isMan_11 := gq_7 db00e_8 eb_16
theorem db00e_9 : Pf_ prog_14_method_9_code [(0, [0x1b]), (1, [0x04]), (2, [0x07]), (3, [0xb8, 0x01, 0x43]), (6, [0x99, 0x00, 0x1d]), (9, [0x1c]), (10, [0x03]), (11, [0x10, 0x28]), (13, [0xb8, 0x01, 0x43]), (16, [0x99, 0x00, 0x13]), (19, [0x1d]), (20, [0xb8, 0x01, 0x47]), (23, [0x99, 0x00, 0x0c]), (26, [0x2a]), (27, [0xb4, 0x01, 0x53]), (30, [0x10, 0x0c]), (32, [0xa0, 0x00, 0x05]), (35, [0x02]), (36, [0xac]), (37, [0x2a]), (38, [0xb4, 0x00, 0x16]), (41, [0x2a]), (42, [0xb4, 0x01, 0x53]), (45, [0x1b])] := pf_ok prog_14_method_9_code _ 0 (by decide +kernel)
noncomputable def d_X12_constable_0 := gq_0 db00e_9 eb_10
noncomputable def d_X12_constable_1 := gq_1 db00e_9 eb_20
noncomputable def d_X12_constable_2 := gq_2 db00e_9 eb_294
noncomputable def d_X12_constable_3 := gq_3 db00e_9 eb_951
noncomputable def d_X12_constable_6 := gq_4 db00e_9 eb_965
noncomputable def d_X12_constable_9 := gq_5 db00e_9 eb_14
noncomputable def d_X12_constable_10 := gq_6 db00e_9 eb_22
noncomputable def d_X12_constable_11 := gq_7 db00e_9 eb_317
noncomputable def d_X12_constable_13 := gq_8 db00e_9 eb_951
noncomputable def d_X12_constable_16 := gq_9 db00e_9 eb_700
noncomputable def d_X12_constable_19 := gq_10 db00e_9 eb_30
noncomputable def d_X12_constable_20 := gq_11 db00e_9 eb_952
noncomputable def d_X12_constable_23 := gq_12 db00e_9 eb_51
noncomputable def d_X12_constable_26 := gq_13 db00e_9 eb_0
noncomputable def d_X12_constable_27 := gq_14 db00e_9 eb_964
noncomputable def d_X12_constable_30 := gq_15 db00e_9 eb_5
noncomputable def d_X12_constable_32 := gq_16 db00e_9 eb_496
noncomputable def d_X12_constable_35 := gq_17 db00e_9 eb_27
noncomputable def d_X12_constable_36 := gq_18 db00e_9 eb_16
noncomputable def d_X12_constable_37 := gq_19 db00e_9 eb_0
noncomputable def d_X12_constable_38 := gq_20 db00e_9 eb_215
noncomputable def d_X12_constable_41 := gq_21 db00e_9 eb_0
noncomputable def d_X12_constable_42 := gq_22 db00e_9 eb_964
noncomputable def d_X12_constable_45 := gq_23 db00e_9 eb_10
theorem db00e_10 : Pf_ prog_14_method_9_code [(46, [0x4f]), (47, [0x2a]), (48, [0xb4, 0x00, 0x19]), (51, [0x2a]), (52, [0xb4, 0x01, 0x53]), (55, [0x1c]), (56, [0x4f]), (57, [0x2a]), (58, [0xb4, 0x00, 0x1c]), (61, [0x2a]), (62, [0xb4, 0x01, 0x53]), (65, [0x1d]), (66, [0x4f]), (67, [0x2a]), (68, [0xb4, 0x00, 0x1f]), (71, [0x2a]), (72, [0xb4, 0x01, 0x53]), (75, [0x2a]), (76, [0xb4, 0x01, 0x56]), (79, [0x4f]), (80, [0x2a]), (81, [0xb4, 0x00, 0x22]), (84, [0x2a]), (85, [0xb4, 0x01, 0x53])] := pf_ok prog_14_method_9_code _ 46 (by decide +kernel)
noncomputable def d_X12_constable_46 := gq_0 db00e_10 eb_39
noncomputable def d_X12_constable_47 := gq_1 db00e_10 eb_0
noncomputable def d_X12_constable_48 := gq_2 db00e_10 eb_25
noncomputable def d_X12_constable_51 := gq_3 db00e_10 eb_0
noncomputable def d_X12_constable_52 := gq_4 db00e_10 eb_964
noncomputable def d_X12_constable_55 := gq_5 db00e_10 eb_14
noncomputable def d_X12_constable_56 := gq_6 db00e_10 eb_39
noncomputable def d_X12_constable_57 := gq_7 db00e_10 eb_0
noncomputable def d_X12_constable_58 := gq_8 db00e_10 eb_365
noncomputable def d_X12_constable_61 := gq_9 db00e_10 eb_0
noncomputable def d_X12_constable_62 := gq_10 db00e_10 eb_964
noncomputable def d_X12_constable_65 := gq_11 db00e_10 eb_30
noncomputable def d_X12_constable_66 := gq_12 db00e_10 eb_39
noncomputable def d_X12_constable_67 := gq_13 db00e_10 eb_0
noncomputable def d_X12_constable_68 := gq_14 db00e_10 eb_31
noncomputable def d_X12_constable_71 := gq_15 db00e_10 eb_0
noncomputable def d_X12_constable_72 := gq_16 db00e_10 eb_964
noncomputable def d_X12_constable_75 := gq_17 db00e_10 eb_0
noncomputable def d_X12_constable_76 := gq_18 db00e_10 eb_966
noncomputable def d_X12_constable_79 := gq_19 db00e_10 eb_39
noncomputable def d_X12_constable_80 := gq_20 db00e_10 eb_0
noncomputable def d_X12_constable_81 := gq_21 db00e_10 eb_37
noncomputable def d_X12_constable_84 := gq_22 db00e_10 eb_0
noncomputable def d_X12_constable_85 := gq_23 db00e_10 eb_964
theorem db00e_11 : Pf_ prog_14_method_9_code [(88, [0x03]), (89, [0x4f]), (90, [0x2a]), (91, [0xb4, 0x00, 0x25]), (94, [0x2a]), (95, [0xb4, 0x01, 0x53]), (98, [0x1d]), (99, [0x4f]), (100, [0x2a]), (101, [0xb4, 0x00, 0x28]), (104, [0x2a]), (105, [0xb4, 0x01, 0x53]), (108, [0x02]), (109, [0x4f]), (110, [0x2a]), (111, [0xb4, 0x00, 0x2b]), (114, [0x2a]), (115, [0xb4, 0x01, 0x53]), (118, [0x02]), (119, [0x4f]), (120, [0x2a]), (121, [0xb4, 0x00, 0x31]), (124, [0x2a]), (125, [0xb4, 0x01, 0x53])] := pf_ok prog_14_method_9_code _ 88 (by decide +kernel)
noncomputable def d_X12_constable_88 := gq_0 db00e_11 eb_22
noncomputable def d_X12_constable_89 := gq_1 db00e_11 eb_39
noncomputable def d_X12_constable_90 := gq_2 db00e_11 eb_0
noncomputable def d_X12_constable_91 := gq_3 db00e_11 eb_284
noncomputable def d_X12_constable_94 := gq_4 db00e_11 eb_0
noncomputable def d_X12_constable_95 := gq_5 db00e_11 eb_964
noncomputable def d_X12_constable_98 := gq_6 db00e_11 eb_30
noncomputable def d_X12_constable_99 := gq_7 db00e_11 eb_39
noncomputable def d_X12_constable_100 := gq_8 db00e_11 eb_0
noncomputable def d_X12_constable_101 := gq_9 db00e_11 eb_285
noncomputable def d_X12_constable_104 := gq_10 db00e_11 eb_0
noncomputable def d_X12_constable_105 := gq_11 db00e_11 eb_964
noncomputable def d_X12_constable_108 := gq_12 db00e_11 eb_27
noncomputable def d_X12_constable_109 := gq_13 db00e_11 eb_39
noncomputable def d_X12_constable_110 := gq_14 db00e_11 eb_0
noncomputable def d_X12_constable_111 := gq_15 db00e_11 eb_286
noncomputable def d_X12_constable_114 := gq_16 db00e_11 eb_0
noncomputable def d_X12_constable_115 := gq_17 db00e_11 eb_964
noncomputable def d_X12_constable_118 := gq_18 db00e_11 eb_27
noncomputable def d_X12_constable_119 := gq_19 db00e_11 eb_39
noncomputable def d_X12_constable_120 := gq_20 db00e_11 eb_0
noncomputable def d_X12_constable_121 := gq_21 db00e_11 eb_288
noncomputable def d_X12_constable_124 := gq_22 db00e_11 eb_0
noncomputable def d_X12_constable_125 := gq_23 db00e_11 eb_964
theorem db00e_12 : Pf_ prog_14_method_9_code [(128, [0x02]), (129, [0x4f]), (130, [0x2a]), (131, [0xb4, 0x00, 0x37]), (134, [0x2a]), (135, [0xb4, 0x01, 0x53]), (138, [0x03]), (139, [0x4f]), (140, [0x2a]), (141, [0xb4, 0x00, 0x3a]), (144, [0x2a]), (145, [0xb4, 0x01, 0x53]), (148, [0x03]), (149, [0x4f]), (150, [0x2a]), (151, [0xb4, 0x00, 0x3d]), (154, [0x2a]), (155, [0xb4, 0x01, 0x53]), (158, [0x03]), (159, [0x4f]), (160, [0x2a]), (161, [0x59]), (162, [0xb4, 0x01, 0x53]), (165, [0x04])] := pf_ok prog_14_method_9_code _ 128 (by decide +kernel)
noncomputable def d_X12_constable_128 := gq_0 db00e_12 eb_27
noncomputable def d_X12_constable_129 := gq_1 db00e_12 eb_39
noncomputable def d_X12_constable_130 := gq_2 db00e_12 eb_0
noncomputable def d_X12_constable_131 := gq_3 db00e_12 eb_276
noncomputable def d_X12_constable_134 := gq_4 db00e_12 eb_0
noncomputable def d_X12_constable_135 := gq_5 db00e_12 eb_964
noncomputable def d_X12_constable_138 := gq_6 db00e_12 eb_22
noncomputable def d_X12_constable_139 := gq_7 db00e_12 eb_39
noncomputable def d_X12_constable_140 := gq_8 db00e_12 eb_0
noncomputable def d_X12_constable_141 := gq_9 db00e_12 eb_322
noncomputable def d_X12_constable_144 := gq_10 db00e_12 eb_0
noncomputable def d_X12_constable_145 := gq_11 db00e_12 eb_964
noncomputable def d_X12_constable_148 := gq_12 db00e_12 eb_22
noncomputable def d_X12_constable_149 := gq_13 db00e_12 eb_39
noncomputable def d_X12_constable_150 := gq_14 db00e_12 eb_0
noncomputable def d_X12_constable_151 := gq_15 db00e_12 eb_324
noncomputable def d_X12_constable_154 := gq_16 db00e_12 eb_0
noncomputable def d_X12_constable_155 := gq_17 db00e_12 eb_964
noncomputable def d_X12_constable_158 := gq_18 db00e_12 eb_22
noncomputable def d_X12_constable_159 := gq_19 db00e_12 eb_39
noncomputable def d_X12_constable_160 := gq_20 db00e_12 eb_0
noncomputable def d_X12_constable_161 := gq_21 db00e_12 eb_47
noncomputable def d_X12_constable_162 := gq_22 db00e_12 eb_964
noncomputable def d_X12_constable_165 := gq_23 db00e_12 eb_20
theorem db00e_13 : Pf_ prog_14_method_9_code [(166, [0x60]), (167, [0xb5, 0x01, 0x53]), (170, [0x2a]), (171, [0xb4, 0x01, 0x53]), (174, [0x04]), (175, [0x64]), (176, [0xac])] := pf_ok prog_14_method_9_code _ 166 (by decide +kernel)
noncomputable def d_X12_constable_166 := gq_0 db00e_13 eb_36
noncomputable def d_X12_constable_167 := gq_1 db00e_13 eb_967
noncomputable def d_X12_constable_170 := gq_2 db00e_13 eb_0
noncomputable def d_X12_constable_171 := gq_3 db00e_13 eb_964
noncomputable def d_X12_constable_174 := gq_4 db00e_13 eb_20
noncomputable def d_X12_constable_175 := gq_5 db00e_13 eb_49
noncomputable def d_X12_constable_176 := gq_6 db00e_13 eb_16
theorem db00e_14 : Pf_ prog_14_method_10_code [(0, [0x1b]), (1, [0x03]), (2, [0x2a]), (3, [0xb4, 0x01, 0x56]), (6, [0xb8, 0x01, 0x43]), (9, [0xac])] := pf_ok prog_14_method_10_code _ 0 (by decide +kernel)
noncomputable def d_X12_isKnowing_0 := gq_0 db00e_14 eb_10
noncomputable def d_X12_isKnowing_1 := gq_1 db00e_14 eb_22
noncomputable def d_X12_isKnowing_2 := gq_2 db00e_14 eb_0
noncomputable def d_X12_isKnowing_3 := gq_3 db00e_14 eb_966
noncomputable def d_X12_isKnowing_6 := gq_4 db00e_14 eb_951
noncomputable def d_X12_isKnowing_9 := gq_5 db00e_14 eb_16
theorem db00e_15 : Pf_ prog_14_method_11_code [(0, [0x2a]), (1, [0x1b]), (2, [0xb6, 0x01, 0x59]), (5, [0x99, 0x00, 0x1f]), (8, [0x1c]), (9, [0x04]), (10, [0x07]), (11, [0xb8, 0x01, 0x43]), (14, [0x99, 0x00, 0x16]), (17, [0x1d]), (18, [0x03]), (19, [0x10, 0x1e]), (21, [0xb8, 0x01, 0x43]), (24, [0x99, 0x00, 0x0c]), (27, [0x2a]), (28, [0xb4, 0x01, 0x5c]), (31, [0x10, 0x28]), (33, [0xa0, 0x00, 0x05]), (36, [0x03]), (37, [0xac]), (38, [0x2a]), (39, [0xb4, 0x00, 0x4b]), (42, [0x2a]), (43, [0xb4, 0x01, 0x5c])] := pf_ok prog_14_method_11_code _ 0 (by decide +kernel)
noncomputable def d_X12_rank_0 := gq_0 db00e_15 eb_0
noncomputable def d_X12_rank_1 := gq_1 db00e_15 eb_10
noncomputable def d_X12_rank_2 := gq_2 db00e_15 eb_968
noncomputable def d_X12_rank_5 := gq_3 db00e_15 eb_795
noncomputable def d_X12_rank_8 := gq_4 db00e_15 eb_14
noncomputable def d_X12_rank_9 := gq_5 db00e_15 eb_20
noncomputable def d_X12_rank_10 := gq_6 db00e_15 eb_294
noncomputable def d_X12_rank_11 := gq_7 db00e_15 eb_951
noncomputable def d_X12_rank_14 := gq_8 db00e_15 eb_433
noncomputable def d_X12_rank_17 := gq_9 db00e_15 eb_30
noncomputable def d_X12_rank_18 := gq_10 db00e_15 eb_22
noncomputable def d_X12_rank_19 := gq_11 db00e_15 eb_93
noncomputable def d_X12_rank_21 := gq_12 db00e_15 eb_951
noncomputable def d_X12_rank_24 := gq_13 db00e_15 eb_51
noncomputable def d_X12_rank_27 := gq_14 db00e_15 eb_0
noncomputable def d_X12_rank_28 := gq_15 db00e_15 eb_969
noncomputable def d_X12_rank_31 := gq_16 db00e_15 eb_317
noncomputable def d_X12_rank_33 := gq_17 db00e_15 eb_496
noncomputable def d_X12_rank_36 := gq_18 db00e_15 eb_22
noncomputable def d_X12_rank_37 := gq_19 db00e_15 eb_16
noncomputable def d_X12_rank_38 := gq_20 db00e_15 eb_0
noncomputable def d_X12_rank_39 := gq_21 db00e_15 eb_970
noncomputable def d_X12_rank_42 := gq_22 db00e_15 eb_0
noncomputable def d_X12_rank_43 := gq_23 db00e_15 eb_969
theorem db00e_16 : Pf_ prog_14_method_11_code [(46, [0x1b]), (47, [0x4f]), (48, [0x2a]), (49, [0xb4, 0x00, 0x4e]), (52, [0x2a]), (53, [0xb4, 0x01, 0x5c]), (56, [0x1c]), (57, [0x4f]), (58, [0x2a]), (59, [0xb4, 0x00, 0x51]), (62, [0x2a]), (63, [0xb4, 0x01, 0x5c]), (66, [0x1d]), (67, [0x4f]), (68, [0x2a]), (69, [0xb4, 0x00, 0x54]), (72, [0x2a]), (73, [0xb4, 0x01, 0x5c]), (76, [0x2a]), (77, [0xb4, 0x01, 0x56]), (80, [0x4f]), (81, [0x2a]), (82, [0x59]), (83, [0xb4, 0x01, 0x5c])] := pf_ok prog_14_method_11_code _ 46 (by decide +kernel)
noncomputable def d_X12_rank_46 := gq_0 db00e_16 eb_10
noncomputable def d_X12_rank_47 := gq_1 db00e_16 eb_39
noncomputable def d_X12_rank_48 := gq_2 db00e_16 eb_0
noncomputable def d_X12_rank_49 := gq_3 db00e_16 eb_971
noncomputable def d_X12_rank_52 := gq_4 db00e_16 eb_0
noncomputable def d_X12_rank_53 := gq_5 db00e_16 eb_969
noncomputable def d_X12_rank_56 := gq_6 db00e_16 eb_14
noncomputable def d_X12_rank_57 := gq_7 db00e_16 eb_39
noncomputable def d_X12_rank_58 := gq_8 db00e_16 eb_0
noncomputable def d_X12_rank_59 := gq_9 db00e_16 eb_972
noncomputable def d_X12_rank_62 := gq_10 db00e_16 eb_0
noncomputable def d_X12_rank_63 := gq_11 db00e_16 eb_969
noncomputable def d_X12_rank_66 := gq_12 db00e_16 eb_30
noncomputable def d_X12_rank_67 := gq_13 db00e_16 eb_39
noncomputable def d_X12_rank_68 := gq_14 db00e_16 eb_0
noncomputable def d_X12_rank_69 := gq_15 db00e_16 eb_769
noncomputable def d_X12_rank_72 := gq_16 db00e_16 eb_0
noncomputable def d_X12_rank_73 := gq_17 db00e_16 eb_969
noncomputable def d_X12_rank_76 := gq_18 db00e_16 eb_0
noncomputable def d_X12_rank_77 := gq_19 db00e_16 eb_966
noncomputable def d_X12_rank_80 := gq_20 db00e_16 eb_39
noncomputable def d_X12_rank_81 := gq_21 db00e_16 eb_0
noncomputable def d_X12_rank_82 := gq_22 db00e_16 eb_47
noncomputable def d_X12_rank_83 := gq_23 db00e_16 eb_969
theorem db00e_17 : Pf_ prog_14_method_11_code [(86, [0x04]), (87, [0x60]), (88, [0xb5, 0x01, 0x5c]), (91, [0x04]), (92, [0xac])] := pf_ok prog_14_method_11_code _ 86 (by decide +kernel)
noncomputable def d_X12_rank_86 := gq_0 db00e_17 eb_20
noncomputable def d_X12_rank_87 := gq_1 db00e_17 eb_36
noncomputable def d_X12_rank_88 := gq_2 db00e_17 eb_973
noncomputable def d_X12_rank_91 := gq_3 db00e_17 eb_20
noncomputable def d_X12_rank_92 := gq_4 db00e_17 eb_16
theorem db00e_18 : Pf_ prog_14_method_12_code [(0, [0x2a]), (1, [0xb4, 0x00, 0x16]), (4, [0x1b]), (5, [0x2e]), (6, [0x36, 0x04]), (8, [0x02]), (9, [0x36, 0x05]), (11, [0x03]), (12, [0x36, 0x06]), (14, [0x15, 0x06]), (16, [0x2a]), (17, [0xb4, 0x01, 0x5c]), (20, [0xa2, 0x00, 0x48]), (23, [0x2a]), (24, [0xb4, 0x00, 0x4b]), (27, [0x15, 0x06]), (29, [0x2e]), (30, [0x1b]), (31, [0xa0, 0x00, 0x37]), (34, [0x2a]), (35, [0xb4, 0x00, 0x54]), (38, [0x15, 0x06]), (40, [0x2e]), (41, [0x1d])] := pf_ok prog_14_method_12_code _ 0 (by decide +kernel)
noncomputable def d_X12_rankOn_0 := gq_0 db00e_18 eb_0
noncomputable def d_X12_rankOn_1 := gq_1 db00e_18 eb_215
noncomputable def d_X12_rankOn_4 := gq_2 db00e_18 eb_10
noncomputable def d_X12_rankOn_5 := gq_3 db00e_18 eb_38
noncomputable def d_X12_rankOn_6 := gq_4 db00e_18 eb_134
noncomputable def d_X12_rankOn_8 := gq_5 db00e_18 eb_27
noncomputable def d_X12_rankOn_9 := gq_6 db00e_18 eb_135
noncomputable def d_X12_rankOn_11 := gq_7 db00e_18 eb_22
noncomputable def d_X12_rankOn_12 := gq_8 db00e_18 eb_59
noncomputable def d_X12_rankOn_14 := gq_9 db00e_18 eb_76
noncomputable def d_X12_rankOn_16 := gq_10 db00e_18 eb_0
noncomputable def d_X12_rankOn_17 := gq_11 db00e_18 eb_969
noncomputable def d_X12_rankOn_20 := gq_12 db00e_18 eb_311
noncomputable def d_X12_rankOn_23 := gq_13 db00e_18 eb_0
noncomputable def d_X12_rankOn_24 := gq_14 db00e_18 eb_970
noncomputable def d_X12_rankOn_27 := gq_15 db00e_18 eb_76
noncomputable def d_X12_rankOn_29 := gq_16 db00e_18 eb_38
noncomputable def d_X12_rankOn_30 := gq_17 db00e_18 eb_10
noncomputable def d_X12_rankOn_31 := gq_18 db00e_18 eb_312
noncomputable def d_X12_rankOn_34 := gq_19 db00e_18 eb_0
noncomputable def d_X12_rankOn_35 := gq_20 db00e_18 eb_769
noncomputable def d_X12_rankOn_38 := gq_21 db00e_18 eb_76
noncomputable def d_X12_rankOn_40 := gq_22 db00e_18 eb_38
noncomputable def d_X12_rankOn_41 := gq_23 db00e_18 eb_30
theorem db00e_19 : Pf_ prog_14_method_12_code [(42, [0xa3, 0x00, 0x2c]), (45, [0x2a]), (46, [0xb4, 0x00, 0x51]), (49, [0x15, 0x06]), (51, [0x2e]), (52, [0x1c]), (53, [0xa3, 0x00, 0x21]), (56, [0x2a]), (57, [0xb4, 0x00, 0x51]), (60, [0x15, 0x06]), (62, [0x2e]), (63, [0x15, 0x05]), (65, [0xa1, 0x00, 0x15]), (68, [0x2a]), (69, [0xb4, 0x00, 0x4e]), (72, [0x15, 0x06]), (74, [0x2e]), (75, [0x36, 0x04]), (77, [0x2a]), (78, [0xb4, 0x00, 0x51]), (81, [0x15, 0x06]), (83, [0x2e]), (84, [0x36, 0x05]), (86, [0x84, 0x06, 0x01])] := pf_ok prog_14_method_12_code _ 42 (by decide +kernel)
noncomputable def d_X12_rankOn_42 := gq_0 db00e_19 eb_974
noncomputable def d_X12_rankOn_45 := gq_1 db00e_19 eb_0
noncomputable def d_X12_rankOn_46 := gq_2 db00e_19 eb_972
noncomputable def d_X12_rankOn_49 := gq_3 db00e_19 eb_76
noncomputable def d_X12_rankOn_51 := gq_4 db00e_19 eb_38
noncomputable def d_X12_rankOn_52 := gq_5 db00e_19 eb_14
noncomputable def d_X12_rankOn_53 := gq_6 db00e_19 eb_414
noncomputable def d_X12_rankOn_56 := gq_7 db00e_19 eb_0
noncomputable def d_X12_rankOn_57 := gq_8 db00e_19 eb_972
noncomputable def d_X12_rankOn_60 := gq_9 db00e_19 eb_76
noncomputable def d_X12_rankOn_62 := gq_10 db00e_19 eb_38
noncomputable def d_X12_rankOn_63 := gq_11 db00e_19 eb_126
noncomputable def d_X12_rankOn_65 := gq_12 db00e_19 eb_975
noncomputable def d_X12_rankOn_68 := gq_13 db00e_19 eb_0
noncomputable def d_X12_rankOn_69 := gq_14 db00e_19 eb_971
noncomputable def d_X12_rankOn_72 := gq_15 db00e_19 eb_76
noncomputable def d_X12_rankOn_74 := gq_16 db00e_19 eb_38
noncomputable def d_X12_rankOn_75 := gq_17 db00e_19 eb_134
noncomputable def d_X12_rankOn_77 := gq_18 db00e_19 eb_0
noncomputable def d_X12_rankOn_78 := gq_19 db00e_19 eb_972
noncomputable def d_X12_rankOn_81 := gq_20 db00e_19 eb_76
noncomputable def d_X12_rankOn_83 := gq_21 db00e_19 eb_38
noncomputable def d_X12_rankOn_84 := gq_22 db00e_19 eb_135
noncomputable def d_X12_rankOn_86 := gq_23 db00e_19 eb_73
theorem db00e_20 : Pf_ prog_14_method_12_code [(89, [0xa7, 0xff, 0xb5]), (92, [0x15, 0x04]), (94, [0xac])] := pf_ok prog_14_method_12_code _ 89 (by decide +kernel)
noncomputable def d_X12_rankOn_89 := gq_0 db00e_20 eb_316
noncomputable def d_X12_rankOn_92 := gq_1 db00e_20 eb_77
noncomputable def d_X12_rankOn_94 := gq_2 db00e_20 eb_16
theorem db00e_21 : Pf_ prog_14_method_13_code [(0, [0x2a]), (1, [0x1b]), (2, [0xb6, 0x01, 0x59]), (5, [0x99, 0x00, 0x1f]), (8, [0x1c]), (9, [0x03]), (10, [0x10, 0x1e]), (12, [0xb8, 0x01, 0x43]), (15, [0x99, 0x00, 0x15]), (18, [0x2a]), (19, [0x1d]), (20, [0xb6, 0x01, 0x5f]), (23, [0x99, 0x00, 0x0d]), (26, [0x2a]), (27, [0x1b]), (28, [0x1c]), (29, [0x1d]), (30, [0xb6, 0x01, 0x62]), (33, [0xa7, 0x00, 0x04]), (36, [0x02]), (37, [0xac])] := pf_ok prog_14_method_13_code _ 0 (by decide +kernel)
noncomputable def d_X12_ranked_0 := gq_0 db00e_21 eb_0
noncomputable def d_X12_ranked_1 := gq_1 db00e_21 eb_10
noncomputable def d_X12_ranked_2 := gq_2 db00e_21 eb_968
noncomputable def d_X12_ranked_5 := gq_3 db00e_21 eb_795
noncomputable def d_X12_ranked_8 := gq_4 db00e_21 eb_14
noncomputable def d_X12_ranked_9 := gq_5 db00e_21 eb_22
noncomputable def d_X12_ranked_10 := gq_6 db00e_21 eb_93
noncomputable def d_X12_ranked_12 := gq_7 db00e_21 eb_951
noncomputable def d_X12_ranked_15 := gq_8 db00e_21 eb_329
noncomputable def d_X12_ranked_18 := gq_9 db00e_21 eb_0
noncomputable def d_X12_ranked_19 := gq_10 db00e_21 eb_30
noncomputable def d_X12_ranked_20 := gq_11 db00e_21 eb_976
noncomputable def d_X12_ranked_23 := gq_12 db00e_21 eb_120
noncomputable def d_X12_ranked_26 := gq_13 db00e_21 eb_0
noncomputable def d_X12_ranked_27 := gq_14 db00e_21 eb_10
noncomputable def d_X12_ranked_28 := gq_15 db00e_21 eb_14
noncomputable def d_X12_ranked_29 := gq_16 db00e_21 eb_30
noncomputable def d_X12_ranked_30 := gq_17 db00e_21 eb_977
noncomputable def d_X12_ranked_33 := gq_18 db00e_21 eb_21
noncomputable def d_X12_ranked_36 := gq_19 db00e_21 eb_27
noncomputable def d_X12_ranked_37 := gq_20 db00e_21 eb_16
theorem db00e_22 : Pf_ prog_14_method_14_code [(0, [0x15, 0x05]), (2, [0x07]), (3, [0xa2, 0x00, 0x07]), (6, [0x1a]), (7, [0xa7, 0x00, 0x26]), (10, [0x15, 0x05]), (12, [0x10, 0x08]), (14, [0xa2, 0x00, 0x07]), (17, [0x1b]), (18, [0xa7, 0x00, 0x1b]), (21, [0x15, 0x05]), (23, [0x10, 0x0c]), (25, [0xa2, 0x00, 0x07]), (28, [0x1c]), (29, [0xa7, 0x00, 0x10]), (32, [0x15, 0x05]), (34, [0x10, 0x10]), (36, [0xa2, 0x00, 0x07]), (39, [0x1d]), (40, [0xa7, 0x00, 0x05]), (43, [0x15, 0x04]), (45, [0x36, 0x06]), (47, [0x15, 0x06]), (49, [0x10, 0x18])] := pf_ok prog_14_method_14_code _ 0 (by decide +kernel)
noncomputable def d_X12_byteOf_0 := gq_0 db00e_22 eb_126
noncomputable def d_X12_byteOf_2 := gq_1 db00e_22 eb_294
noncomputable def d_X12_byteOf_3 := gq_2 db00e_22 eb_19
noncomputable def d_X12_byteOf_6 := gq_3 db00e_22 eb_9
noncomputable def d_X12_byteOf_7 := gq_4 db00e_22 eb_978
noncomputable def d_X12_byteOf_10 := gq_5 db00e_22 eb_126
noncomputable def d_X12_byteOf_12 := gq_6 db00e_22 eb_95
noncomputable def d_X12_byteOf_14 := gq_7 db00e_22 eb_19
noncomputable def d_X12_byteOf_17 := gq_8 db00e_22 eb_10
noncomputable def d_X12_byteOf_18 := gq_9 db00e_22 eb_979
noncomputable def d_X12_byteOf_21 := gq_10 db00e_22 eb_126
noncomputable def d_X12_byteOf_23 := gq_11 db00e_22 eb_5
noncomputable def d_X12_byteOf_25 := gq_12 db00e_22 eb_19
noncomputable def d_X12_byteOf_28 := gq_13 db00e_22 eb_14
noncomputable def d_X12_byteOf_29 := gq_14 db00e_22 eb_545
noncomputable def d_X12_byteOf_32 := gq_15 db00e_22 eb_126
noncomputable def d_X12_byteOf_34 := gq_16 db00e_22 eb_100
noncomputable def d_X12_byteOf_36 := gq_17 db00e_22 eb_19
noncomputable def d_X12_byteOf_39 := gq_18 db00e_22 eb_30
noncomputable def d_X12_byteOf_40 := gq_19 db00e_22 eb_90
noncomputable def d_X12_byteOf_43 := gq_20 db00e_22 eb_77
noncomputable def d_X12_byteOf_45 := gq_21 db00e_22 eb_59
noncomputable def d_X12_byteOf_47 := gq_22 db00e_22 eb_76
noncomputable def d_X12_byteOf_49 := gq_23 db00e_22 eb_458
theorem db00e_23 : Pf_ prog_14_method_14_code [(51, [0x10, 0x08]), (53, [0x15, 0x05]), (55, [0x07]), (56, [0x70]), (57, [0x68]), (58, [0x64]), (59, [0x7a]), (60, [0x11, 0x00, 0xff]), (63, [0x7e]), (64, [0xac])] := pf_ok prog_14_method_14_code _ 51 (by decide +kernel)
noncomputable def d_X12_byteOf_51 := gq_0 db00e_23 eb_95
noncomputable def d_X12_byteOf_53 := gq_1 db00e_23 eb_126
noncomputable def d_X12_byteOf_55 := gq_2 db00e_23 eb_294
noncomputable def d_X12_byteOf_56 := gq_3 db00e_23 eb_221
noncomputable def d_X12_byteOf_57 := gq_4 db00e_23 eb_35
noncomputable def d_X12_byteOf_58 := gq_5 db00e_23 eb_49
noncomputable def d_X12_byteOf_59 := gq_6 db00e_23 eb_57
noncomputable def d_X12_byteOf_60 := gq_7 db00e_23 eb_460
noncomputable def d_X12_byteOf_63 := gq_8 db00e_23 eb_56
noncomputable def d_X12_byteOf_64 := gq_9 db00e_23 eb_16
theorem db00e_24 : Pf_ prog_14_method_15_code [(0, [0x03]), (1, [0x36, 0x06]), (3, [0x03]), (4, [0x36, 0x07]), (6, [0x15, 0x07]), (8, [0x10, 0x14]), (10, [0xa2, 0x00, 0x22]), (13, [0x15, 0x06]), (15, [0x1b]), (16, [0x1c]), (17, [0x1d]), (18, [0x15, 0x04]), (20, [0x15, 0x05]), (22, [0x15, 0x07]), (24, [0xb8, 0x01, 0x66]), (27, [0x99, 0x00, 0x07]), (30, [0x04]), (31, [0xa7, 0x00, 0x04]), (34, [0x03]), (35, [0x60]), (36, [0x36, 0x06]), (38, [0x84, 0x07, 0x01]), (41, [0xa7, 0xff, 0xdd]), (44, [0x2a])] := pf_ok prog_14_method_15_code _ 0 (by decide +kernel)
noncomputable def d_X12_feed_0 := gq_0 db00e_24 eb_22
noncomputable def d_X12_feed_1 := gq_1 db00e_24 eb_59
noncomputable def d_X12_feed_3 := gq_2 db00e_24 eb_22
noncomputable def d_X12_feed_4 := gq_3 db00e_24 eb_60
noncomputable def d_X12_feed_6 := gq_4 db00e_24 eb_74
noncomputable def d_X12_feed_8 := gq_5 db00e_24 eb_495
noncomputable def d_X12_feed_10 := gq_6 db00e_24 eb_444
noncomputable def d_X12_feed_13 := gq_7 db00e_24 eb_76
noncomputable def d_X12_feed_15 := gq_8 db00e_24 eb_10
noncomputable def d_X12_feed_16 := gq_9 db00e_24 eb_14
noncomputable def d_X12_feed_17 := gq_10 db00e_24 eb_30
noncomputable def d_X12_feed_18 := gq_11 db00e_24 eb_77
noncomputable def d_X12_feed_20 := gq_12 db00e_24 eb_126
noncomputable def d_X12_feed_22 := gq_13 db00e_24 eb_74
noncomputable def d_X12_feed_24 := gq_14 db00e_24 eb_980
noncomputable def d_X12_feed_27 := gq_15 db00e_24 eb_124
noncomputable def d_X12_feed_30 := gq_16 db00e_24 eb_20
noncomputable def d_X12_feed_31 := gq_17 db00e_24 eb_21
noncomputable def d_X12_feed_34 := gq_18 db00e_24 eb_22
noncomputable def d_X12_feed_35 := gq_19 db00e_24 eb_36
noncomputable def d_X12_feed_36 := gq_20 db00e_24 eb_59
noncomputable def d_X12_feed_38 := gq_21 db00e_24 eb_184
noncomputable def d_X12_feed_41 := gq_22 db00e_24 eb_151
noncomputable def d_X12_feed_44 := gq_23 db00e_24 eb_0
theorem db00e_25 : Pf_ prog_14_method_15_code [(45, [0xb4, 0x01, 0x6a]), (48, [0x15, 0x06]), (50, [0x60]), (51, [0x11, 0x00, 0xa0]), (54, [0xa4, 0x00, 0x05]), (57, [0x02]), (58, [0xac]), (59, [0x03]), (60, [0x36, 0x07]), (62, [0x15, 0x07]), (64, [0x10, 0x14]), (66, [0xa2, 0x00, 0x31]), (69, [0x1b]), (70, [0x1c]), (71, [0x1d]), (72, [0x15, 0x04]), (74, [0x15, 0x05]), (76, [0x15, 0x07]), (78, [0xb8, 0x01, 0x66]), (81, [0x36, 0x08]), (83, [0x15, 0x08]), (85, [0x99, 0x00, 0x18]), (88, [0x2a]), (89, [0xb4, 0x00, 0x57])] := pf_ok prog_14_method_15_code _ 45 (by decide +kernel)
noncomputable def d_X12_feed_45 := gq_0 db00e_25 eb_981
noncomputable def d_X12_feed_48 := gq_1 db00e_25 eb_76
noncomputable def d_X12_feed_50 := gq_2 db00e_25 eb_36
noncomputable def d_X12_feed_51 := gq_3 db00e_25 eb_451
noncomputable def d_X12_feed_54 := gq_4 db00e_25 eb_337
noncomputable def d_X12_feed_57 := gq_5 db00e_25 eb_27
noncomputable def d_X12_feed_58 := gq_6 db00e_25 eb_16
noncomputable def d_X12_feed_59 := gq_7 db00e_25 eb_22
noncomputable def d_X12_feed_60 := gq_8 db00e_25 eb_60
noncomputable def d_X12_feed_62 := gq_9 db00e_25 eb_74
noncomputable def d_X12_feed_64 := gq_10 db00e_25 eb_495
noncomputable def d_X12_feed_66 := gq_11 db00e_25 eb_227
noncomputable def d_X12_feed_69 := gq_12 db00e_25 eb_10
noncomputable def d_X12_feed_70 := gq_13 db00e_25 eb_14
noncomputable def d_X12_feed_71 := gq_14 db00e_25 eb_30
noncomputable def d_X12_feed_72 := gq_15 db00e_25 eb_77
noncomputable def d_X12_feed_74 := gq_16 db00e_25 eb_126
noncomputable def d_X12_feed_76 := gq_17 db00e_25 eb_74
noncomputable def d_X12_feed_78 := gq_18 db00e_25 eb_980
noncomputable def d_X12_feed_81 := gq_19 db00e_25 eb_62
noncomputable def d_X12_feed_83 := gq_20 db00e_25 eb_65
noncomputable def d_X12_feed_85 := gq_21 db00e_25 eb_216
noncomputable def d_X12_feed_88 := gq_22 db00e_25 eb_0
noncomputable def d_X12_feed_89 := gq_23 db00e_25 eb_982
theorem db00e_26 : Pf_ prog_14_method_15_code [(92, [0x2a]), (93, [0xb4, 0x01, 0x6a]), (96, [0x15, 0x08]), (98, [0x4f]), (99, [0x2a]), (100, [0x59]), (101, [0xb4, 0x01, 0x6a]), (104, [0x04]), (105, [0x60]), (106, [0xb5, 0x01, 0x6a]), (109, [0x84, 0x07, 0x01]), (112, [0xa7, 0xff, 0xce]), (115, [0x2a]), (116, [0xb4, 0x01, 0x6a]), (119, [0xac])] := pf_ok prog_14_method_15_code _ 92 (by decide +kernel)
noncomputable def d_X12_feed_92 := gq_0 db00e_26 eb_0
noncomputable def d_X12_feed_93 := gq_1 db00e_26 eb_981
noncomputable def d_X12_feed_96 := gq_2 db00e_26 eb_65
noncomputable def d_X12_feed_98 := gq_3 db00e_26 eb_39
noncomputable def d_X12_feed_99 := gq_4 db00e_26 eb_0
noncomputable def d_X12_feed_100 := gq_5 db00e_26 eb_47
noncomputable def d_X12_feed_101 := gq_6 db00e_26 eb_981
noncomputable def d_X12_feed_104 := gq_7 db00e_26 eb_20
noncomputable def d_X12_feed_105 := gq_8 db00e_26 eb_36
noncomputable def d_X12_feed_106 := gq_9 db00e_26 eb_983
noncomputable def d_X12_feed_109 := gq_10 db00e_26 eb_184
noncomputable def d_X12_feed_112 := gq_11 db00e_26 eb_984
noncomputable def d_X12_feed_115 := gq_12 db00e_26 eb_0
noncomputable def d_X12_feed_116 := gq_13 db00e_26 eb_981
noncomputable def d_X12_feed_119 := gq_14 db00e_26 eb_16
theorem db00e_27 : Pf_ prog_14_method_16_code [(0, [0x1b]), (1, [0x9b, 0x00, 0x0b]), (4, [0x1b]), (5, [0x2a]), (6, [0xb4, 0x01, 0x6a]), (9, [0xa4, 0x00, 0x05]), (12, [0x03]), (13, [0xac]), (14, [0x2a]), (15, [0x1b]), (16, [0xb5, 0x01, 0x6a]), (19, [0x04]), (20, [0xac])] := pf_ok prog_14_method_16_code _ 0 (by decide +kernel)
noncomputable def d_X12_end_0 := gq_0 db00e_27 eb_10
noncomputable def d_X12_end_1 := gq_1 db00e_27 eb_985
noncomputable def d_X12_end_4 := gq_2 db00e_27 eb_10
noncomputable def d_X12_end_5 := gq_3 db00e_27 eb_0
noncomputable def d_X12_end_6 := gq_4 db00e_27 eb_981
noncomputable def d_X12_end_9 := gq_5 db00e_27 eb_337
noncomputable def d_X12_end_12 := gq_6 db00e_27 eb_22
noncomputable def d_X12_end_13 := gq_7 db00e_27 eb_16
noncomputable def d_X12_end_14 := gq_8 db00e_27 eb_0
noncomputable def d_X12_end_15 := gq_9 db00e_27 eb_10
noncomputable def d_X12_end_16 := gq_10 db00e_27 eb_983
noncomputable def d_X12_end_19 := gq_11 db00e_27 eb_20
noncomputable def d_X12_end_20 := gq_12 db00e_27 eb_16
theorem db00e_28 : Pf_ prog_14_method_17_code [(0, [0x2a]), (1, [0xb4, 0x01, 0x6d]), (4, [0x2a]), (5, [0xb4, 0x01, 0x6a]), (8, [0xa2, 0x00, 0x1e]), (11, [0x2a]), (12, [0xb4, 0x00, 0x57]), (15, [0x2a]), (16, [0xb4, 0x01, 0x6d]), (19, [0x2e]), (20, [0x10, 0x20]), (22, [0xa0, 0x00, 0x10]), (25, [0x2a]), (26, [0x59]), (27, [0xb4, 0x01, 0x6d]), (30, [0x04]), (31, [0x60]), (32, [0xb5, 0x01, 0x6d]), (35, [0xa7, 0xff, 0xdd]), (38, [0x2a]), (39, [0xb4, 0x01, 0x6d]), (42, [0x2a]), (43, [0xb4, 0x01, 0x6a]), (46, [0xa2, 0x00, 0x0f])] := pf_ok prog_14_method_17_code _ 0 (by decide +kernel)
noncomputable def d_X12_look_0 := gq_0 db00e_28 eb_0
noncomputable def d_X12_look_1 := gq_1 db00e_28 eb_986
noncomputable def d_X12_look_4 := gq_2 db00e_28 eb_0
noncomputable def d_X12_look_5 := gq_3 db00e_28 eb_981
noncomputable def d_X12_look_8 := gq_4 db00e_28 eb_250
noncomputable def d_X12_look_11 := gq_5 db00e_28 eb_0
noncomputable def d_X12_look_12 := gq_6 db00e_28 eb_982
noncomputable def d_X12_look_15 := gq_7 db00e_28 eb_0
noncomputable def d_X12_look_16 := gq_8 db00e_28 eb_986
noncomputable def d_X12_look_19 := gq_9 db00e_28 eb_38
noncomputable def d_X12_look_20 := gq_10 db00e_28 eb_473
noncomputable def d_X12_look_22 := gq_11 db00e_28 eb_80
noncomputable def d_X12_look_25 := gq_12 db00e_28 eb_0
noncomputable def d_X12_look_26 := gq_13 db00e_28 eb_47
noncomputable def d_X12_look_27 := gq_14 db00e_28 eb_986
noncomputable def d_X12_look_30 := gq_15 db00e_28 eb_20
noncomputable def d_X12_look_31 := gq_16 db00e_28 eb_36
noncomputable def d_X12_look_32 := gq_17 db00e_28 eb_987
noncomputable def d_X12_look_35 := gq_18 db00e_28 eb_151
noncomputable def d_X12_look_38 := gq_19 db00e_28 eb_0
noncomputable def d_X12_look_39 := gq_20 db00e_28 eb_986
noncomputable def d_X12_look_42 := gq_21 db00e_28 eb_0
noncomputable def d_X12_look_43 := gq_22 db00e_28 eb_981
noncomputable def d_X12_look_46 := gq_23 db00e_28 eb_474
theorem db00e_29 : Pf_ prog_14_method_17_code [(49, [0x2a]), (50, [0xb4, 0x00, 0x57]), (53, [0x2a]), (54, [0xb4, 0x01, 0x6d]), (57, [0x2e]), (58, [0xa7, 0x00, 0x04]), (61, [0x02]), (62, [0xac])] := pf_ok prog_14_method_17_code _ 49 (by decide +kernel)
noncomputable def d_X12_look_49 := gq_0 db00e_29 eb_0
noncomputable def d_X12_look_50 := gq_1 db00e_29 eb_982
noncomputable def d_X12_look_53 := gq_2 db00e_29 eb_0
noncomputable def d_X12_look_54 := gq_3 db00e_29 eb_986
noncomputable def d_X12_look_57 := gq_4 db00e_29 eb_38
noncomputable def d_X12_look_58 := gq_5 db00e_29 eb_21
noncomputable def d_X12_look_61 := gq_6 db00e_29 eb_27
noncomputable def d_X12_look_62 := gq_7 db00e_29 eb_16
theorem db00e_30 : Pf_ prog_14_method_18_code [(0, [0x2a]), (1, [0x2a]), (2, [0xb4, 0x01, 0x70]), (5, [0x02]), (6, [0xa0, 0x00, 0x0a]), (9, [0x2a]), (10, [0xb4, 0x01, 0x6d]), (13, [0xa7, 0x00, 0x07]), (16, [0x2a]), (17, [0xb4, 0x01, 0x70]), (20, [0xb5, 0x01, 0x70]), (23, [0xb1])] := pf_ok prog_14_method_18_code _ 0 (by decide +kernel)
noncomputable def d_X12_bad_0 := gq_0 db00e_30 eb_0
noncomputable def d_X12_bad_1 := gq_1 db00e_30 eb_0
noncomputable def d_X12_bad_2 := gq_2 db00e_30 eb_988
noncomputable def d_X12_bad_5 := gq_3 db00e_30 eb_27
noncomputable def d_X12_bad_6 := gq_4 db00e_30 eb_262
noncomputable def d_X12_bad_9 := gq_5 db00e_30 eb_0
noncomputable def d_X12_bad_10 := gq_6 db00e_30 eb_986
noncomputable def d_X12_bad_13 := gq_7 db00e_30 eb_206
noncomputable def d_X12_bad_16 := gq_8 db00e_30 eb_0
noncomputable def d_X12_bad_17 := gq_9 db00e_30 eb_988
noncomputable def d_X12_bad_20 := gq_10 db00e_30 eb_989
noncomputable def d_X12_bad_23 := gq_11 db00e_30 eb_8
theorem db00e_31 : Pf_ prog_14_method_19_code [(0, [0x2a]), (1, [0xb4, 0x00, 0x5a]), (4, [0x2a]), (5, [0xb4, 0x01, 0x73]), (8, [0x1b]), (9, [0x4f]), (10, [0x2a]), (11, [0x59]), (12, [0xb4, 0x01, 0x73]), (15, [0x04]), (16, [0x60]), (17, [0xb5, 0x01, 0x73]), (20, [0xb1])] := pf_ok prog_14_method_19_code _ 0 (by decide +kernel)
noncomputable def d_X12_say_0 := gq_0 db00e_31 eb_0
noncomputable def d_X12_say_1 := gq_1 db00e_31 eb_990
noncomputable def d_X12_say_4 := gq_2 db00e_31 eb_0
noncomputable def d_X12_say_5 := gq_3 db00e_31 eb_991
noncomputable def d_X12_say_8 := gq_4 db00e_31 eb_10
noncomputable def d_X12_say_9 := gq_5 db00e_31 eb_39
noncomputable def d_X12_say_10 := gq_6 db00e_31 eb_0
noncomputable def d_X12_say_11 := gq_7 db00e_31 eb_47
noncomputable def d_X12_say_12 := gq_8 db00e_31 eb_991
noncomputable def d_X12_say_15 := gq_9 db00e_31 eb_20
noncomputable def d_X12_say_16 := gq_10 db00e_31 eb_36
noncomputable def d_X12_say_17 := gq_11 db00e_31 eb_992
noncomputable def d_X12_say_20 := gq_12 db00e_31 eb_8
theorem db00e_32 : Pf_ prog_14_method_20_code [(0, [0x1a]), (1, [0x10, 0x30]), (3, [0xa1, 0x00, 0x0d]), (6, [0x1a]), (7, [0x10, 0x39]), (9, [0xa3, 0x00, 0x07]), (12, [0x04]), (13, [0xa7, 0x00, 0x04]), (16, [0x03]), (17, [0xac])] := pf_ok prog_14_method_20_code _ 0 (by decide +kernel)
noncomputable def d_X12_isDigit_0 := gq_0 db00e_32 eb_9
noncomputable def d_X12_isDigit_1 := gq_1 db00e_32 eb_320
noncomputable def d_X12_isDigit_3 := gq_2 db00e_32 eb_476
noncomputable def d_X12_isDigit_6 := gq_3 db00e_32 eb_9
noncomputable def d_X12_isDigit_7 := gq_4 db00e_32 eb_477
noncomputable def d_X12_isDigit_9 := gq_5 db00e_32 eb_114
noncomputable def d_X12_isDigit_12 := gq_6 db00e_32 eb_20
noncomputable def d_X12_isDigit_13 := gq_7 db00e_32 eb_21
noncomputable def d_X12_isDigit_16 := gq_8 db00e_32 eb_22
noncomputable def d_X12_isDigit_17 := gq_9 db00e_32 eb_16
theorem db00e_33 : Pf_ prog_14_method_21_code [(0, [0x2a]), (1, [0xb6, 0x01, 0x76]), (4, [0xb8, 0x01, 0x7a]), (7, [0x9a, 0x00, 0x09]), (10, [0x2a]), (11, [0xb6, 0x01, 0x7d]), (14, [0x02]), (15, [0xac]), (16, [0x03]), (17, [0x3c]), (18, [0x03]), (19, [0x3d]), (20, [0x2a]), (21, [0xb4, 0x01, 0x6d]), (24, [0x2a]), (25, [0xb4, 0x01, 0x6a]), (28, [0xa2, 0x00, 0x3f]), (31, [0x2a]), (32, [0xb4, 0x00, 0x57]), (35, [0x2a]), (36, [0xb4, 0x01, 0x6d]), (39, [0x2e]), (40, [0xb8, 0x01, 0x7a]), (43, [0x99, 0x00, 0x30])] := pf_ok prog_14_method_21_code _ 0 (by decide +kernel)
noncomputable def d_X12_number_0 := gq_0 db00e_33 eb_0
noncomputable def d_X12_number_1 := gq_1 db00e_33 eb_993
noncomputable def d_X12_number_4 := gq_2 db00e_33 eb_994
noncomputable def d_X12_number_7 := gq_3 db00e_33 eb_995
noncomputable def d_X12_number_10 := gq_4 db00e_33 eb_0
noncomputable def d_X12_number_11 := gq_5 db00e_33 eb_996
noncomputable def d_X12_number_14 := gq_6 db00e_33 eb_27
noncomputable def d_X12_number_15 := gq_7 db00e_33 eb_16
noncomputable def d_X12_number_16 := gq_8 db00e_33 eb_22
noncomputable def d_X12_number_17 := gq_9 db00e_33 eb_225
noncomputable def d_X12_number_18 := gq_10 db00e_33 eb_22
noncomputable def d_X12_number_19 := gq_11 db00e_33 eb_28
noncomputable def d_X12_number_20 := gq_12 db00e_33 eb_0
noncomputable def d_X12_number_21 := gq_13 db00e_33 eb_986
noncomputable def d_X12_number_24 := gq_14 db00e_33 eb_0
noncomputable def d_X12_number_25 := gq_15 db00e_33 eb_981
noncomputable def d_X12_number_28 := gq_16 db00e_33 eb_821
noncomputable def d_X12_number_31 := gq_17 db00e_33 eb_0
noncomputable def d_X12_number_32 := gq_18 db00e_33 eb_982
noncomputable def d_X12_number_35 := gq_19 db00e_33 eb_0
noncomputable def d_X12_number_36 := gq_20 db00e_33 eb_986
noncomputable def d_X12_number_39 := gq_21 db00e_33 eb_38
noncomputable def d_X12_number_40 := gq_22 db00e_33 eb_994
noncomputable def d_X12_number_43 := gq_23 db00e_33 eb_256
theorem db00e_34 : Pf_ prog_14_method_21_code [(46, [0x1c]), (47, [0x07]), (48, [0xa0, 0x00, 0x09]), (51, [0x2a]), (52, [0xb6, 0x01, 0x7d]), (55, [0x02]), (56, [0xac]), (57, [0x10, 0x0a]), (59, [0x1b]), (60, [0x68]), (61, [0x2a]), (62, [0xb4, 0x00, 0x57]), (65, [0x2a]), (66, [0xb4, 0x01, 0x6d]), (69, [0x2e]), (70, [0x60]), (71, [0x10, 0x30]), (73, [0x64]), (74, [0x3c]), (75, [0x84, 0x02, 0x01]), (78, [0x2a]), (79, [0x59]), (80, [0xb4, 0x01, 0x6d]), (83, [0x04])] := pf_ok prog_14_method_21_code _ 46 (by decide +kernel)
noncomputable def d_X12_number_46 := gq_0 db00e_34 eb_14
noncomputable def d_X12_number_47 := gq_1 db00e_34 eb_294
noncomputable def d_X12_number_48 := gq_2 db00e_34 eb_160
noncomputable def d_X12_number_51 := gq_3 db00e_34 eb_0
noncomputable def d_X12_number_52 := gq_4 db00e_34 eb_996
noncomputable def d_X12_number_55 := gq_5 db00e_34 eb_27
noncomputable def d_X12_number_56 := gq_6 db00e_34 eb_16
noncomputable def d_X12_number_57 := gq_7 db00e_34 eb_94
noncomputable def d_X12_number_59 := gq_8 db00e_34 eb_10
noncomputable def d_X12_number_60 := gq_9 db00e_34 eb_35
noncomputable def d_X12_number_61 := gq_10 db00e_34 eb_0
noncomputable def d_X12_number_62 := gq_11 db00e_34 eb_982
noncomputable def d_X12_number_65 := gq_12 db00e_34 eb_0
noncomputable def d_X12_number_66 := gq_13 db00e_34 eb_986
noncomputable def d_X12_number_69 := gq_14 db00e_34 eb_38
noncomputable def d_X12_number_70 := gq_15 db00e_34 eb_36
noncomputable def d_X12_number_71 := gq_16 db00e_34 eb_320
noncomputable def d_X12_number_73 := gq_17 db00e_34 eb_49
noncomputable def d_X12_number_74 := gq_18 db00e_34 eb_225
noncomputable def d_X12_number_75 := gq_19 db00e_34 eb_42
noncomputable def d_X12_number_78 := gq_20 db00e_34 eb_0
noncomputable def d_X12_number_79 := gq_21 db00e_34 eb_47
noncomputable def d_X12_number_80 := gq_22 db00e_34 eb_986
noncomputable def d_X12_number_83 := gq_23 db00e_34 eb_20
theorem db00e_35 : Pf_ prog_14_method_21_code [(84, [0x60]), (85, [0xb5, 0x01, 0x6d]), (88, [0xa7, 0xff, 0xbc]), (91, [0x1b]), (92, [0xac])] := pf_ok prog_14_method_21_code _ 84 (by decide +kernel)
noncomputable def d_X12_number_84 := gq_0 db00e_35 eb_36
noncomputable def d_X12_number_85 := gq_1 db00e_35 eb_987
noncomputable def d_X12_number_88 := gq_2 db00e_35 eb_258
noncomputable def d_X12_number_91 := gq_3 db00e_35 eb_10
noncomputable def d_X12_number_92 := gq_4 db00e_35 eb_16
theorem db00e_36 : Pf_ prog_14_method_22_code [(0, [0x2a]), (1, [0xb6, 0x01, 0x80]), (4, [0x3e]), (5, [0x2a]), (6, [0xb4, 0x01, 0x70]), (9, [0x02]), (10, [0xa0, 0x00, 0x16]), (13, [0x1d]), (14, [0x1b]), (15, [0x1c]), (16, [0xb8, 0x01, 0x43]), (19, [0x9a, 0x00, 0x0d]), (22, [0x2a]), (23, [0x2a]), (24, [0xb4, 0x01, 0x6d]), (27, [0x04]), (28, [0x64]), (29, [0xb5, 0x01, 0x70]), (32, [0x1d]), (33, [0xac])] := pf_ok prog_14_method_22_code _ 0 (by decide +kernel)
noncomputable def d_X12_within_0 := gq_0 db00e_36 eb_0
noncomputable def d_X12_within_1 := gq_1 db00e_36 eb_997
noncomputable def d_X12_within_4 := gq_2 db00e_36 eb_29
noncomputable def d_X12_within_5 := gq_3 db00e_36 eb_0
noncomputable def d_X12_within_6 := gq_4 db00e_36 eb_988
noncomputable def d_X12_within_9 := gq_5 db00e_36 eb_27
noncomputable def d_X12_within_10 := gq_6 db00e_36 eb_437
noncomputable def d_X12_within_13 := gq_7 db00e_36 eb_30
noncomputable def d_X12_within_14 := gq_8 db00e_36 eb_10
noncomputable def d_X12_within_15 := gq_9 db00e_36 eb_14
noncomputable def d_X12_within_16 := gq_10 db00e_36 eb_951
noncomputable def d_X12_within_19 := gq_11 db00e_36 eb_481
noncomputable def d_X12_within_22 := gq_12 db00e_36 eb_0
noncomputable def d_X12_within_23 := gq_13 db00e_36 eb_0
noncomputable def d_X12_within_24 := gq_14 db00e_36 eb_986
noncomputable def d_X12_within_27 := gq_15 db00e_36 eb_20
noncomputable def d_X12_within_28 := gq_16 db00e_36 eb_49
noncomputable def d_X12_within_29 := gq_17 db00e_36 eb_989
noncomputable def d_X12_within_32 := gq_18 db00e_36 eb_30
noncomputable def d_X12_within_33 := gq_19 db00e_36 eb_16
theorem db00e_37 : Pf_ prog_14_method_23_code [(0, [0x2a]), (1, [0xb6, 0x01, 0x83]), (4, [0x2a]), (5, [0xb4, 0x01, 0x70]), (8, [0x02]), (9, [0xa0, 0x00, 0x1d]), (12, [0x2a]), (13, [0xb6, 0x01, 0x76]), (16, [0x10, 0x3b]), (18, [0xa0, 0x00, 0x14]), (21, [0x2a]), (22, [0x59]), (23, [0xb4, 0x01, 0x6d]), (26, [0x04]), (27, [0x60]), (28, [0xb5, 0x01, 0x6d]), (31, [0x2a]), (32, [0xb6, 0x01, 0x83]), (35, [0xa7, 0xff, 0xe1]), (38, [0xb1])] := pf_ok prog_14_method_23_code _ 0 (by decide +kernel)
noncomputable def d_X12_stepsRead_0 := gq_0 db00e_37 eb_0
noncomputable def d_X12_stepsRead_1 := gq_1 db00e_37 eb_777
noncomputable def d_X12_stepsRead_4 := gq_2 db00e_37 eb_0
noncomputable def d_X12_stepsRead_5 := gq_3 db00e_37 eb_988
noncomputable def d_X12_stepsRead_8 := gq_4 db00e_37 eb_27
noncomputable def d_X12_stepsRead_9 := gq_5 db00e_37 eb_314
noncomputable def d_X12_stepsRead_12 := gq_6 db00e_37 eb_0
noncomputable def d_X12_stepsRead_13 := gq_7 db00e_37 eb_993
noncomputable def d_X12_stepsRead_16 := gq_8 db00e_37 eb_485
noncomputable def d_X12_stepsRead_18 := gq_9 db00e_37 eb_303
noncomputable def d_X12_stepsRead_21 := gq_10 db00e_37 eb_0
noncomputable def d_X12_stepsRead_22 := gq_11 db00e_37 eb_47
noncomputable def d_X12_stepsRead_23 := gq_12 db00e_37 eb_986
noncomputable def d_X12_stepsRead_26 := gq_13 db00e_37 eb_20
noncomputable def d_X12_stepsRead_27 := gq_14 db00e_37 eb_36
noncomputable def d_X12_stepsRead_28 := gq_15 db00e_37 eb_987
noncomputable def d_X12_stepsRead_31 := gq_16 db00e_37 eb_0
noncomputable def d_X12_stepsRead_32 := gq_17 db00e_37 eb_777
noncomputable def d_X12_stepsRead_35 := gq_18 db00e_37 eb_420
noncomputable def d_X12_stepsRead_38 := gq_19 db00e_37 eb_8
theorem db00e_38 : Pf_ prog_14_method_24_code [(0, [0x2a]), (1, [0xb6, 0x01, 0x76]), (4, [0x3c]), (5, [0x1b]), (6, [0x10, 0x67]), (8, [0xa0, 0x00, 0x20]), (11, [0x2a]), (12, [0x59]), (13, [0xb4, 0x01, 0x6d]), (16, [0x04]), (17, [0x60]), (18, [0xb5, 0x01, 0x6d]), (21, [0x2a]), (22, [0x03]), (23, [0xb6, 0x01, 0x86]), (26, [0x2a]), (27, [0x2a]), (28, [0x03]), (29, [0x10, 0x0f]), (31, [0xb6, 0x01, 0x8a]), (34, [0xb6, 0x01, 0x86]), (37, [0xa7, 0x00, 0xe9]), (40, [0x1b]), (41, [0x10, 0x77])] := pf_ok prog_14_method_24_code _ 0 (by decide +kernel)
noncomputable def d_X12_stepRead_0 := gq_0 db00e_38 eb_0
noncomputable def d_X12_stepRead_1 := gq_1 db00e_38 eb_993
noncomputable def d_X12_stepRead_4 := gq_2 db00e_38 eb_225
noncomputable def d_X12_stepRead_5 := gq_3 db00e_38 eb_10
noncomputable def d_X12_stepRead_6 := gq_4 db00e_38 eb_998
noncomputable def d_X12_stepRead_8 := gq_5 db00e_38 eb_999
noncomputable def d_X12_stepRead_11 := gq_6 db00e_38 eb_0
noncomputable def d_X12_stepRead_12 := gq_7 db00e_38 eb_47
noncomputable def d_X12_stepRead_13 := gq_8 db00e_38 eb_986
noncomputable def d_X12_stepRead_16 := gq_9 db00e_38 eb_20
noncomputable def d_X12_stepRead_17 := gq_10 db00e_38 eb_36
noncomputable def d_X12_stepRead_18 := gq_11 db00e_38 eb_987
noncomputable def d_X12_stepRead_21 := gq_12 db00e_38 eb_0
noncomputable def d_X12_stepRead_22 := gq_13 db00e_38 eb_22
noncomputable def d_X12_stepRead_23 := gq_14 db00e_38 eb_1000
noncomputable def d_X12_stepRead_26 := gq_15 db00e_38 eb_0
noncomputable def d_X12_stepRead_27 := gq_16 db00e_38 eb_0
noncomputable def d_X12_stepRead_28 := gq_17 db00e_38 eb_22
noncomputable def d_X12_stepRead_29 := gq_18 db00e_38 eb_58
noncomputable def d_X12_stepRead_31 := gq_19 db00e_38 eb_1001
noncomputable def d_X12_stepRead_34 := gq_20 db00e_38 eb_1000
noncomputable def d_X12_stepRead_37 := gq_21 db00e_38 eb_1002
noncomputable def d_X12_stepRead_40 := gq_22 db00e_38 eb_10
noncomputable def d_X12_stepRead_41 := gq_23 db00e_38 eb_1003
theorem db00e_39 : Pf_ prog_14_method_24_code [(43, [0xa0, 0x00, 0x21]), (46, [0x2a]), (47, [0x59]), (48, [0xb4, 0x01, 0x6d]), (51, [0x04]), (52, [0x60]), (53, [0xb5, 0x01, 0x6d]), (56, [0x2a]), (57, [0x04]), (58, [0xb6, 0x01, 0x86]), (61, [0x2a]), (62, [0x2a]), (63, [0x04]), (64, [0x11, 0x00, 0xf0]), (67, [0xb6, 0x01, 0x8a]), (70, [0xb6, 0x01, 0x86]), (73, [0xa7, 0x00, 0xc5]), (76, [0x1b]), (77, [0x10, 0x70]), (79, [0xa0, 0x00, 0x34]), (82, [0x2a]), (83, [0x59]), (84, [0xb4, 0x01, 0x6d]), (87, [0x04])] := pf_ok prog_14_method_24_code _ 43 (by decide +kernel)
noncomputable def d_X12_stepRead_43 := gq_0 db00e_39 eb_536
noncomputable def d_X12_stepRead_46 := gq_1 db00e_39 eb_0
noncomputable def d_X12_stepRead_47 := gq_2 db00e_39 eb_47
noncomputable def d_X12_stepRead_48 := gq_3 db00e_39 eb_986
noncomputable def d_X12_stepRead_51 := gq_4 db00e_39 eb_20
noncomputable def d_X12_stepRead_52 := gq_5 db00e_39 eb_36
noncomputable def d_X12_stepRead_53 := gq_6 db00e_39 eb_987
noncomputable def d_X12_stepRead_56 := gq_7 db00e_39 eb_0
noncomputable def d_X12_stepRead_57 := gq_8 db00e_39 eb_20
noncomputable def d_X12_stepRead_58 := gq_9 db00e_39 eb_1000
noncomputable def d_X12_stepRead_61 := gq_10 db00e_39 eb_0
noncomputable def d_X12_stepRead_62 := gq_11 db00e_39 eb_0
noncomputable def d_X12_stepRead_63 := gq_12 db00e_39 eb_20
noncomputable def d_X12_stepRead_64 := gq_13 db00e_39 eb_488
noncomputable def d_X12_stepRead_67 := gq_14 db00e_39 eb_1001
noncomputable def d_X12_stepRead_70 := gq_15 db00e_39 eb_1000
noncomputable def d_X12_stepRead_73 := gq_16 db00e_39 eb_1004
noncomputable def d_X12_stepRead_76 := gq_17 db00e_39 eb_10
noncomputable def d_X12_stepRead_77 := gq_18 db00e_39 eb_1005
noncomputable def d_X12_stepRead_79 := gq_19 db00e_39 eb_1006
noncomputable def d_X12_stepRead_82 := gq_20 db00e_39 eb_0
noncomputable def d_X12_stepRead_83 := gq_21 db00e_39 eb_47
noncomputable def d_X12_stepRead_84 := gq_22 db00e_39 eb_986
noncomputable def d_X12_stepRead_87 := gq_23 db00e_39 eb_20
theorem db00e_40 : Pf_ prog_14_method_24_code [(88, [0x60]), (89, [0xb5, 0x01, 0x6d]), (92, [0x2a]), (93, [0x05]), (94, [0xb6, 0x01, 0x86]), (97, [0x2a]), (98, [0x2a]), (99, [0x03]), (100, [0x10, 0x0f]), (102, [0xb6, 0x01, 0x8a]), (105, [0xb6, 0x01, 0x86]), (108, [0x2a]), (109, [0xb4, 0x01, 0x70]), (112, [0x02]), (113, [0xa0, 0x00, 0x9d]), (116, [0x2a]), (117, [0x2a]), (118, [0x03]), (119, [0x11, 0x05, 0xa0]), (122, [0xb6, 0x01, 0x8a]), (125, [0xb6, 0x01, 0x86]), (128, [0xa7, 0x00, 0x8e]), (131, [0x1b]), (132, [0x10, 0x6c])] := pf_ok prog_14_method_24_code _ 88 (by decide +kernel)
noncomputable def d_X12_stepRead_88 := gq_0 db00e_40 eb_36
noncomputable def d_X12_stepRead_89 := gq_1 db00e_40 eb_987
noncomputable def d_X12_stepRead_92 := gq_2 db00e_40 eb_0
noncomputable def d_X12_stepRead_93 := gq_3 db00e_40 eb_11
noncomputable def d_X12_stepRead_94 := gq_4 db00e_40 eb_1000
noncomputable def d_X12_stepRead_97 := gq_5 db00e_40 eb_0
noncomputable def d_X12_stepRead_98 := gq_6 db00e_40 eb_0
noncomputable def d_X12_stepRead_99 := gq_7 db00e_40 eb_22
noncomputable def d_X12_stepRead_100 := gq_8 db00e_40 eb_58
noncomputable def d_X12_stepRead_102 := gq_9 db00e_40 eb_1001
noncomputable def d_X12_stepRead_105 := gq_10 db00e_40 eb_1000
noncomputable def d_X12_stepRead_108 := gq_11 db00e_40 eb_0
noncomputable def d_X12_stepRead_109 := gq_12 db00e_40 eb_988
noncomputable def d_X12_stepRead_112 := gq_13 db00e_40 eb_27
noncomputable def d_X12_stepRead_113 := gq_14 db00e_40 eb_1007
noncomputable def d_X12_stepRead_116 := gq_15 db00e_40 eb_0
noncomputable def d_X12_stepRead_117 := gq_16 db00e_40 eb_0
noncomputable def d_X12_stepRead_118 := gq_17 db00e_40 eb_22
noncomputable def d_X12_stepRead_119 := gq_18 db00e_40 eb_292
noncomputable def d_X12_stepRead_122 := gq_19 db00e_40 eb_1001
noncomputable def d_X12_stepRead_125 := gq_20 db00e_40 eb_1000
noncomputable def d_X12_stepRead_128 := gq_21 db00e_40 eb_1008
noncomputable def d_X12_stepRead_131 := gq_22 db00e_40 eb_10
noncomputable def d_X12_stepRead_132 := gq_23 db00e_40 eb_1009
theorem db00e_41 : Pf_ prog_14_method_24_code [(134, [0xa0, 0x00, 0x15]), (137, [0x2a]), (138, [0x59]), (139, [0xb4, 0x01, 0x6d]), (142, [0x04]), (143, [0x60]), (144, [0xb5, 0x01, 0x6d]), (147, [0x2a]), (148, [0x06]), (149, [0xb6, 0x01, 0x86]), (152, [0xa7, 0x00, 0x76]), (155, [0x1b]), (156, [0x10, 0x28]), (158, [0xa0, 0x00, 0x6c]), (161, [0x2a]), (162, [0xb4, 0x01, 0x8d]), (165, [0x07]), (166, [0xa2, 0x00, 0x64]), (169, [0x2a]), (170, [0x59]), (171, [0xb4, 0x01, 0x8d]), (174, [0x04]), (175, [0x60]), (176, [0xb5, 0x01, 0x8d])] := pf_ok prog_14_method_24_code _ 134 (by decide +kernel)
noncomputable def d_X12_stepRead_134 := gq_0 db00e_41 eb_443
noncomputable def d_X12_stepRead_137 := gq_1 db00e_41 eb_0
noncomputable def d_X12_stepRead_138 := gq_2 db00e_41 eb_47
noncomputable def d_X12_stepRead_139 := gq_3 db00e_41 eb_986
noncomputable def d_X12_stepRead_142 := gq_4 db00e_41 eb_20
noncomputable def d_X12_stepRead_143 := gq_5 db00e_41 eb_36
noncomputable def d_X12_stepRead_144 := gq_6 db00e_41 eb_987
noncomputable def d_X12_stepRead_147 := gq_7 db00e_41 eb_0
noncomputable def d_X12_stepRead_148 := gq_8 db00e_41 eb_55
noncomputable def d_X12_stepRead_149 := gq_9 db00e_41 eb_1000
noncomputable def d_X12_stepRead_152 := gq_10 db00e_41 eb_1010
noncomputable def d_X12_stepRead_155 := gq_11 db00e_41 eb_10
noncomputable def d_X12_stepRead_156 := gq_12 db00e_41 eb_317
noncomputable def d_X12_stepRead_158 := gq_13 db00e_41 eb_1011
noncomputable def d_X12_stepRead_161 := gq_14 db00e_41 eb_0
noncomputable def d_X12_stepRead_162 := gq_15 db00e_41 eb_1012
noncomputable def d_X12_stepRead_165 := gq_16 db00e_41 eb_294
noncomputable def d_X12_stepRead_166 := gq_17 db00e_41 eb_1013
noncomputable def d_X12_stepRead_169 := gq_18 db00e_41 eb_0
noncomputable def d_X12_stepRead_170 := gq_19 db00e_41 eb_47
noncomputable def d_X12_stepRead_171 := gq_20 db00e_41 eb_1012
noncomputable def d_X12_stepRead_174 := gq_21 db00e_41 eb_20
noncomputable def d_X12_stepRead_175 := gq_22 db00e_41 eb_36
noncomputable def d_X12_stepRead_176 := gq_23 db00e_41 eb_1014
theorem db00e_42 : Pf_ prog_14_method_24_code [(179, [0x2a]), (180, [0x59]), (181, [0xb4, 0x01, 0x6d]), (184, [0x04]), (185, [0x60]), (186, [0xb5, 0x01, 0x6d]), (189, [0x2a]), (190, [0x07]), (191, [0xb6, 0x01, 0x86]), (194, [0x2a]), (195, [0xb6, 0x01, 0x90]), (198, [0x2a]), (199, [0xb4, 0x01, 0x70]), (202, [0x02]), (203, [0xa0, 0x00, 0x10]), (206, [0x2a]), (207, [0xb6, 0x01, 0x76]), (210, [0x10, 0x29]), (212, [0x9f, 0x00, 0x07]), (215, [0x2a]), (216, [0xb6, 0x01, 0x7d]), (219, [0x2a]), (220, [0x59]), (221, [0xb4, 0x01, 0x6d])] := pf_ok prog_14_method_24_code _ 179 (by decide +kernel)
noncomputable def d_X12_stepRead_179 := gq_0 db00e_42 eb_0
noncomputable def d_X12_stepRead_180 := gq_1 db00e_42 eb_47
noncomputable def d_X12_stepRead_181 := gq_2 db00e_42 eb_986
noncomputable def d_X12_stepRead_184 := gq_3 db00e_42 eb_20
noncomputable def d_X12_stepRead_185 := gq_4 db00e_42 eb_36
noncomputable def d_X12_stepRead_186 := gq_5 db00e_42 eb_987
noncomputable def d_X12_stepRead_189 := gq_6 db00e_42 eb_0
noncomputable def d_X12_stepRead_190 := gq_7 db00e_42 eb_294
noncomputable def d_X12_stepRead_191 := gq_8 db00e_42 eb_1000
noncomputable def d_X12_stepRead_194 := gq_9 db00e_42 eb_0
noncomputable def d_X12_stepRead_195 := gq_10 db00e_42 eb_1015
noncomputable def d_X12_stepRead_198 := gq_11 db00e_42 eb_0
noncomputable def d_X12_stepRead_199 := gq_12 db00e_42 eb_988
noncomputable def d_X12_stepRead_202 := gq_13 db00e_42 eb_27
noncomputable def d_X12_stepRead_203 := gq_14 db00e_42 eb_80
noncomputable def d_X12_stepRead_206 := gq_15 db00e_42 eb_0
noncomputable def d_X12_stepRead_207 := gq_16 db00e_42 eb_993
noncomputable def d_X12_stepRead_210 := gq_17 db00e_42 eb_493
noncomputable def d_X12_stepRead_212 := gq_18 db00e_42 eb_557
noncomputable def d_X12_stepRead_215 := gq_19 db00e_42 eb_0
noncomputable def d_X12_stepRead_216 := gq_20 db00e_42 eb_996
noncomputable def d_X12_stepRead_219 := gq_21 db00e_42 eb_0
noncomputable def d_X12_stepRead_220 := gq_22 db00e_42 eb_47
noncomputable def d_X12_stepRead_221 := gq_23 db00e_42 eb_986
theorem db00e_43 : Pf_ prog_14_method_24_code [(224, [0x04]), (225, [0x60]), (226, [0xb5, 0x01, 0x6d]), (229, [0x2a]), (230, [0x59]), (231, [0xb4, 0x01, 0x8d]), (234, [0x04]), (235, [0x64]), (236, [0xb5, 0x01, 0x8d]), (239, [0x2a]), (240, [0xb4, 0x01, 0x70]), (243, [0x02]), (244, [0xa0, 0x00, 0x1a]), (247, [0x2a]), (248, [0x08]), (249, [0xb6, 0x01, 0x86]), (252, [0x2a]), (253, [0x2a]), (254, [0x04]), (255, [0x10, 0x14]), (257, [0xb6, 0x01, 0x8a]), (260, [0xb6, 0x01, 0x86]), (263, [0xa7, 0x00, 0x07]), (266, [0x2a])] := pf_ok prog_14_method_24_code _ 224 (by decide +kernel)
noncomputable def d_X12_stepRead_224 := gq_0 db00e_43 eb_20
noncomputable def d_X12_stepRead_225 := gq_1 db00e_43 eb_36
noncomputable def d_X12_stepRead_226 := gq_2 db00e_43 eb_987
noncomputable def d_X12_stepRead_229 := gq_3 db00e_43 eb_0
noncomputable def d_X12_stepRead_230 := gq_4 db00e_43 eb_47
noncomputable def d_X12_stepRead_231 := gq_5 db00e_43 eb_1012
noncomputable def d_X12_stepRead_234 := gq_6 db00e_43 eb_20
noncomputable def d_X12_stepRead_235 := gq_7 db00e_43 eb_49
noncomputable def d_X12_stepRead_236 := gq_8 db00e_43 eb_1014
noncomputable def d_X12_stepRead_239 := gq_9 db00e_43 eb_0
noncomputable def d_X12_stepRead_240 := gq_10 db00e_43 eb_988
noncomputable def d_X12_stepRead_243 := gq_11 db00e_43 eb_27
noncomputable def d_X12_stepRead_244 := gq_12 db00e_43 eb_282
noncomputable def d_X12_stepRead_247 := gq_13 db00e_43 eb_0
noncomputable def d_X12_stepRead_248 := gq_14 db00e_43 eb_123
noncomputable def d_X12_stepRead_249 := gq_15 db00e_43 eb_1000
noncomputable def d_X12_stepRead_252 := gq_16 db00e_43 eb_0
noncomputable def d_X12_stepRead_253 := gq_17 db00e_43 eb_0
noncomputable def d_X12_stepRead_254 := gq_18 db00e_43 eb_20
noncomputable def d_X12_stepRead_255 := gq_19 db00e_43 eb_495
noncomputable def d_X12_stepRead_257 := gq_20 db00e_43 eb_1001
noncomputable def d_X12_stepRead_260 := gq_21 db00e_43 eb_1000
noncomputable def d_X12_stepRead_263 := gq_22 db00e_43 eb_206
noncomputable def d_X12_stepRead_266 := gq_23 db00e_43 eb_0
theorem db00e_44 : Pf_ prog_14_method_24_code [(267, [0xb6, 0x01, 0x7d]), (270, [0xb1])] := pf_ok prog_14_method_24_code _ 267 (by decide +kernel)
noncomputable def d_X12_stepRead_267 := gq_0 db00e_44 eb_996
noncomputable def d_X12_stepRead_270 := gq_1 db00e_44 eb_8
theorem db00e_45 : Pf_ prog_14_method_25_code [(0, [0x2a]), (1, [0x1b]), (2, [0xb5, 0x01, 0x93]), (5, [0x2a]), (6, [0xb4, 0x01, 0x93]), (9, [0x2a]), (10, [0xb4, 0x01, 0x73]), (13, [0xa2, 0x00, 0xfe]), (16, [0x2a]), (17, [0xb4, 0x00, 0x5a]), (20, [0x2a]), (21, [0xb4, 0x01, 0x93]), (24, [0x2e]), (25, [0x08]), (26, [0x9f, 0x00, 0xf1]), (29, [0x2a]), (30, [0xb4, 0x00, 0x5a]), (33, [0x2a]), (34, [0xb4, 0x01, 0x93]), (37, [0x2e]), (38, [0x3e]), (39, [0x1d]), (40, [0x07]), (41, [0xa0, 0x00, 0x4f])] := pf_ok prog_14_method_25_code _ 0 (by decide +kernel)
noncomputable def d_X12_unfold_0 := gq_0 db00e_45 eb_0
noncomputable def d_X12_unfold_1 := gq_1 db00e_45 eb_10
noncomputable def d_X12_unfold_2 := gq_2 db00e_45 eb_1016
noncomputable def d_X12_unfold_5 := gq_3 db00e_45 eb_0
noncomputable def d_X12_unfold_6 := gq_4 db00e_45 eb_1017
noncomputable def d_X12_unfold_9 := gq_5 db00e_45 eb_0
noncomputable def d_X12_unfold_10 := gq_6 db00e_45 eb_991
noncomputable def d_X12_unfold_13 := gq_7 db00e_45 eb_1018
noncomputable def d_X12_unfold_16 := gq_8 db00e_45 eb_0
noncomputable def d_X12_unfold_17 := gq_9 db00e_45 eb_990
noncomputable def d_X12_unfold_20 := gq_10 db00e_45 eb_0
noncomputable def d_X12_unfold_21 := gq_11 db00e_45 eb_1017
noncomputable def d_X12_unfold_24 := gq_12 db00e_45 eb_38
noncomputable def d_X12_unfold_25 := gq_13 db00e_45 eb_123
noncomputable def d_X12_unfold_26 := gq_14 db00e_45 eb_1019
noncomputable def d_X12_unfold_29 := gq_15 db00e_45 eb_0
noncomputable def d_X12_unfold_30 := gq_16 db00e_45 eb_990
noncomputable def d_X12_unfold_33 := gq_17 db00e_45 eb_0
noncomputable def d_X12_unfold_34 := gq_18 db00e_45 eb_1017
noncomputable def d_X12_unfold_37 := gq_19 db00e_45 eb_38
noncomputable def d_X12_unfold_38 := gq_20 db00e_45 eb_29
noncomputable def d_X12_unfold_39 := gq_21 db00e_45 eb_30
noncomputable def d_X12_unfold_40 := gq_22 db00e_45 eb_294
noncomputable def d_X12_unfold_41 := gq_23 db00e_45 eb_1020
theorem db00e_46 : Pf_ prog_14_method_25_code [(44, [0x2a]), (45, [0xb4, 0x01, 0x93]), (48, [0x04]), (49, [0x60]), (50, [0x36, 0x04]), (52, [0x2a]), (53, [0x15, 0x04]), (55, [0x1c]), (56, [0xb6, 0x01, 0x96]), (59, [0x9a, 0x00, 0x05]), (62, [0x03]), (63, [0xac]), (64, [0x2a]), (65, [0xb4, 0x01, 0x93]), (68, [0x36, 0x05]), (70, [0x2a]), (71, [0xb4, 0x00, 0x5a]), (74, [0x15, 0x05]), (76, [0x04]), (77, [0x60]), (78, [0x2e]), (79, [0x36, 0x06]), (81, [0x04]), (82, [0x36, 0x07])] := pf_ok prog_14_method_25_code _ 44 (by decide +kernel)
noncomputable def d_X12_unfold_44 := gq_0 db00e_46 eb_0
noncomputable def d_X12_unfold_45 := gq_1 db00e_46 eb_1017
noncomputable def d_X12_unfold_48 := gq_2 db00e_46 eb_20
noncomputable def d_X12_unfold_49 := gq_3 db00e_46 eb_36
noncomputable def d_X12_unfold_50 := gq_4 db00e_46 eb_134
noncomputable def d_X12_unfold_52 := gq_5 db00e_46 eb_0
noncomputable def d_X12_unfold_53 := gq_6 db00e_46 eb_77
noncomputable def d_X12_unfold_55 := gq_7 db00e_46 eb_14
noncomputable def d_X12_unfold_56 := gq_8 db00e_46 eb_1021
noncomputable def d_X12_unfold_59 := gq_9 db00e_46 eb_152
noncomputable def d_X12_unfold_62 := gq_10 db00e_46 eb_22
noncomputable def d_X12_unfold_63 := gq_11 db00e_46 eb_16
noncomputable def d_X12_unfold_64 := gq_12 db00e_46 eb_0
noncomputable def d_X12_unfold_65 := gq_13 db00e_46 eb_1017
noncomputable def d_X12_unfold_68 := gq_14 db00e_46 eb_135
noncomputable def d_X12_unfold_70 := gq_15 db00e_46 eb_0
noncomputable def d_X12_unfold_71 := gq_16 db00e_46 eb_990
noncomputable def d_X12_unfold_74 := gq_17 db00e_46 eb_126
noncomputable def d_X12_unfold_76 := gq_18 db00e_46 eb_20
noncomputable def d_X12_unfold_77 := gq_19 db00e_46 eb_36
noncomputable def d_X12_unfold_78 := gq_20 db00e_46 eb_38
noncomputable def d_X12_unfold_79 := gq_21 db00e_46 eb_59
noncomputable def d_X12_unfold_81 := gq_22 db00e_46 eb_20
noncomputable def d_X12_unfold_82 := gq_23 db00e_46 eb_60
theorem db00e_47 : Pf_ prog_14_method_25_code [(84, [0x15, 0x07]), (86, [0x15, 0x06]), (88, [0xa2, 0x00, 0x15]), (91, [0x2a]), (92, [0x15, 0x04]), (94, [0x1c]), (95, [0xb6, 0x01, 0x96]), (98, [0x9a, 0x00, 0x05]), (101, [0x03]), (102, [0xac]), (103, [0x84, 0x07, 0x01]), (106, [0xa7, 0xff, 0xea]), (109, [0x2a]), (110, [0x15, 0x05]), (112, [0x05]), (113, [0x60]), (114, [0xb5, 0x01, 0x93]), (117, [0xa7, 0xff, 0x90]), (120, [0x2a]), (121, [0xb4, 0x01, 0x9a]), (124, [0x11, 0x00, 0x96]), (127, [0xa0, 0x00, 0x05]), (130, [0x03]), (131, [0xac])] := pf_ok prog_14_method_25_code _ 84 (by decide +kernel)
noncomputable def d_X12_unfold_84 := gq_0 db00e_47 eb_74
noncomputable def d_X12_unfold_86 := gq_1 db00e_47 eb_76
noncomputable def d_X12_unfold_88 := gq_2 db00e_47 eb_170
noncomputable def d_X12_unfold_91 := gq_3 db00e_47 eb_0
noncomputable def d_X12_unfold_92 := gq_4 db00e_47 eb_77
noncomputable def d_X12_unfold_94 := gq_5 db00e_47 eb_14
noncomputable def d_X12_unfold_95 := gq_6 db00e_47 eb_1021
noncomputable def d_X12_unfold_98 := gq_7 db00e_47 eb_152
noncomputable def d_X12_unfold_101 := gq_8 db00e_47 eb_22
noncomputable def d_X12_unfold_102 := gq_9 db00e_47 eb_16
noncomputable def d_X12_unfold_103 := gq_10 db00e_47 eb_184
noncomputable def d_X12_unfold_106 := gq_11 db00e_47 eb_1022
noncomputable def d_X12_unfold_109 := gq_12 db00e_47 eb_0
noncomputable def d_X12_unfold_110 := gq_13 db00e_47 eb_126
noncomputable def d_X12_unfold_112 := gq_14 db00e_47 eb_11
noncomputable def d_X12_unfold_113 := gq_15 db00e_47 eb_36
noncomputable def d_X12_unfold_114 := gq_16 db00e_47 eb_1016
noncomputable def d_X12_unfold_117 := gq_17 db00e_47 eb_1023
noncomputable def d_X12_unfold_120 := gq_18 db00e_47 eb_0
noncomputable def d_X12_unfold_121 := gq_19 db00e_47 eb_1024
noncomputable def d_X12_unfold_124 := gq_20 db00e_47 eb_34
noncomputable def d_X12_unfold_127 := gq_21 db00e_47 eb_496
noncomputable def d_X12_unfold_130 := gq_22 db00e_47 eb_22
noncomputable def d_X12_unfold_131 := gq_23 db00e_47 eb_16
theorem db00e_48 : Pf_ prog_14_method_25_code [(132, [0x10, 0x0c]), (134, [0x2a]), (135, [0xb4, 0x01, 0x9d]), (138, [0xa0, 0x00, 0x07]), (141, [0x03]), (142, [0xa7, 0x00, 0x10]), (145, [0x11, 0x00, 0x96]), (148, [0x2a]), (149, [0xb4, 0x01, 0x9d]), (152, [0x68]), (153, [0x2a]), (154, [0xb4, 0x01, 0x9a]), (157, [0x60]), (158, [0x36, 0x04]), (160, [0x1c]), (161, [0x99, 0x00, 0x41]), (164, [0x2a]), (165, [0xb4, 0x00, 0x60]), (168, [0x15, 0x04]), (170, [0x1d]), (171, [0x4f]), (172, [0x2a]), (173, [0xb4, 0x00, 0x63]), (176, [0x15, 0x04])] := pf_ok prog_14_method_25_code _ 132 (by decide +kernel)
noncomputable def d_X12_unfold_132 := gq_0 db00e_48 eb_5
noncomputable def d_X12_unfold_134 := gq_1 db00e_48 eb_0
noncomputable def d_X12_unfold_135 := gq_2 db00e_48 eb_1025
noncomputable def d_X12_unfold_138 := gq_3 db00e_48 eb_136
noncomputable def d_X12_unfold_141 := gq_4 db00e_48 eb_22
noncomputable def d_X12_unfold_142 := gq_5 db00e_48 eb_545
noncomputable def d_X12_unfold_145 := gq_6 db00e_48 eb_34
noncomputable def d_X12_unfold_148 := gq_7 db00e_48 eb_0
noncomputable def d_X12_unfold_149 := gq_8 db00e_48 eb_1025
noncomputable def d_X12_unfold_152 := gq_9 db00e_48 eb_35
noncomputable def d_X12_unfold_153 := gq_10 db00e_48 eb_0
noncomputable def d_X12_unfold_154 := gq_11 db00e_48 eb_1024
noncomputable def d_X12_unfold_157 := gq_12 db00e_48 eb_36
noncomputable def d_X12_unfold_158 := gq_13 db00e_48 eb_134
noncomputable def d_X12_unfold_160 := gq_14 db00e_48 eb_14
noncomputable def d_X12_unfold_161 := gq_15 db00e_48 eb_1026
noncomputable def d_X12_unfold_164 := gq_16 db00e_48 eb_0
noncomputable def d_X12_unfold_165 := gq_17 db00e_48 eb_1027
noncomputable def d_X12_unfold_168 := gq_18 db00e_48 eb_77
noncomputable def d_X12_unfold_170 := gq_19 db00e_48 eb_30
noncomputable def d_X12_unfold_171 := gq_20 db00e_48 eb_39
noncomputable def d_X12_unfold_172 := gq_21 db00e_48 eb_0
noncomputable def d_X12_unfold_173 := gq_22 db00e_48 eb_1028
noncomputable def d_X12_unfold_176 := gq_23 db00e_48 eb_77
theorem db00e_49 : Pf_ prog_14_method_25_code [(178, [0x1d]), (179, [0x06]), (180, [0xa0, 0x00, 0x07]), (183, [0x03]), (184, [0xa7, 0x00, 0x0e]), (187, [0x2a]), (188, [0xb4, 0x00, 0x5a]), (191, [0x2a]), (192, [0xb4, 0x01, 0x93]), (195, [0x04]), (196, [0x60]), (197, [0x2e]), (198, [0x4f]), (199, [0x2a]), (200, [0xb4, 0x00, 0x66]), (203, [0x15, 0x04]), (205, [0x1d]), (206, [0x05]), (207, [0xa0, 0x00, 0x11]), (210, [0x2a]), (211, [0xb4, 0x00, 0x5a]), (214, [0x2a]), (215, [0xb4, 0x01, 0x93]), (218, [0x05])] := pf_ok prog_14_method_25_code _ 178 (by decide +kernel)
noncomputable def d_X12_unfold_178 := gq_0 db00e_49 eb_30
noncomputable def d_X12_unfold_179 := gq_1 db00e_49 eb_55
noncomputable def d_X12_unfold_180 := gq_2 db00e_49 eb_136
noncomputable def d_X12_unfold_183 := gq_3 db00e_49 eb_22
noncomputable def d_X12_unfold_184 := gq_4 db00e_49 eb_1029
noncomputable def d_X12_unfold_187 := gq_5 db00e_49 eb_0
noncomputable def d_X12_unfold_188 := gq_6 db00e_49 eb_990
noncomputable def d_X12_unfold_191 := gq_7 db00e_49 eb_0
noncomputable def d_X12_unfold_192 := gq_8 db00e_49 eb_1017
noncomputable def d_X12_unfold_195 := gq_9 db00e_49 eb_20
noncomputable def d_X12_unfold_196 := gq_10 db00e_49 eb_36
noncomputable def d_X12_unfold_197 := gq_11 db00e_49 eb_38
noncomputable def d_X12_unfold_198 := gq_12 db00e_49 eb_39
noncomputable def d_X12_unfold_199 := gq_13 db00e_49 eb_0
noncomputable def d_X12_unfold_200 := gq_14 db00e_49 eb_1030
noncomputable def d_X12_unfold_203 := gq_15 db00e_49 eb_77
noncomputable def d_X12_unfold_205 := gq_16 db00e_49 eb_30
noncomputable def d_X12_unfold_206 := gq_17 db00e_49 eb_11
noncomputable def d_X12_unfold_207 := gq_18 db00e_49 eb_1031
noncomputable def d_X12_unfold_210 := gq_19 db00e_49 eb_0
noncomputable def d_X12_unfold_211 := gq_20 db00e_49 eb_990
noncomputable def d_X12_unfold_214 := gq_21 db00e_49 eb_0
noncomputable def d_X12_unfold_215 := gq_22 db00e_49 eb_1017
noncomputable def d_X12_unfold_218 := gq_23 db00e_49 eb_11
theorem db00e_50 : Pf_ prog_14_method_25_code [(219, [0x60]), (220, [0x2e]), (221, [0xa7, 0x00, 0x04]), (224, [0x03]), (225, [0x4f]), (226, [0x2a]), (227, [0x59]), (228, [0xb4, 0x01, 0x9a]), (231, [0x04]), (232, [0x60]), (233, [0xb5, 0x01, 0x9a]), (236, [0x2a]), (237, [0x59]), (238, [0xb4, 0x01, 0x93]), (241, [0x1d]), (242, [0x06]), (243, [0xa0, 0x00, 0x07]), (246, [0x04]), (247, [0xa7, 0x00, 0x0d]), (250, [0x1d]), (251, [0x05]), (252, [0xa0, 0x00, 0x07]), (255, [0x06]), (256, [0xa7, 0x00, 0x04])] := pf_ok prog_14_method_25_code _ 219 (by decide +kernel)
noncomputable def d_X12_unfold_219 := gq_0 db00e_50 eb_36
noncomputable def d_X12_unfold_220 := gq_1 db00e_50 eb_38
noncomputable def d_X12_unfold_221 := gq_2 db00e_50 eb_21
noncomputable def d_X12_unfold_224 := gq_3 db00e_50 eb_22
noncomputable def d_X12_unfold_225 := gq_4 db00e_50 eb_39
noncomputable def d_X12_unfold_226 := gq_5 db00e_50 eb_0
noncomputable def d_X12_unfold_227 := gq_6 db00e_50 eb_47
noncomputable def d_X12_unfold_228 := gq_7 db00e_50 eb_1024
noncomputable def d_X12_unfold_231 := gq_8 db00e_50 eb_20
noncomputable def d_X12_unfold_232 := gq_9 db00e_50 eb_36
noncomputable def d_X12_unfold_233 := gq_10 db00e_50 eb_1032
noncomputable def d_X12_unfold_236 := gq_11 db00e_50 eb_0
noncomputable def d_X12_unfold_237 := gq_12 db00e_50 eb_47
noncomputable def d_X12_unfold_238 := gq_13 db00e_50 eb_1017
noncomputable def d_X12_unfold_241 := gq_14 db00e_50 eb_30
noncomputable def d_X12_unfold_242 := gq_15 db00e_50 eb_55
noncomputable def d_X12_unfold_243 := gq_16 db00e_50 eb_136
noncomputable def d_X12_unfold_246 := gq_17 db00e_50 eb_20
noncomputable def d_X12_unfold_247 := gq_18 db00e_50 eb_141
noncomputable def d_X12_unfold_250 := gq_19 db00e_50 eb_30
noncomputable def d_X12_unfold_251 := gq_20 db00e_50 eb_11
noncomputable def d_X12_unfold_252 := gq_21 db00e_50 eb_136
noncomputable def d_X12_unfold_255 := gq_22 db00e_50 eb_55
noncomputable def d_X12_unfold_256 := gq_23 db00e_50 eb_21
theorem db00e_51 : Pf_ prog_14_method_25_code [(259, [0x05]), (260, [0x60]), (261, [0xb5, 0x01, 0x93]), (264, [0xa7, 0xfe, 0xfd]), (267, [0x04]), (268, [0xac])] := pf_ok prog_14_method_25_code _ 259 (by decide +kernel)
noncomputable def d_X12_unfold_259 := gq_0 db00e_51 eb_11
noncomputable def d_X12_unfold_260 := gq_1 db00e_51 eb_36
noncomputable def d_X12_unfold_261 := gq_2 db00e_51 eb_1016
noncomputable def d_X12_unfold_264 := gq_3 db00e_51 eb_1033
noncomputable def d_X12_unfold_267 := gq_4 db00e_51 eb_20
noncomputable def d_X12_unfold_268 := gq_5 db00e_51 eb_16
theorem db00e_52 : Pf_ prog_14_method_26_code [(0, [0x2a]), (1, [0xb4, 0x01, 0x9d]), (4, [0x10, 0x0c]), (6, [0x9f, 0x00, 0x0c]), (9, [0x2a]), (10, [0x03]), (11, [0xb6, 0x01, 0xa0]), (14, [0x02]), (15, [0x9f, 0x00, 0x05]), (18, [0x02]), (19, [0xac]), (20, [0x2a]), (21, [0x03]), (22, [0xb5, 0x01, 0x9a]), (25, [0x2a]), (26, [0x03]), (27, [0x04]), (28, [0xb6, 0x01, 0x96]), (31, [0x9a, 0x00, 0x05]), (34, [0x02]), (35, [0xac]), (36, [0x2a]), (37, [0xb4, 0x00, 0x5d]), (40, [0x2a])] := pf_ok prog_14_method_26_code _ 0 (by decide +kernel)
noncomputable def d_X12_beat_0 := gq_0 db00e_52 eb_0
noncomputable def d_X12_beat_1 := gq_1 db00e_52 eb_1025
noncomputable def d_X12_beat_4 := gq_2 db00e_52 eb_5
noncomputable def d_X12_beat_6 := gq_3 db00e_52 eb_549
noncomputable def d_X12_beat_9 := gq_4 db00e_52 eb_0
noncomputable def d_X12_beat_10 := gq_5 db00e_52 eb_22
noncomputable def d_X12_beat_11 := gq_6 db00e_52 eb_790
noncomputable def d_X12_beat_14 := gq_7 db00e_52 eb_27
noncomputable def d_X12_beat_15 := gq_8 db00e_52 eb_121
noncomputable def d_X12_beat_18 := gq_9 db00e_52 eb_27
noncomputable def d_X12_beat_19 := gq_10 db00e_52 eb_16
noncomputable def d_X12_beat_20 := gq_11 db00e_52 eb_0
noncomputable def d_X12_beat_21 := gq_12 db00e_52 eb_22
noncomputable def d_X12_beat_22 := gq_13 db00e_52 eb_1032
noncomputable def d_X12_beat_25 := gq_14 db00e_52 eb_0
noncomputable def d_X12_beat_26 := gq_15 db00e_52 eb_22
noncomputable def d_X12_beat_27 := gq_16 db00e_52 eb_20
noncomputable def d_X12_beat_28 := gq_17 db00e_52 eb_1021
noncomputable def d_X12_beat_31 := gq_18 db00e_52 eb_152
noncomputable def d_X12_beat_34 := gq_19 db00e_52 eb_27
noncomputable def d_X12_beat_35 := gq_20 db00e_52 eb_16
noncomputable def d_X12_beat_36 := gq_21 db00e_52 eb_0
noncomputable def d_X12_beat_37 := gq_22 db00e_52 eb_1034
noncomputable def d_X12_beat_40 := gq_23 db00e_52 eb_0
theorem db00e_53 : Pf_ prog_14_method_26_code [(41, [0xb4, 0x01, 0x9d]), (44, [0x2a]), (45, [0xb4, 0x01, 0x9a]), (48, [0x4f]), (49, [0x2a]), (50, [0x59]), (51, [0xb4, 0x01, 0x9d]), (54, [0x04]), (55, [0x60]), (56, [0xb5, 0x01, 0x9d]), (59, [0x2a]), (60, [0x03]), (61, [0xb5, 0x01, 0x6a]), (64, [0x2a]), (65, [0xb4, 0x01, 0x9d]), (68, [0x04]), (69, [0x64]), (70, [0xac])] := pf_ok prog_14_method_26_code _ 41 (by decide +kernel)
noncomputable def d_X12_beat_41 := gq_0 db00e_53 eb_1025
noncomputable def d_X12_beat_44 := gq_1 db00e_53 eb_0
noncomputable def d_X12_beat_45 := gq_2 db00e_53 eb_1024
noncomputable def d_X12_beat_48 := gq_3 db00e_53 eb_39
noncomputable def d_X12_beat_49 := gq_4 db00e_53 eb_0
noncomputable def d_X12_beat_50 := gq_5 db00e_53 eb_47
noncomputable def d_X12_beat_51 := gq_6 db00e_53 eb_1025
noncomputable def d_X12_beat_54 := gq_7 db00e_53 eb_20
noncomputable def d_X12_beat_55 := gq_8 db00e_53 eb_36
noncomputable def d_X12_beat_56 := gq_9 db00e_53 eb_1035
noncomputable def d_X12_beat_59 := gq_10 db00e_53 eb_0
noncomputable def d_X12_beat_60 := gq_11 db00e_53 eb_22
noncomputable def d_X12_beat_61 := gq_12 db00e_53 eb_983
noncomputable def d_X12_beat_64 := gq_13 db00e_53 eb_0
noncomputable def d_X12_beat_65 := gq_14 db00e_53 eb_1025
noncomputable def d_X12_beat_68 := gq_15 db00e_53 eb_20
noncomputable def d_X12_beat_69 := gq_16 db00e_53 eb_49
noncomputable def d_X12_beat_70 := gq_17 db00e_53 eb_16
theorem db00e_54 : Pf_ prog_14_method_27_code [(0, [0x03]), (1, [0x3d]), (2, [0x11, 0x00, 0x96]), (5, [0x1b]), (6, [0x68]), (7, [0x3e]), (8, [0x1d]), (9, [0x11, 0x00, 0x96]), (12, [0x1b]), (13, [0x68]), (14, [0x2a]), (15, [0xb4, 0x00, 0x5d]), (18, [0x1b]), (19, [0x2e]), (20, [0x60]), (21, [0xa2, 0x00, 0x1b]), (24, [0x1c]), (25, [0x2a]), (26, [0xb4, 0x00, 0x60]), (29, [0x1d]), (30, [0x2e]), (31, [0x05]), (32, [0xa0, 0x00, 0x07]), (35, [0x04])] := pf_ok prog_14_method_27_code _ 0 (by decide +kernel)
noncomputable def d_X12_pointsOf_0 := gq_0 db00e_54 eb_22
noncomputable def d_X12_pointsOf_1 := gq_1 db00e_54 eb_28
noncomputable def d_X12_pointsOf_2 := gq_2 db00e_54 eb_34
noncomputable def d_X12_pointsOf_5 := gq_3 db00e_54 eb_10
noncomputable def d_X12_pointsOf_6 := gq_4 db00e_54 eb_35
noncomputable def d_X12_pointsOf_7 := gq_5 db00e_54 eb_29
noncomputable def d_X12_pointsOf_8 := gq_6 db00e_54 eb_30
noncomputable def d_X12_pointsOf_9 := gq_7 db00e_54 eb_34
noncomputable def d_X12_pointsOf_12 := gq_8 db00e_54 eb_10
noncomputable def d_X12_pointsOf_13 := gq_9 db00e_54 eb_35
noncomputable def d_X12_pointsOf_14 := gq_10 db00e_54 eb_0
noncomputable def d_X12_pointsOf_15 := gq_11 db00e_54 eb_1034
noncomputable def d_X12_pointsOf_18 := gq_12 db00e_54 eb_10
noncomputable def d_X12_pointsOf_19 := gq_13 db00e_54 eb_38
noncomputable def d_X12_pointsOf_20 := gq_14 db00e_54 eb_36
noncomputable def d_X12_pointsOf_21 := gq_15 db00e_54 eb_339
noncomputable def d_X12_pointsOf_24 := gq_16 db00e_54 eb_14
noncomputable def d_X12_pointsOf_25 := gq_17 db00e_54 eb_0
noncomputable def d_X12_pointsOf_26 := gq_18 db00e_54 eb_1027
noncomputable def d_X12_pointsOf_29 := gq_19 db00e_54 eb_30
noncomputable def d_X12_pointsOf_30 := gq_20 db00e_54 eb_38
noncomputable def d_X12_pointsOf_31 := gq_21 db00e_54 eb_11
noncomputable def d_X12_pointsOf_32 := gq_22 db00e_54 eb_136
noncomputable def d_X12_pointsOf_35 := gq_23 db00e_54 eb_20
theorem db00e_55 : Pf_ prog_14_method_27_code [(36, [0xa7, 0x00, 0x04]), (39, [0x03]), (40, [0x60]), (41, [0x3d]), (42, [0x84, 0x03, 0x01]), (45, [0xa7, 0xff, 0xdb]), (48, [0x1c]), (49, [0xac])] := pf_ok prog_14_method_27_code _ 36 (by decide +kernel)
noncomputable def d_X12_pointsOf_36 := gq_0 db00e_55 eb_21
noncomputable def d_X12_pointsOf_39 := gq_1 db00e_55 eb_22
noncomputable def d_X12_pointsOf_40 := gq_2 db00e_55 eb_36
noncomputable def d_X12_pointsOf_41 := gq_3 db00e_55 eb_28
noncomputable def d_X12_pointsOf_42 := gq_4 db00e_55 eb_43
noncomputable def d_X12_pointsOf_45 := gq_5 db00e_55 eb_445
noncomputable def d_X12_pointsOf_48 := gq_6 db00e_55 eb_14
noncomputable def d_X12_pointsOf_49 := gq_7 db00e_55 eb_16
theorem db00e_56 : Pf_ prog_14_method_28_code [(0, [0x1b]), (1, [0x03]), (2, [0x2a]), (3, [0xb4, 0x01, 0x9d]), (6, [0x04]), (7, [0x64]), (8, [0xb8, 0x01, 0x43]), (11, [0x99, 0x00, 0x0c]), (14, [0x1c]), (15, [0x03]), (16, [0x04]), (17, [0xb8, 0x01, 0x43]), (20, [0x9a, 0x00, 0x05]), (23, [0x02]), (24, [0xac]), (25, [0x1c]), (26, [0x9a, 0x00, 0x0c]), (29, [0x2a]), (30, [0xb4, 0x00, 0x5d]), (33, [0x1b]), (34, [0x2e]), (35, [0xa7, 0x00, 0x08]), (38, [0x2a]), (39, [0x1b])] := pf_ok prog_14_method_28_code _ 0 (by decide +kernel)
noncomputable def d_X12_beaten_0 := gq_0 db00e_56 eb_10
noncomputable def d_X12_beaten_1 := gq_1 db00e_56 eb_22
noncomputable def d_X12_beaten_2 := gq_2 db00e_56 eb_0
noncomputable def d_X12_beaten_3 := gq_3 db00e_56 eb_1025
noncomputable def d_X12_beaten_6 := gq_4 db00e_56 eb_20
noncomputable def d_X12_beaten_7 := gq_5 db00e_56 eb_49
noncomputable def d_X12_beaten_8 := gq_6 db00e_56 eb_951
noncomputable def d_X12_beaten_11 := gq_7 db00e_56 eb_51
noncomputable def d_X12_beaten_14 := gq_8 db00e_56 eb_14
noncomputable def d_X12_beaten_15 := gq_9 db00e_56 eb_22
noncomputable def d_X12_beaten_16 := gq_10 db00e_56 eb_20
noncomputable def d_X12_beaten_17 := gq_11 db00e_56 eb_951
noncomputable def d_X12_beaten_20 := gq_12 db00e_56 eb_152
noncomputable def d_X12_beaten_23 := gq_13 db00e_56 eb_27
noncomputable def d_X12_beaten_24 := gq_14 db00e_56 eb_16
noncomputable def d_X12_beaten_25 := gq_15 db00e_56 eb_14
noncomputable def d_X12_beaten_26 := gq_16 db00e_56 eb_716
noncomputable def d_X12_beaten_29 := gq_17 db00e_56 eb_0
noncomputable def d_X12_beaten_30 := gq_18 db00e_56 eb_1034
noncomputable def d_X12_beaten_33 := gq_19 db00e_56 eb_10
noncomputable def d_X12_beaten_34 := gq_20 db00e_56 eb_38
noncomputable def d_X12_beaten_35 := gq_21 db00e_56 eb_505
noncomputable def d_X12_beaten_38 := gq_22 db00e_56 eb_0
noncomputable def d_X12_beaten_39 := gq_23 db00e_56 eb_10
theorem db00e_57 : Pf_ prog_14_method_28_code [(40, [0xb6, 0x01, 0xa4]), (43, [0xac])] := pf_ok prog_14_method_28_code _ 40 (by decide +kernel)
noncomputable def d_X12_beaten_40 := gq_0 db00e_57 eb_1036
noncomputable def d_X12_beaten_43 := gq_1 db00e_57 eb_16
theorem d_X12_isLetter_1 : decode prog_14_method_29_code 1 = .ok (.tableswitch 139 97 121 #[128, 139, 115, 117, 117, 139, 139, 117, 139, 139, 117, 139, 128, 117, 139, 117, 139, 139, 139, 115, 139, 139, 117, 128, 128], 115) := by decide +kernel
theorem db00e_58 : Pf_ prog_14_method_29_code [(0, [0x1a]), (116, [0x04]), (117, [0xac]), (118, [0x1b]), (119, [0x04]), (120, [0xa0, 0x00, 0x07]), (123, [0x04]), (124, [0xa7, 0x00, 0x04]), (127, [0x03]), (128, [0xac]), (129, [0x1b]), (130, [0x05]), (131, [0xa0, 0x00, 0x07]), (134, [0x04]), (135, [0xa7, 0x00, 0x04]), (138, [0x03]), (139, [0xac]), (140, [0x03]), (141, [0xac])] := pf_ok prog_14_method_29_code _ 0 (by decide +kernel)
noncomputable def d_X12_isLetter_0 := gq_0 db00e_58 eb_9
noncomputable def d_X12_isLetter_116 := gq_1 db00e_58 eb_20
noncomputable def d_X12_isLetter_117 := gq_2 db00e_58 eb_16
noncomputable def d_X12_isLetter_118 := gq_3 db00e_58 eb_10
noncomputable def d_X12_isLetter_119 := gq_4 db00e_58 eb_20
noncomputable def d_X12_isLetter_120 := gq_5 db00e_58 eb_136
noncomputable def d_X12_isLetter_123 := gq_6 db00e_58 eb_20
noncomputable def d_X12_isLetter_124 := gq_7 db00e_58 eb_21
noncomputable def d_X12_isLetter_127 := gq_8 db00e_58 eb_22
noncomputable def d_X12_isLetter_128 := gq_9 db00e_58 eb_16
noncomputable def d_X12_isLetter_129 := gq_10 db00e_58 eb_10
noncomputable def d_X12_isLetter_130 := gq_11 db00e_58 eb_11
noncomputable def d_X12_isLetter_131 := gq_12 db00e_58 eb_136
noncomputable def d_X12_isLetter_134 := gq_13 db00e_58 eb_20
noncomputable def d_X12_isLetter_135 := gq_14 db00e_58 eb_21
noncomputable def d_X12_isLetter_138 := gq_15 db00e_58 eb_22
noncomputable def d_X12_isLetter_139 := gq_16 db00e_58 eb_16
noncomputable def d_X12_isLetter_140 := gq_17 db00e_58 eb_22
noncomputable def d_X12_isLetter_141 := gq_18 db00e_58 eb_16
theorem db00e_59 : Pf_ prog_14_method_30_code [(0, [0x2a]), (1, [0xb4, 0x01, 0x8d]), (4, [0x10, 0x06]), (6, [0xa0, 0x00, 0x09]), (9, [0x2a]), (10, [0xb6, 0x01, 0x7d]), (13, [0x03]), (14, [0xac]), (15, [0x2a]), (16, [0x59]), (17, [0xb4, 0x01, 0x8d]), (20, [0x04]), (21, [0x60]), (22, [0xb5, 0x01, 0x8d]), (25, [0x2a]), (26, [0x59]), (27, [0xb4, 0x01, 0x6d]), (30, [0x04]), (31, [0x60]), (32, [0xb5, 0x01, 0x6d]), (35, [0x04]), (36, [0xac])] := pf_ok prog_14_method_30_code _ 0 (by decide +kernel)
noncomputable def d_X12_opens_0 := gq_0 db00e_59 eb_0
noncomputable def d_X12_opens_1 := gq_1 db00e_59 eb_1012
noncomputable def d_X12_opens_4 := gq_2 db00e_59 eb_15
noncomputable def d_X12_opens_6 := gq_3 db00e_59 eb_160
noncomputable def d_X12_opens_9 := gq_4 db00e_59 eb_0
noncomputable def d_X12_opens_10 := gq_5 db00e_59 eb_996
noncomputable def d_X12_opens_13 := gq_6 db00e_59 eb_22
noncomputable def d_X12_opens_14 := gq_7 db00e_59 eb_16
noncomputable def d_X12_opens_15 := gq_8 db00e_59 eb_0
noncomputable def d_X12_opens_16 := gq_9 db00e_59 eb_47
noncomputable def d_X12_opens_17 := gq_10 db00e_59 eb_1012
noncomputable def d_X12_opens_20 := gq_11 db00e_59 eb_20
noncomputable def d_X12_opens_21 := gq_12 db00e_59 eb_36
noncomputable def d_X12_opens_22 := gq_13 db00e_59 eb_1014
noncomputable def d_X12_opens_25 := gq_14 db00e_59 eb_0
noncomputable def d_X12_opens_26 := gq_15 db00e_59 eb_47
noncomputable def d_X12_opens_27 := gq_16 db00e_59 eb_986
noncomputable def d_X12_opens_30 := gq_17 db00e_59 eb_20
noncomputable def d_X12_opens_31 := gq_18 db00e_59 eb_36
noncomputable def d_X12_opens_32 := gq_19 db00e_59 eb_987
noncomputable def d_X12_opens_35 := gq_20 db00e_59 eb_20
noncomputable def d_X12_opens_36 := gq_21 db00e_59 eb_16
theorem db00e_60 : Pf_ prog_14_method_31_code [(0, [0x2a]), (1, [0xb4, 0x01, 0x70]), (4, [0x02]), (5, [0xa0, 0x00, 0x0f]), (8, [0x2a]), (9, [0xb6, 0x01, 0x76]), (12, [0x1b]), (13, [0x9f, 0x00, 0x07]), (16, [0x2a]), (17, [0xb6, 0x01, 0x7d]), (20, [0x2a]), (21, [0x59]), (22, [0xb4, 0x01, 0x6d]), (25, [0x04]), (26, [0x60]), (27, [0xb5, 0x01, 0x6d]), (30, [0x2a]), (31, [0x59]), (32, [0xb4, 0x01, 0x8d]), (35, [0x04]), (36, [0x64]), (37, [0xb5, 0x01, 0x8d]), (40, [0xb1])] := pf_ok prog_14_method_31_code _ 0 (by decide +kernel)
noncomputable def d_X12_closes_0 := gq_0 db00e_60 eb_0
noncomputable def d_X12_closes_1 := gq_1 db00e_60 eb_988
noncomputable def d_X12_closes_4 := gq_2 db00e_60 eb_27
noncomputable def d_X12_closes_5 := gq_3 db00e_60 eb_368
noncomputable def d_X12_closes_8 := gq_4 db00e_60 eb_0
noncomputable def d_X12_closes_9 := gq_5 db00e_60 eb_993
noncomputable def d_X12_closes_12 := gq_6 db00e_60 eb_10
noncomputable def d_X12_closes_13 := gq_7 db00e_60 eb_557
noncomputable def d_X12_closes_16 := gq_8 db00e_60 eb_0
noncomputable def d_X12_closes_17 := gq_9 db00e_60 eb_996
noncomputable def d_X12_closes_20 := gq_10 db00e_60 eb_0
noncomputable def d_X12_closes_21 := gq_11 db00e_60 eb_47
noncomputable def d_X12_closes_22 := gq_12 db00e_60 eb_986
noncomputable def d_X12_closes_25 := gq_13 db00e_60 eb_20
noncomputable def d_X12_closes_26 := gq_14 db00e_60 eb_36
noncomputable def d_X12_closes_27 := gq_15 db00e_60 eb_987
noncomputable def d_X12_closes_30 := gq_16 db00e_60 eb_0
noncomputable def d_X12_closes_31 := gq_17 db00e_60 eb_47
noncomputable def d_X12_closes_32 := gq_18 db00e_60 eb_1012
noncomputable def d_X12_closes_35 := gq_19 db00e_60 eb_20
noncomputable def d_X12_closes_36 := gq_20 db00e_60 eb_49
noncomputable def d_X12_closes_37 := gq_21 db00e_60 eb_1014
noncomputable def d_X12_closes_40 := gq_22 db00e_60 eb_8
theorem db00e_61 : Pf_ prog_14_method_32_code [(0, [0x2a]), (1, [0xb6, 0x01, 0x76]), (4, [0x3c]), (5, [0x1b]), (6, [0x10, 0x5b]), (8, [0xa0, 0x00, 0x17]), (11, [0x2a]), (12, [0xb6, 0x01, 0xa7]), (15, [0x99, 0x00, 0x41]), (18, [0x2a]), (19, [0xb6, 0x01, 0xab]), (22, [0x2a]), (23, [0x10, 0x5d]), (25, [0xb6, 0x01, 0xae]), (28, [0xa7, 0x00, 0x34]), (31, [0x1b]), (32, [0x2a]), (33, [0xb4, 0x01, 0xb1]), (36, [0xb8, 0x01, 0xb4]), (39, [0x99, 0x00, 0x1a]), (42, [0x2a]), (43, [0x59]), (44, [0xb4, 0x01, 0x6d]), (47, [0x04])] := pf_ok prog_14_method_32_code _ 0 (by decide +kernel)
noncomputable def d_X12_atom_0 := gq_0 db00e_61 eb_0
noncomputable def d_X12_atom_1 := gq_1 db00e_61 eb_993
noncomputable def d_X12_atom_4 := gq_2 db00e_61 eb_225
noncomputable def d_X12_atom_5 := gq_3 db00e_61 eb_10
noncomputable def d_X12_atom_6 := gq_4 db00e_61 eb_558
noncomputable def d_X12_atom_8 := gq_5 db00e_61 eb_1037
noncomputable def d_X12_atom_11 := gq_6 db00e_61 eb_0
noncomputable def d_X12_atom_12 := gq_7 db00e_61 eb_792
noncomputable def d_X12_atom_15 := gq_8 db00e_61 eb_1026
noncomputable def d_X12_atom_18 := gq_9 db00e_61 eb_0
noncomputable def d_X12_atom_19 := gq_10 db00e_61 eb_1038
noncomputable def d_X12_atom_22 := gq_11 db00e_61 eb_0
noncomputable def d_X12_atom_23 := gq_12 db00e_61 eb_559
noncomputable def d_X12_atom_25 := gq_13 db00e_61 eb_796
noncomputable def d_X12_atom_28 := gq_14 db00e_61 eb_1039
noncomputable def d_X12_atom_31 := gq_15 db00e_61 eb_10
noncomputable def d_X12_atom_32 := gq_16 db00e_61 eb_0
noncomputable def d_X12_atom_33 := gq_17 db00e_61 eb_1040
noncomputable def d_X12_atom_36 := gq_18 db00e_61 eb_1041
noncomputable def d_X12_atom_39 := gq_19 db00e_61 eb_280
noncomputable def d_X12_atom_42 := gq_20 db00e_61 eb_0
noncomputable def d_X12_atom_43 := gq_21 db00e_61 eb_47
noncomputable def d_X12_atom_44 := gq_22 db00e_61 eb_986
noncomputable def d_X12_atom_47 := gq_23 db00e_61 eb_20
theorem db00e_62 : Pf_ prog_14_method_32_code [(48, [0x60]), (49, [0xb5, 0x01, 0x6d]), (52, [0x2a]), (53, [0x04]), (54, [0xb6, 0x01, 0x86]), (57, [0x2a]), (58, [0x1b]), (59, [0xb6, 0x01, 0x86]), (62, [0xa7, 0x00, 0x12]), (65, [0x2a]), (66, [0xb6, 0x01, 0x80]), (69, [0x3d]), (70, [0x2a]), (71, [0x03]), (72, [0xb6, 0x01, 0x86]), (75, [0x2a]), (76, [0x1c]), (77, [0xb6, 0x01, 0x86]), (80, [0xb1])] := pf_ok prog_14_method_32_code _ 48 (by decide +kernel)
noncomputable def d_X12_atom_48 := gq_0 db00e_62 eb_36
noncomputable def d_X12_atom_49 := gq_1 db00e_62 eb_987
noncomputable def d_X12_atom_52 := gq_2 db00e_62 eb_0
noncomputable def d_X12_atom_53 := gq_3 db00e_62 eb_20
noncomputable def d_X12_atom_54 := gq_4 db00e_62 eb_1000
noncomputable def d_X12_atom_57 := gq_5 db00e_62 eb_0
noncomputable def d_X12_atom_58 := gq_6 db00e_62 eb_10
noncomputable def d_X12_atom_59 := gq_7 db00e_62 eb_1000
noncomputable def d_X12_atom_62 := gq_8 db00e_62 eb_157
noncomputable def d_X12_atom_65 := gq_9 db00e_62 eb_0
noncomputable def d_X12_atom_66 := gq_10 db00e_62 eb_997
noncomputable def d_X12_atom_69 := gq_11 db00e_62 eb_28
noncomputable def d_X12_atom_70 := gq_12 db00e_62 eb_0
noncomputable def d_X12_atom_71 := gq_13 db00e_62 eb_22
noncomputable def d_X12_atom_72 := gq_14 db00e_62 eb_1000
noncomputable def d_X12_atom_75 := gq_15 db00e_62 eb_0
noncomputable def d_X12_atom_76 := gq_16 db00e_62 eb_14
noncomputable def d_X12_atom_77 := gq_17 db00e_62 eb_1000
noncomputable def d_X12_atom_80 := gq_18 db00e_62 eb_8
theorem db00e_63 : Pf_ prog_14_method_33_code [(0, [0x2a]), (1, [0xb6, 0x01, 0xb8]), (4, [0x2a]), (5, [0xb4, 0x01, 0x70]), (8, [0x02]), (9, [0xa0, 0x00, 0x23]), (12, [0x2a]), (13, [0xb6, 0x01, 0x76]), (16, [0x10, 0x2a]), (18, [0xa0, 0x00, 0x1a]), (21, [0x2a]), (22, [0x59]), (23, [0xb4, 0x01, 0x6d]), (26, [0x04]), (27, [0x60]), (28, [0xb5, 0x01, 0x6d]), (31, [0x2a]), (32, [0xb6, 0x01, 0xb8]), (35, [0x2a]), (36, [0x10, 0x2a]), (38, [0xb6, 0x01, 0x86]), (41, [0xa7, 0xff, 0xdb]), (44, [0xb1])] := pf_ok prog_14_method_33_code _ 0 (by decide +kernel)
noncomputable def d_X12_term_0 := gq_0 db00e_63 eb_0
noncomputable def d_X12_term_1 := gq_1 db00e_63 eb_1042
noncomputable def d_X12_term_4 := gq_2 db00e_63 eb_0
noncomputable def d_X12_term_5 := gq_3 db00e_63 eb_988
noncomputable def d_X12_term_8 := gq_4 db00e_63 eb_27
noncomputable def d_X12_term_9 := gq_5 db00e_63 eb_512
noncomputable def d_X12_term_12 := gq_6 db00e_63 eb_0
noncomputable def d_X12_term_13 := gq_7 db00e_63 eb_993
noncomputable def d_X12_term_16 := gq_8 db00e_63 eb_554
noncomputable def d_X12_term_18 := gq_9 db00e_63 eb_282
noncomputable def d_X12_term_21 := gq_10 db00e_63 eb_0
noncomputable def d_X12_term_22 := gq_11 db00e_63 eb_47
noncomputable def d_X12_term_23 := gq_12 db00e_63 eb_986
noncomputable def d_X12_term_26 := gq_13 db00e_63 eb_20
noncomputable def d_X12_term_27 := gq_14 db00e_63 eb_36
noncomputable def d_X12_term_28 := gq_15 db00e_63 eb_987
noncomputable def d_X12_term_31 := gq_16 db00e_63 eb_0
noncomputable def d_X12_term_32 := gq_17 db00e_63 eb_1042
noncomputable def d_X12_term_35 := gq_18 db00e_63 eb_0
noncomputable def d_X12_term_36 := gq_19 db00e_63 eb_554
noncomputable def d_X12_term_38 := gq_20 db00e_63 eb_1000
noncomputable def d_X12_term_41 := gq_21 db00e_63 eb_445
noncomputable def d_X12_term_44 := gq_22 db00e_63 eb_8
theorem db00e_64 : Pf_ prog_14_method_34_code [(0, [0x2a]), (1, [0xb6, 0x01, 0xbb]), (4, [0x2a]), (5, [0xb6, 0x01, 0x76]), (8, [0x3c]), (9, [0x2a]), (10, [0xb4, 0x01, 0x70]), (13, [0x02]), (14, [0xa0, 0x00, 0x2a]), (17, [0x1b]), (18, [0x10, 0x2b]), (20, [0x9f, 0x00, 0x09]), (23, [0x1b]), (24, [0x10, 0x2d]), (26, [0xa0, 0x00, 0x1e]), (29, [0x2a]), (30, [0x59]), (31, [0xb4, 0x01, 0x6d]), (34, [0x04]), (35, [0x60]), (36, [0xb5, 0x01, 0x6d]), (39, [0x2a]), (40, [0xb6, 0x01, 0xbb]), (43, [0x2a])] := pf_ok prog_14_method_34_code _ 0 (by decide +kernel)
noncomputable def d_X12_sum_0 := gq_0 db00e_64 eb_0
noncomputable def d_X12_sum_1 := gq_1 db00e_64 eb_1043
noncomputable def d_X12_sum_4 := gq_2 db00e_64 eb_0
noncomputable def d_X12_sum_5 := gq_3 db00e_64 eb_993
noncomputable def d_X12_sum_8 := gq_4 db00e_64 eb_225
noncomputable def d_X12_sum_9 := gq_5 db00e_64 eb_0
noncomputable def d_X12_sum_10 := gq_6 db00e_64 eb_988
noncomputable def d_X12_sum_13 := gq_7 db00e_64 eb_27
noncomputable def d_X12_sum_14 := gq_8 db00e_64 eb_1044
noncomputable def d_X12_sum_17 := gq_9 db00e_64 eb_10
noncomputable def d_X12_sum_18 := gq_10 db00e_64 eb_548
noncomputable def d_X12_sum_20 := gq_11 db00e_64 eb_448
noncomputable def d_X12_sum_23 := gq_12 db00e_64 eb_10
noncomputable def d_X12_sum_24 := gq_13 db00e_64 eb_550
noncomputable def d_X12_sum_26 := gq_14 db00e_64 eb_255
noncomputable def d_X12_sum_29 := gq_15 db00e_64 eb_0
noncomputable def d_X12_sum_30 := gq_16 db00e_64 eb_47
noncomputable def d_X12_sum_31 := gq_17 db00e_64 eb_986
noncomputable def d_X12_sum_34 := gq_18 db00e_64 eb_20
noncomputable def d_X12_sum_35 := gq_19 db00e_64 eb_36
noncomputable def d_X12_sum_36 := gq_20 db00e_64 eb_987
noncomputable def d_X12_sum_39 := gq_21 db00e_64 eb_0
noncomputable def d_X12_sum_40 := gq_22 db00e_64 eb_1043
noncomputable def d_X12_sum_43 := gq_23 db00e_64 eb_0
theorem db00e_65 : Pf_ prog_14_method_34_code [(44, [0x1b]), (45, [0xb6, 0x01, 0x86]), (48, [0x2a]), (49, [0xb6, 0x01, 0x76]), (52, [0x3c]), (53, [0xa7, 0xff, 0xd4]), (56, [0xb1])] := pf_ok prog_14_method_34_code _ 44 (by decide +kernel)
noncomputable def d_X12_sum_44 := gq_0 db00e_65 eb_10
noncomputable def d_X12_sum_45 := gq_1 db00e_65 eb_1000
noncomputable def d_X12_sum_48 := gq_2 db00e_65 eb_0
noncomputable def d_X12_sum_49 := gq_3 db00e_65 eb_993
noncomputable def d_X12_sum_52 := gq_4 db00e_65 eb_225
noncomputable def d_X12_sum_53 := gq_5 db00e_65 eb_1045
noncomputable def d_X12_sum_56 := gq_6 db00e_65 eb_8
theorem db00e_66 : Pf_ prog_14_method_35_code [(0, [0x1a]), (1, [0x10, 0x3d]), (3, [0x9f, 0x00, 0x0f]), (6, [0x1a]), (7, [0x10, 0x3c]), (9, [0x9f, 0x00, 0x09]), (12, [0x1a]), (13, [0x10, 0x3e]), (15, [0xa0, 0x00, 0x07]), (18, [0x04]), (19, [0xa7, 0x00, 0x04]), (22, [0x03]), (23, [0xac])] := pf_ok prog_14_method_35_code _ 0 (by decide +kernel)
noncomputable def d_X12_isSign_0 := gq_0 db00e_66 eb_9
noncomputable def d_X12_isSign_1 := gq_1 db00e_66 eb_540
noncomputable def d_X12_isSign_3 := gq_2 db00e_66 eb_541
noncomputable def d_X12_isSign_6 := gq_3 db00e_66 eb_9
noncomputable def d_X12_isSign_7 := gq_4 db00e_66 eb_293
noncomputable def d_X12_isSign_9 := gq_5 db00e_66 eb_448
noncomputable def d_X12_isSign_12 := gq_6 db00e_66 eb_9
noncomputable def d_X12_isSign_13 := gq_7 db00e_66 eb_542
noncomputable def d_X12_isSign_15 := gq_8 db00e_66 eb_136
noncomputable def d_X12_isSign_18 := gq_9 db00e_66 eb_20
noncomputable def d_X12_isSign_19 := gq_10 db00e_66 eb_21
noncomputable def d_X12_isSign_22 := gq_11 db00e_66 eb_22
noncomputable def d_X12_isSign_23 := gq_12 db00e_66 eb_16
theorem db00e_67 : Pf_ prog_14_method_36_code [(0, [0x2a]), (1, [0xb4, 0x01, 0x70]), (4, [0x02]), (5, [0xa0, 0x00, 0x0a]), (8, [0x2a]), (9, [0xb6, 0x01, 0x76]), (12, [0xa7, 0x00, 0x04]), (15, [0x02]), (16, [0x3c]), (17, [0x1b]), (18, [0xb8, 0x01, 0xbe]), (21, [0x9a, 0x00, 0x08]), (24, [0x2a]), (25, [0xb6, 0x01, 0x7d]), (28, [0xb1]), (29, [0x2a]), (30, [0x59]), (31, [0xb4, 0x01, 0x6d]), (34, [0x04]), (35, [0x60]), (36, [0xb5, 0x01, 0x6d]), (39, [0x2a]), (40, [0xb6, 0x01, 0xab]), (43, [0x2a])] := pf_ok prog_14_method_36_code _ 0 (by decide +kernel)
noncomputable def d_X12_compare_0 := gq_0 db00e_67 eb_0
noncomputable def d_X12_compare_1 := gq_1 db00e_67 eb_988
noncomputable def d_X12_compare_4 := gq_2 db00e_67 eb_27
noncomputable def d_X12_compare_5 := gq_3 db00e_67 eb_262
noncomputable def d_X12_compare_8 := gq_4 db00e_67 eb_0
noncomputable def d_X12_compare_9 := gq_5 db00e_67 eb_993
noncomputable def d_X12_compare_12 := gq_6 db00e_67 eb_21
noncomputable def d_X12_compare_15 := gq_7 db00e_67 eb_27
noncomputable def d_X12_compare_16 := gq_8 db00e_67 eb_225
noncomputable def d_X12_compare_17 := gq_9 db00e_67 eb_10
noncomputable def d_X12_compare_18 := gq_10 db00e_67 eb_1046
noncomputable def d_X12_compare_21 := gq_11 db00e_67 eb_543
noncomputable def d_X12_compare_24 := gq_12 db00e_67 eb_0
noncomputable def d_X12_compare_25 := gq_13 db00e_67 eb_996
noncomputable def d_X12_compare_28 := gq_14 db00e_67 eb_8
noncomputable def d_X12_compare_29 := gq_15 db00e_67 eb_0
noncomputable def d_X12_compare_30 := gq_16 db00e_67 eb_47
noncomputable def d_X12_compare_31 := gq_17 db00e_67 eb_986
noncomputable def d_X12_compare_34 := gq_18 db00e_67 eb_20
noncomputable def d_X12_compare_35 := gq_19 db00e_67 eb_36
noncomputable def d_X12_compare_36 := gq_20 db00e_67 eb_987
noncomputable def d_X12_compare_39 := gq_21 db00e_67 eb_0
noncomputable def d_X12_compare_40 := gq_22 db00e_67 eb_1038
noncomputable def d_X12_compare_43 := gq_23 db00e_67 eb_0
theorem db00e_68 : Pf_ prog_14_method_36_code [(44, [0x1b]), (45, [0xb6, 0x01, 0x86]), (48, [0xb1])] := pf_ok prog_14_method_36_code _ 44 (by decide +kernel)
noncomputable def d_X12_compare_44 := gq_0 db00e_68 eb_10
noncomputable def d_X12_compare_45 := gq_1 db00e_68 eb_1000
noncomputable def d_X12_compare_48 := gq_2 db00e_68 eb_8
theorem db00e_69 : Pf_ prog_14_method_37_code [(0, [0x2a]), (1, [0xb6, 0x01, 0x76]), (4, [0x3c]), (5, [0x1b]), (6, [0x10, 0x21]), (8, [0xa0, 0x00, 0x21]), (11, [0x2a]), (12, [0xb6, 0x01, 0xa7]), (15, [0x99, 0x00, 0x3d]), (18, [0x2a]), (19, [0xb6, 0x01, 0xc1]), (22, [0x2a]), (23, [0x59]), (24, [0xb4, 0x01, 0x8d]), (27, [0x04]), (28, [0x64]), (29, [0xb5, 0x01, 0x8d]), (32, [0x2a]), (33, [0x10, 0x21]), (35, [0xb6, 0x01, 0x86]), (38, [0xa7, 0x00, 0x26]), (41, [0x1b]), (42, [0x10, 0x28]), (44, [0xa0, 0x00, 0x18])] := pf_ok prog_14_method_37_code _ 0 (by decide +kernel)
noncomputable def d_X12_unit_0 := gq_0 db00e_69 eb_0
noncomputable def d_X12_unit_1 := gq_1 db00e_69 eb_993
noncomputable def d_X12_unit_4 := gq_2 db00e_69 eb_225
noncomputable def d_X12_unit_5 := gq_3 db00e_69 eb_10
noncomputable def d_X12_unit_6 := gq_4 db00e_69 eb_521
noncomputable def d_X12_unit_8 := gq_5 db00e_69 eb_536
noncomputable def d_X12_unit_11 := gq_6 db00e_69 eb_0
noncomputable def d_X12_unit_12 := gq_7 db00e_69 eb_792
noncomputable def d_X12_unit_15 := gq_8 db00e_69 eb_1047
noncomputable def d_X12_unit_18 := gq_9 db00e_69 eb_0
noncomputable def d_X12_unit_19 := gq_10 db00e_69 eb_1048
noncomputable def d_X12_unit_22 := gq_11 db00e_69 eb_0
noncomputable def d_X12_unit_23 := gq_12 db00e_69 eb_47
noncomputable def d_X12_unit_24 := gq_13 db00e_69 eb_1012
noncomputable def d_X12_unit_27 := gq_14 db00e_69 eb_20
noncomputable def d_X12_unit_28 := gq_15 db00e_69 eb_49
noncomputable def d_X12_unit_29 := gq_16 db00e_69 eb_1014
noncomputable def d_X12_unit_32 := gq_17 db00e_69 eb_0
noncomputable def d_X12_unit_33 := gq_18 db00e_69 eb_521
noncomputable def d_X12_unit_35 := gq_19 db00e_69 eb_1000
noncomputable def d_X12_unit_38 := gq_20 db00e_69 eb_978
noncomputable def d_X12_unit_41 := gq_21 db00e_69 eb_10
noncomputable def d_X12_unit_42 := gq_22 db00e_69 eb_317
noncomputable def d_X12_unit_44 := gq_23 db00e_69 eb_522
theorem db00e_70 : Pf_ prog_14_method_37_code [(47, [0x2a]), (48, [0xb6, 0x01, 0xa7]), (51, [0x99, 0x00, 0x19]), (54, [0x2a]), (55, [0x03]), (56, [0xb6, 0x01, 0xc4]), (59, [0x2a]), (60, [0x10, 0x29]), (62, [0xb6, 0x01, 0xae]), (65, [0xa7, 0x00, 0x0b]), (68, [0x2a]), (69, [0xb6, 0x01, 0xab]), (72, [0x2a]), (73, [0xb6, 0x01, 0xc8]), (76, [0xb1])] := pf_ok prog_14_method_37_code _ 47 (by decide +kernel)
noncomputable def d_X12_unit_47 := gq_0 db00e_70 eb_0
noncomputable def d_X12_unit_48 := gq_1 db00e_70 eb_792
noncomputable def d_X12_unit_51 := gq_2 db00e_70 eb_296
noncomputable def d_X12_unit_54 := gq_3 db00e_70 eb_0
noncomputable def d_X12_unit_55 := gq_4 db00e_70 eb_22
noncomputable def d_X12_unit_56 := gq_5 db00e_70 eb_1049
noncomputable def d_X12_unit_59 := gq_6 db00e_70 eb_0
noncomputable def d_X12_unit_60 := gq_7 db00e_70 eb_493
noncomputable def d_X12_unit_62 := gq_8 db00e_70 eb_796
noncomputable def d_X12_unit_65 := gq_9 db00e_70 eb_580
noncomputable def d_X12_unit_68 := gq_10 db00e_70 eb_0
noncomputable def d_X12_unit_69 := gq_11 db00e_70 eb_1038
noncomputable def d_X12_unit_72 := gq_12 db00e_70 eb_0
noncomputable def d_X12_unit_73 := gq_13 db00e_70 eb_1050
noncomputable def d_X12_unit_76 := gq_14 db00e_70 eb_8
theorem db00e_71 : Pf_ prog_14_method_38_code [(0, [0x1b]), (1, [0x99, 0x00, 0x0a]), (4, [0x2a]), (5, [0xb6, 0x01, 0xc8]), (8, [0xa7, 0x00, 0x07]), (11, [0x2a]), (12, [0xb6, 0x01, 0xc1]), (15, [0x2a]), (16, [0xb4, 0x01, 0x70]), (19, [0x02]), (20, [0xa0, 0x00, 0x23]), (23, [0x2a]), (24, [0xb6, 0x01, 0x76]), (27, [0x10, 0x26]), (29, [0xa0, 0x00, 0x1a]), (32, [0x2a]), (33, [0x59]), (34, [0xb4, 0x01, 0x6d]), (37, [0x04]), (38, [0x60]), (39, [0xb5, 0x01, 0x6d]), (42, [0x2a]), (43, [0xb6, 0x01, 0xc1]), (46, [0x2a])] := pf_ok prog_14_method_38_code _ 0 (by decide +kernel)
noncomputable def d_X12_part_0 := gq_0 db00e_71 eb_10
noncomputable def d_X12_part_1 := gq_1 db00e_71 eb_205
noncomputable def d_X12_part_4 := gq_2 db00e_71 eb_0
noncomputable def d_X12_part_5 := gq_3 db00e_71 eb_1050
noncomputable def d_X12_part_8 := gq_4 db00e_71 eb_206
noncomputable def d_X12_part_11 := gq_5 db00e_71 eb_0
noncomputable def d_X12_part_12 := gq_6 db00e_71 eb_1048
noncomputable def d_X12_part_15 := gq_7 db00e_71 eb_0
noncomputable def d_X12_part_16 := gq_8 db00e_71 eb_988
noncomputable def d_X12_part_19 := gq_9 db00e_71 eb_27
noncomputable def d_X12_part_20 := gq_10 db00e_71 eb_512
noncomputable def d_X12_part_23 := gq_11 db00e_71 eb_0
noncomputable def d_X12_part_24 := gq_12 db00e_71 eb_993
noncomputable def d_X12_part_27 := gq_13 db00e_71 eb_535
noncomputable def d_X12_part_29 := gq_14 db00e_71 eb_282
noncomputable def d_X12_part_32 := gq_15 db00e_71 eb_0
noncomputable def d_X12_part_33 := gq_16 db00e_71 eb_47
noncomputable def d_X12_part_34 := gq_17 db00e_71 eb_986
noncomputable def d_X12_part_37 := gq_18 db00e_71 eb_20
noncomputable def d_X12_part_38 := gq_19 db00e_71 eb_36
noncomputable def d_X12_part_39 := gq_20 db00e_71 eb_987
noncomputable def d_X12_part_42 := gq_21 db00e_71 eb_0
noncomputable def d_X12_part_43 := gq_22 db00e_71 eb_1048
noncomputable def d_X12_part_46 := gq_23 db00e_71 eb_0
theorem db00e_72 : Pf_ prog_14_method_38_code [(47, [0x10, 0x26]), (49, [0xb6, 0x01, 0x86]), (52, [0xa7, 0xff, 0xdb]), (55, [0xb1])] := pf_ok prog_14_method_38_code _ 47 (by decide +kernel)
noncomputable def d_X12_part_47 := gq_0 db00e_72 eb_535
noncomputable def d_X12_part_49 := gq_1 db00e_72 eb_1000
noncomputable def d_X12_part_52 := gq_2 db00e_72 eb_445
noncomputable def d_X12_part_55 := gq_3 db00e_72 eb_8
theorem db00e_73 : Pf_ prog_14_method_39_code [(0, [0x2a]), (1, [0x1b]), (2, [0xb6, 0x01, 0xcb]), (5, [0x2a]), (6, [0xb4, 0x01, 0x70]), (9, [0x02]), (10, [0xa0, 0x00, 0x24]), (13, [0x2a]), (14, [0xb6, 0x01, 0x76]), (17, [0x10, 0x7c]), (19, [0xa0, 0x00, 0x1b]), (22, [0x2a]), (23, [0x59]), (24, [0xb4, 0x01, 0x6d]), (27, [0x04]), (28, [0x60]), (29, [0xb5, 0x01, 0x6d]), (32, [0x2a]), (33, [0x03]), (34, [0xb6, 0x01, 0xcb]), (37, [0x2a]), (38, [0x10, 0x7c]), (40, [0xb6, 0x01, 0x86]), (43, [0xa7, 0xff, 0xda])] := pf_ok prog_14_method_39_code _ 0 (by decide +kernel)
noncomputable def d_X12_condition_0 := gq_0 db00e_73 eb_0
noncomputable def d_X12_condition_1 := gq_1 db00e_73 eb_10
noncomputable def d_X12_condition_2 := gq_2 db00e_73 eb_1051
noncomputable def d_X12_condition_5 := gq_3 db00e_73 eb_0
noncomputable def d_X12_condition_6 := gq_4 db00e_73 eb_988
noncomputable def d_X12_condition_9 := gq_5 db00e_73 eb_27
noncomputable def d_X12_condition_10 := gq_6 db00e_73 eb_257
noncomputable def d_X12_condition_13 := gq_7 db00e_73 eb_0
noncomputable def d_X12_condition_14 := gq_8 db00e_73 eb_993
noncomputable def d_X12_condition_17 := gq_9 db00e_73 eb_531
noncomputable def d_X12_condition_19 := gq_10 db00e_73 eb_193
noncomputable def d_X12_condition_22 := gq_11 db00e_73 eb_0
noncomputable def d_X12_condition_23 := gq_12 db00e_73 eb_47
noncomputable def d_X12_condition_24 := gq_13 db00e_73 eb_986
noncomputable def d_X12_condition_27 := gq_14 db00e_73 eb_20
noncomputable def d_X12_condition_28 := gq_15 db00e_73 eb_36
noncomputable def d_X12_condition_29 := gq_16 db00e_73 eb_987
noncomputable def d_X12_condition_32 := gq_17 db00e_73 eb_0
noncomputable def d_X12_condition_33 := gq_18 db00e_73 eb_22
noncomputable def d_X12_condition_34 := gq_19 db00e_73 eb_1051
noncomputable def d_X12_condition_37 := gq_20 db00e_73 eb_0
noncomputable def d_X12_condition_38 := gq_21 db00e_73 eb_531
noncomputable def d_X12_condition_40 := gq_22 db00e_73 eb_1000
noncomputable def d_X12_condition_43 := gq_23 db00e_73 eb_241
theorem db00e_74 : Pf_ prog_14_method_39_code [(46, [0xb1])] := pf_ok prog_14_method_39_code _ 46 (by decide +kernel)
noncomputable def d_X12_condition_46 := gq_0 db00e_74 eb_8
theorem db00e_75 : Pf_ prog_14_method_40_code [(0, [0x2a]), (1, [0xb4, 0x01, 0x70]), (4, [0x02]), (5, [0xa0, 0x00, 0x10]), (8, [0x2a]), (9, [0xb6, 0x01, 0x76]), (12, [0x10, 0x3f]), (14, [0x9f, 0x00, 0x07]), (17, [0x2a]), (18, [0xb6, 0x01, 0x7d]), (21, [0x2a]), (22, [0x59]), (23, [0xb4, 0x01, 0x6d]), (26, [0x04]), (27, [0x60]), (28, [0xb5, 0x01, 0x6d]), (31, [0x2a]), (32, [0x05]), (33, [0xb6, 0x01, 0x86]), (36, [0xb1])] := pf_ok prog_14_method_40_code _ 0 (by decide +kernel)
noncomputable def d_X12_ask_0 := gq_0 db00e_75 eb_0
noncomputable def d_X12_ask_1 := gq_1 db00e_75 eb_988
noncomputable def d_X12_ask_4 := gq_2 db00e_75 eb_27
noncomputable def d_X12_ask_5 := gq_3 db00e_75 eb_80
noncomputable def d_X12_ask_8 := gq_4 db00e_75 eb_0
noncomputable def d_X12_ask_9 := gq_5 db00e_75 eb_993
noncomputable def d_X12_ask_12 := gq_6 db00e_75 eb_514
noncomputable def d_X12_ask_14 := gq_7 db00e_75 eb_557
noncomputable def d_X12_ask_17 := gq_8 db00e_75 eb_0
noncomputable def d_X12_ask_18 := gq_9 db00e_75 eb_996
noncomputable def d_X12_ask_21 := gq_10 db00e_75 eb_0
noncomputable def d_X12_ask_22 := gq_11 db00e_75 eb_47
noncomputable def d_X12_ask_23 := gq_12 db00e_75 eb_986
noncomputable def d_X12_ask_26 := gq_13 db00e_75 eb_20
noncomputable def d_X12_ask_27 := gq_14 db00e_75 eb_36
noncomputable def d_X12_ask_28 := gq_15 db00e_75 eb_987
noncomputable def d_X12_ask_31 := gq_16 db00e_75 eb_0
noncomputable def d_X12_ask_32 := gq_17 db00e_75 eb_11
noncomputable def d_X12_ask_33 := gq_18 db00e_75 eb_1000
noncomputable def d_X12_ask_36 := gq_19 db00e_75 eb_8
theorem db00e_76 : Pf_ prog_14_method_41_code [(0, [0x2a]), (1, [0xb6, 0x01, 0x76]), (4, [0x3c]), (5, [0x2a]), (6, [0xb4, 0x01, 0xb1]), (9, [0x04]), (10, [0xa0, 0x00, 0x6f]), (13, [0x2a]), (14, [0x03]), (15, [0xb6, 0x01, 0xc4]), (18, [0x2a]), (19, [0xb6, 0x01, 0xce]), (22, [0x2a]), (23, [0xb4, 0x01, 0x70]), (26, [0x02]), (27, [0x9f, 0x00, 0x04]), (30, [0xb1]), (31, [0x2a]), (32, [0xb6, 0x01, 0x76]), (35, [0x3d]), (36, [0x1c]), (37, [0x10, 0x78]), (39, [0x9f, 0x00, 0x1a]), (42, [0x1c])] := pf_ok prog_14_method_41_code _ 0 (by decide +kernel)
noncomputable def d_X12_clause_0 := gq_0 db00e_76 eb_0
noncomputable def d_X12_clause_1 := gq_1 db00e_76 eb_993
noncomputable def d_X12_clause_4 := gq_2 db00e_76 eb_225
noncomputable def d_X12_clause_5 := gq_3 db00e_76 eb_0
noncomputable def d_X12_clause_6 := gq_4 db00e_76 eb_1040
noncomputable def d_X12_clause_9 := gq_5 db00e_76 eb_20
noncomputable def d_X12_clause_10 := gq_6 db00e_76 eb_1052
noncomputable def d_X12_clause_13 := gq_7 db00e_76 eb_0
noncomputable def d_X12_clause_14 := gq_8 db00e_76 eb_22
noncomputable def d_X12_clause_15 := gq_9 db00e_76 eb_1049
noncomputable def d_X12_clause_18 := gq_10 db00e_76 eb_0
noncomputable def d_X12_clause_19 := gq_11 db00e_76 eb_1053
noncomputable def d_X12_clause_22 := gq_12 db00e_76 eb_0
noncomputable def d_X12_clause_23 := gq_13 db00e_76 eb_988
noncomputable def d_X12_clause_26 := gq_14 db00e_76 eb_27
noncomputable def d_X12_clause_27 := gq_15 db00e_76 eb_1054
noncomputable def d_X12_clause_30 := gq_16 db00e_76 eb_8
noncomputable def d_X12_clause_31 := gq_17 db00e_76 eb_0
noncomputable def d_X12_clause_32 := gq_18 db00e_76 eb_993
noncomputable def d_X12_clause_35 := gq_19 db00e_76 eb_28
noncomputable def d_X12_clause_36 := gq_20 db00e_76 eb_14
noncomputable def d_X12_clause_37 := gq_21 db00e_76 eb_1055
noncomputable def d_X12_clause_39 := gq_22 db00e_76 eb_1056
noncomputable def d_X12_clause_42 := gq_23 db00e_76 eb_14
theorem db00e_77 : Pf_ prog_14_method_41_code [(43, [0x10, 0x6e]), (45, [0x9f, 0x00, 0x14]), (48, [0x1c]), (49, [0x10, 0x72]), (51, [0x9f, 0x00, 0x0e]), (54, [0x1c]), (55, [0x10, 0x74]), (57, [0x9f, 0x00, 0x08]), (60, [0x2a]), (61, [0xb6, 0x01, 0x7d]), (64, [0xb1]), (65, [0x2a]), (66, [0x59]), (67, [0xb4, 0x01, 0x6d]), (70, [0x04]), (71, [0x60]), (72, [0xb5, 0x01, 0x6d]), (75, [0x2a]), (76, [0x03]), (77, [0xb6, 0x01, 0x86]), (80, [0x2a]), (81, [0x1c]), (82, [0x10, 0x78]), (84, [0xa0, 0x00, 0x07])] := pf_ok prog_14_method_41_code _ 43 (by decide +kernel)
noncomputable def d_X12_clause_43 := gq_0 db00e_77 eb_1057
noncomputable def d_X12_clause_45 := gq_1 db00e_77 eb_1058
noncomputable def d_X12_clause_48 := gq_2 db00e_77 eb_14
noncomputable def d_X12_clause_49 := gq_3 db00e_77 eb_1059
noncomputable def d_X12_clause_51 := gq_4 db00e_77 eb_264
noncomputable def d_X12_clause_54 := gq_5 db00e_77 eb_14
noncomputable def d_X12_clause_55 := gq_6 db00e_77 eb_1060
noncomputable def d_X12_clause_57 := gq_7 db00e_77 eb_475
noncomputable def d_X12_clause_60 := gq_8 db00e_77 eb_0
noncomputable def d_X12_clause_61 := gq_9 db00e_77 eb_996
noncomputable def d_X12_clause_64 := gq_10 db00e_77 eb_8
noncomputable def d_X12_clause_65 := gq_11 db00e_77 eb_0
noncomputable def d_X12_clause_66 := gq_12 db00e_77 eb_47
noncomputable def d_X12_clause_67 := gq_13 db00e_77 eb_986
noncomputable def d_X12_clause_70 := gq_14 db00e_77 eb_20
noncomputable def d_X12_clause_71 := gq_15 db00e_77 eb_36
noncomputable def d_X12_clause_72 := gq_16 db00e_77 eb_987
noncomputable def d_X12_clause_75 := gq_17 db00e_77 eb_0
noncomputable def d_X12_clause_76 := gq_18 db00e_77 eb_22
noncomputable def d_X12_clause_77 := gq_19 db00e_77 eb_1000
noncomputable def d_X12_clause_80 := gq_20 db00e_77 eb_0
noncomputable def d_X12_clause_81 := gq_21 db00e_77 eb_14
noncomputable def d_X12_clause_82 := gq_22 db00e_77 eb_1055
noncomputable def d_X12_clause_84 := gq_23 db00e_77 eb_136
theorem db00e_78 : Pf_ prog_14_method_41_code [(87, [0x03]), (88, [0xa7, 0x00, 0x18]), (91, [0x1c]), (92, [0x10, 0x6e]), (94, [0xa0, 0x00, 0x07]), (97, [0x04]), (98, [0xa7, 0x00, 0x0e]), (101, [0x1c]), (102, [0x10, 0x72]), (104, [0xa0, 0x00, 0x07]), (107, [0x05]), (108, [0xa7, 0x00, 0x04]), (111, [0x06]), (112, [0xb6, 0x01, 0x86]), (115, [0x2a]), (116, [0x06]), (117, [0xb6, 0x01, 0x86]), (120, [0xb1]), (121, [0x1b]), (122, [0x10, 0x21]), (124, [0x9f, 0x00, 0x0d]), (127, [0x1b]), (128, [0x10, 0x28]), (130, [0x9f, 0x00, 0x07])] := pf_ok prog_14_method_41_code _ 87 (by decide +kernel)
noncomputable def d_X12_clause_87 := gq_0 db00e_78 eb_22
noncomputable def d_X12_clause_88 := gq_1 db00e_78 eb_1061
noncomputable def d_X12_clause_91 := gq_2 db00e_78 eb_14
noncomputable def d_X12_clause_92 := gq_3 db00e_78 eb_1057
noncomputable def d_X12_clause_94 := gq_4 db00e_78 eb_136
noncomputable def d_X12_clause_97 := gq_5 db00e_78 eb_20
noncomputable def d_X12_clause_98 := gq_6 db00e_78 eb_1029
noncomputable def d_X12_clause_101 := gq_7 db00e_78 eb_14
noncomputable def d_X12_clause_102 := gq_8 db00e_78 eb_1059
noncomputable def d_X12_clause_104 := gq_9 db00e_78 eb_136
noncomputable def d_X12_clause_107 := gq_10 db00e_78 eb_11
noncomputable def d_X12_clause_108 := gq_11 db00e_78 eb_21
noncomputable def d_X12_clause_111 := gq_12 db00e_78 eb_55
noncomputable def d_X12_clause_112 := gq_13 db00e_78 eb_1000
noncomputable def d_X12_clause_115 := gq_14 db00e_78 eb_0
noncomputable def d_X12_clause_116 := gq_15 db00e_78 eb_55
noncomputable def d_X12_clause_117 := gq_16 db00e_78 eb_1000
noncomputable def d_X12_clause_120 := gq_17 db00e_78 eb_8
noncomputable def d_X12_clause_121 := gq_18 db00e_78 eb_10
noncomputable def d_X12_clause_122 := gq_19 db00e_78 eb_521
noncomputable def d_X12_clause_124 := gq_20 db00e_78 eb_149
noncomputable def d_X12_clause_127 := gq_21 db00e_78 eb_10
noncomputable def d_X12_clause_128 := gq_22 db00e_78 eb_317
noncomputable def d_X12_clause_130 := gq_23 db00e_78 eb_557
theorem db00e_79 : Pf_ prog_14_method_41_code [(133, [0x04]), (134, [0xa7, 0x00, 0x04]), (137, [0x03]), (138, [0x3d]), (139, [0x1c]), (140, [0x99, 0x00, 0x6c]), (143, [0x2a]), (144, [0xb4, 0x01, 0x73]), (147, [0x3e]), (148, [0x2a]), (149, [0xb6, 0x01, 0xab]), (152, [0x2a]), (153, [0xb4, 0x01, 0x70]), (156, [0x02]), (157, [0x9f, 0x00, 0x04]), (160, [0xb1]), (161, [0x2a]), (162, [0xb6, 0x01, 0x76]), (165, [0xb8, 0x01, 0xbe]), (168, [0x9a, 0x00, 0x50]), (171, [0x2a]), (172, [0xb4, 0x01, 0x73]), (175, [0x04]), (176, [0x64])] := pf_ok prog_14_method_41_code _ 133 (by decide +kernel)
noncomputable def d_X12_clause_133 := gq_0 db00e_79 eb_20
noncomputable def d_X12_clause_134 := gq_1 db00e_79 eb_21
noncomputable def d_X12_clause_137 := gq_2 db00e_79 eb_22
noncomputable def d_X12_clause_138 := gq_3 db00e_79 eb_28
noncomputable def d_X12_clause_139 := gq_4 db00e_79 eb_14
noncomputable def d_X12_clause_140 := gq_5 db00e_79 eb_1062
noncomputable def d_X12_clause_143 := gq_6 db00e_79 eb_0
noncomputable def d_X12_clause_144 := gq_7 db00e_79 eb_991
noncomputable def d_X12_clause_147 := gq_8 db00e_79 eb_29
noncomputable def d_X12_clause_148 := gq_9 db00e_79 eb_0
noncomputable def d_X12_clause_149 := gq_10 db00e_79 eb_1038
noncomputable def d_X12_clause_152 := gq_11 db00e_79 eb_0
noncomputable def d_X12_clause_153 := gq_12 db00e_79 eb_988
noncomputable def d_X12_clause_156 := gq_13 db00e_79 eb_27
noncomputable def d_X12_clause_157 := gq_14 db00e_79 eb_1054
noncomputable def d_X12_clause_160 := gq_15 db00e_79 eb_8
noncomputable def d_X12_clause_161 := gq_16 db00e_79 eb_0
noncomputable def d_X12_clause_162 := gq_17 db00e_79 eb_993
noncomputable def d_X12_clause_165 := gq_18 db00e_79 eb_1046
noncomputable def d_X12_clause_168 := gq_19 db00e_79 eb_1063
noncomputable def d_X12_clause_171 := gq_20 db00e_79 eb_0
noncomputable def d_X12_clause_172 := gq_21 db00e_79 eb_991
noncomputable def d_X12_clause_175 := gq_22 db00e_79 eb_20
noncomputable def d_X12_clause_176 := gq_23 db00e_79 eb_49
theorem db00e_80 : Pf_ prog_14_method_41_code [(177, [0x36, 0x04]), (179, [0x15, 0x04]), (181, [0x1d]), (182, [0xa1, 0x00, 0x19]), (185, [0x2a]), (186, [0xb4, 0x00, 0x5a]), (189, [0x15, 0x04]), (191, [0x06]), (192, [0x60]), (193, [0x2a]), (194, [0xb4, 0x00, 0x5a]), (197, [0x15, 0x04]), (199, [0x2e]), (200, [0x4f]), (201, [0x84, 0x04, 0xff]), (204, [0xa7, 0xff, 0xe7]), (207, [0x2a]), (208, [0xb4, 0x00, 0x5a]), (211, [0x1d]), (212, [0x03]), (213, [0x4f]), (214, [0x2a]), (215, [0xb4, 0x00, 0x5a]), (218, [0x1d])] := pf_ok prog_14_method_41_code _ 177 (by decide +kernel)
noncomputable def d_X12_clause_177 := gq_0 db00e_80 eb_134
noncomputable def d_X12_clause_179 := gq_1 db00e_80 eb_77
noncomputable def d_X12_clause_181 := gq_2 db00e_80 eb_30
noncomputable def d_X12_clause_182 := gq_3 db00e_80 eb_1064
noncomputable def d_X12_clause_185 := gq_4 db00e_80 eb_0
noncomputable def d_X12_clause_186 := gq_5 db00e_80 eb_990
noncomputable def d_X12_clause_189 := gq_6 db00e_80 eb_77
noncomputable def d_X12_clause_191 := gq_7 db00e_80 eb_55
noncomputable def d_X12_clause_192 := gq_8 db00e_80 eb_36
noncomputable def d_X12_clause_193 := gq_9 db00e_80 eb_0
noncomputable def d_X12_clause_194 := gq_10 db00e_80 eb_990
noncomputable def d_X12_clause_197 := gq_11 db00e_80 eb_77
noncomputable def d_X12_clause_199 := gq_12 db00e_80 eb_38
noncomputable def d_X12_clause_200 := gq_13 db00e_80 eb_39
noncomputable def d_X12_clause_201 := gq_14 db00e_80 eb_421
noncomputable def d_X12_clause_204 := gq_15 db00e_80 eb_424
noncomputable def d_X12_clause_207 := gq_16 db00e_80 eb_0
noncomputable def d_X12_clause_208 := gq_17 db00e_80 eb_990
noncomputable def d_X12_clause_211 := gq_18 db00e_80 eb_30
noncomputable def d_X12_clause_212 := gq_19 db00e_80 eb_22
noncomputable def d_X12_clause_213 := gq_20 db00e_80 eb_39
noncomputable def d_X12_clause_214 := gq_21 db00e_80 eb_0
noncomputable def d_X12_clause_215 := gq_22 db00e_80 eb_990
noncomputable def d_X12_clause_218 := gq_23 db00e_80 eb_30
theorem db00e_81 : Pf_ prog_14_method_41_code [(219, [0x04]), (220, [0x60]), (221, [0x04]), (222, [0x4f]), (223, [0x2a]), (224, [0xb4, 0x00, 0x5a]), (227, [0x1d]), (228, [0x05]), (229, [0x60]), (230, [0x05]), (231, [0x4f]), (232, [0x2a]), (233, [0x59]), (234, [0xb4, 0x01, 0x73]), (237, [0x06]), (238, [0x60]), (239, [0xb5, 0x01, 0x73]), (242, [0x2a]), (243, [0x06]), (244, [0xb6, 0x01, 0x86]), (247, [0xb1]), (248, [0x2a]), (249, [0x1c]), (250, [0xb6, 0x01, 0xc4])] := pf_ok prog_14_method_41_code _ 219 (by decide +kernel)
noncomputable def d_X12_clause_219 := gq_0 db00e_81 eb_20
noncomputable def d_X12_clause_220 := gq_1 db00e_81 eb_36
noncomputable def d_X12_clause_221 := gq_2 db00e_81 eb_20
noncomputable def d_X12_clause_222 := gq_3 db00e_81 eb_39
noncomputable def d_X12_clause_223 := gq_4 db00e_81 eb_0
noncomputable def d_X12_clause_224 := gq_5 db00e_81 eb_990
noncomputable def d_X12_clause_227 := gq_6 db00e_81 eb_30
noncomputable def d_X12_clause_228 := gq_7 db00e_81 eb_11
noncomputable def d_X12_clause_229 := gq_8 db00e_81 eb_36
noncomputable def d_X12_clause_230 := gq_9 db00e_81 eb_11
noncomputable def d_X12_clause_231 := gq_10 db00e_81 eb_39
noncomputable def d_X12_clause_232 := gq_11 db00e_81 eb_0
noncomputable def d_X12_clause_233 := gq_12 db00e_81 eb_47
noncomputable def d_X12_clause_234 := gq_13 db00e_81 eb_991
noncomputable def d_X12_clause_237 := gq_14 db00e_81 eb_55
noncomputable def d_X12_clause_238 := gq_15 db00e_81 eb_36
noncomputable def d_X12_clause_239 := gq_16 db00e_81 eb_992
noncomputable def d_X12_clause_242 := gq_17 db00e_81 eb_0
noncomputable def d_X12_clause_243 := gq_18 db00e_81 eb_55
noncomputable def d_X12_clause_244 := gq_19 db00e_81 eb_1000
noncomputable def d_X12_clause_247 := gq_20 db00e_81 eb_8
noncomputable def d_X12_clause_248 := gq_21 db00e_81 eb_0
noncomputable def d_X12_clause_249 := gq_22 db00e_81 eb_14
noncomputable def d_X12_clause_250 := gq_23 db00e_81 eb_1049
theorem db00e_82 : Pf_ prog_14_method_41_code [(253, [0x2a]), (254, [0xb6, 0x01, 0xce]), (257, [0x2a]), (258, [0xb4, 0x01, 0x70]), (261, [0x02]), (262, [0xa0, 0x00, 0x0c]), (265, [0x2a]), (266, [0xb6, 0x01, 0xab]), (269, [0x2a]), (270, [0x06]), (271, [0xb6, 0x01, 0x86]), (274, [0xb1])] := pf_ok prog_14_method_41_code _ 253 (by decide +kernel)
noncomputable def d_X12_clause_253 := gq_0 db00e_82 eb_0
noncomputable def d_X12_clause_254 := gq_1 db00e_82 eb_1053
noncomputable def d_X12_clause_257 := gq_2 db00e_82 eb_0
noncomputable def d_X12_clause_258 := gq_3 db00e_82 eb_988
noncomputable def d_X12_clause_261 := gq_4 db00e_82 eb_27
noncomputable def d_X12_clause_262 := gq_5 db00e_82 eb_427
noncomputable def d_X12_clause_265 := gq_6 db00e_82 eb_0
noncomputable def d_X12_clause_266 := gq_7 db00e_82 eb_1038
noncomputable def d_X12_clause_269 := gq_8 db00e_82 eb_0
noncomputable def d_X12_clause_270 := gq_9 db00e_82 eb_55
noncomputable def d_X12_clause_271 := gq_10 db00e_82 eb_1000
noncomputable def d_X12_clause_274 := gq_11 db00e_82 eb_8
theorem db00e_83 : Pf_ prog_14_method_42_code [(0, [0x1b]), (1, [0x03]), (2, [0x05]), (3, [0xb8, 0x01, 0x43]), (6, [0x9a, 0x00, 0x06]), (9, [0x10, 0xfe]), (11, [0xac]), (12, [0x2a]), (13, [0x1b]), (14, [0xb5, 0x01, 0xb1]), (17, [0x2a]), (18, [0x03]), (19, [0xb5, 0x01, 0x6d]), (22, [0x2a]), (23, [0x02]), (24, [0xb5, 0x01, 0x70]), (27, [0x2a]), (28, [0x03]), (29, [0xb5, 0x01, 0x8d]), (32, [0x2a]), (33, [0x03]), (34, [0xb5, 0x01, 0x73]), (37, [0x1b]), (38, [0x9a, 0x00, 0x0a])] := pf_ok prog_14_method_42_code _ 0 (by decide +kernel)
noncomputable def d_X12_fault_0 := gq_0 db00e_83 eb_10
noncomputable def d_X12_fault_1 := gq_1 db00e_83 eb_22
noncomputable def d_X12_fault_2 := gq_2 db00e_83 eb_11
noncomputable def d_X12_fault_3 := gq_3 db00e_83 eb_951
noncomputable def d_X12_fault_6 := gq_4 db00e_83 eb_347
noncomputable def d_X12_fault_9 := gq_5 db00e_83 eb_646
noncomputable def d_X12_fault_11 := gq_6 db00e_83 eb_16
noncomputable def d_X12_fault_12 := gq_7 db00e_83 eb_0
noncomputable def d_X12_fault_13 := gq_8 db00e_83 eb_10
noncomputable def d_X12_fault_14 := gq_9 db00e_83 eb_1065
noncomputable def d_X12_fault_17 := gq_10 db00e_83 eb_0
noncomputable def d_X12_fault_18 := gq_11 db00e_83 eb_22
noncomputable def d_X12_fault_19 := gq_12 db00e_83 eb_987
noncomputable def d_X12_fault_22 := gq_13 db00e_83 eb_0
noncomputable def d_X12_fault_23 := gq_14 db00e_83 eb_27
noncomputable def d_X12_fault_24 := gq_15 db00e_83 eb_989
noncomputable def d_X12_fault_27 := gq_16 db00e_83 eb_0
noncomputable def d_X12_fault_28 := gq_17 db00e_83 eb_22
noncomputable def d_X12_fault_29 := gq_18 db00e_83 eb_1014
noncomputable def d_X12_fault_32 := gq_19 db00e_83 eb_0
noncomputable def d_X12_fault_33 := gq_20 db00e_83 eb_22
noncomputable def d_X12_fault_34 := gq_21 db00e_83 eb_992
noncomputable def d_X12_fault_37 := gq_22 db00e_83 eb_10
noncomputable def d_X12_fault_38 := gq_23 db00e_83 eb_1066
theorem db00e_84 : Pf_ prog_14_method_42_code [(41, [0x2a]), (42, [0xb6, 0x01, 0x90]), (45, [0xa7, 0x00, 0x29]), (48, [0x2a]), (49, [0xb6, 0x01, 0xd1]), (52, [0x2a]), (53, [0xb4, 0x01, 0x70]), (56, [0x02]), (57, [0xa0, 0x00, 0x1d]), (60, [0x2a]), (61, [0xb6, 0x01, 0x76]), (64, [0x10, 0x3b]), (66, [0xa0, 0x00, 0x14]), (69, [0x2a]), (70, [0x59]), (71, [0xb4, 0x01, 0x6d]), (74, [0x04]), (75, [0x60]), (76, [0xb5, 0x01, 0x6d]), (79, [0x2a]), (80, [0xb6, 0x01, 0xd1]), (83, [0xa7, 0xff, 0xe1]), (86, [0x2a]), (87, [0xb4, 0x01, 0x70])] := pf_ok prog_14_method_42_code _ 41 (by decide +kernel)
noncomputable def d_X12_fault_41 := gq_0 db00e_84 eb_0
noncomputable def d_X12_fault_42 := gq_1 db00e_84 eb_1015
noncomputable def d_X12_fault_45 := gq_2 db00e_84 eb_1067
noncomputable def d_X12_fault_48 := gq_3 db00e_84 eb_0
noncomputable def d_X12_fault_49 := gq_4 db00e_84 eb_1068
noncomputable def d_X12_fault_52 := gq_5 db00e_84 eb_0
noncomputable def d_X12_fault_53 := gq_6 db00e_84 eb_988
noncomputable def d_X12_fault_56 := gq_7 db00e_84 eb_27
noncomputable def d_X12_fault_57 := gq_8 db00e_84 eb_314
noncomputable def d_X12_fault_60 := gq_9 db00e_84 eb_0
noncomputable def d_X12_fault_61 := gq_10 db00e_84 eb_993
noncomputable def d_X12_fault_64 := gq_11 db00e_84 eb_485
noncomputable def d_X12_fault_66 := gq_12 db00e_84 eb_303
noncomputable def d_X12_fault_69 := gq_13 db00e_84 eb_0
noncomputable def d_X12_fault_70 := gq_14 db00e_84 eb_47
noncomputable def d_X12_fault_71 := gq_15 db00e_84 eb_986
noncomputable def d_X12_fault_74 := gq_16 db00e_84 eb_20
noncomputable def d_X12_fault_75 := gq_17 db00e_84 eb_36
noncomputable def d_X12_fault_76 := gq_18 db00e_84 eb_987
noncomputable def d_X12_fault_79 := gq_19 db00e_84 eb_0
noncomputable def d_X12_fault_80 := gq_20 db00e_84 eb_1068
noncomputable def d_X12_fault_83 := gq_21 db00e_84 eb_420
noncomputable def d_X12_fault_86 := gq_22 db00e_84 eb_0
noncomputable def d_X12_fault_87 := gq_23 db00e_84 eb_988
theorem db00e_85 : Pf_ prog_14_method_42_code [(90, [0x02]), (91, [0xa0, 0x00, 0x0f]), (94, [0x2a]), (95, [0xb6, 0x01, 0x76]), (98, [0x02]), (99, [0x9f, 0x00, 0x07]), (102, [0x2a]), (103, [0xb6, 0x01, 0x7d]), (106, [0x2a]), (107, [0xb4, 0x01, 0x70]), (110, [0xac])] := pf_ok prog_14_method_42_code _ 90 (by decide +kernel)
noncomputable def d_X12_fault_90 := gq_0 db00e_85 eb_27
noncomputable def d_X12_fault_91 := gq_1 db00e_85 eb_368
noncomputable def d_X12_fault_94 := gq_2 db00e_85 eb_0
noncomputable def d_X12_fault_95 := gq_3 db00e_85 eb_993
noncomputable def d_X12_fault_98 := gq_4 db00e_85 eb_27
noncomputable def d_X12_fault_99 := gq_5 db00e_85 eb_557
noncomputable def d_X12_fault_102 := gq_6 db00e_85 eb_0
noncomputable def d_X12_fault_103 := gq_7 db00e_85 eb_996
noncomputable def d_X12_fault_106 := gq_8 db00e_85 eb_0
noncomputable def d_X12_fault_107 := gq_9 db00e_85 eb_988
noncomputable def d_X12_fault_110 := gq_10 db00e_85 eb_16
theorem db00e_86 : Pf_ prog_14_method_43_code [(0, [0x1c]), (1, [0x03]), (2, [0x10, 0x1e]), (4, [0xb8, 0x01, 0x43]), (7, [0x99, 0x00, 0x19]), (10, [0x2a]), (11, [0xb4, 0x00, 0x75]), (14, [0x1b]), (15, [0x2e]), (16, [0x10, 0x14]), (18, [0x9f, 0x00, 0x0e]), (21, [0x2a]), (22, [0x1b]), (23, [0x04]), (24, [0x60]), (25, [0xb6, 0x01, 0xa0]), (28, [0x02]), (29, [0x9f, 0x00, 0x05]), (32, [0x02]), (33, [0xac]), (34, [0x10, 0x14]), (36, [0x1b]), (37, [0x68]), (38, [0x2a])] := pf_ok prog_14_method_43_code _ 0 (by decide +kernel)
noncomputable def d_X12_text_0 := gq_0 db00e_86 eb_14
noncomputable def d_X12_text_1 := gq_1 db00e_86 eb_22
noncomputable def d_X12_text_2 := gq_2 db00e_86 eb_93
noncomputable def d_X12_text_4 := gq_3 db00e_86 eb_951
noncomputable def d_X12_text_7 := gq_4 db00e_86 eb_296
noncomputable def d_X12_text_10 := gq_5 db00e_86 eb_0
noncomputable def d_X12_text_11 := gq_6 db00e_86 eb_1069
noncomputable def d_X12_text_14 := gq_7 db00e_86 eb_10
noncomputable def d_X12_text_15 := gq_8 db00e_86 eb_38
noncomputable def d_X12_text_16 := gq_9 db00e_86 eb_495
noncomputable def d_X12_text_18 := gq_10 db00e_86 eb_264
noncomputable def d_X12_text_21 := gq_11 db00e_86 eb_0
noncomputable def d_X12_text_22 := gq_12 db00e_86 eb_10
noncomputable def d_X12_text_23 := gq_13 db00e_86 eb_20
noncomputable def d_X12_text_24 := gq_14 db00e_86 eb_36
noncomputable def d_X12_text_25 := gq_15 db00e_86 eb_790
noncomputable def d_X12_text_28 := gq_16 db00e_86 eb_27
noncomputable def d_X12_text_29 := gq_17 db00e_86 eb_121
noncomputable def d_X12_text_32 := gq_18 db00e_86 eb_27
noncomputable def d_X12_text_33 := gq_19 db00e_86 eb_16
noncomputable def d_X12_text_34 := gq_20 db00e_86 eb_495
noncomputable def d_X12_text_36 := gq_21 db00e_86 eb_10
noncomputable def d_X12_text_37 := gq_22 db00e_86 eb_35
noncomputable def d_X12_text_38 := gq_23 db00e_86 eb_0
theorem db00e_87 : Pf_ prog_14_method_43_code [(39, [0xb4, 0x00, 0x75]), (42, [0x1b]), (43, [0x2e]), (44, [0x60]), (45, [0x3e]), (46, [0x03]), (47, [0x36, 0x04]), (49, [0x15, 0x04]), (51, [0x2a]), (52, [0xb4, 0x01, 0x73]), (55, [0xa2, 0x00, 0x1d]), (58, [0x2a]), (59, [0xb4, 0x00, 0x69]), (62, [0x11, 0x02, 0x30]), (65, [0x1d]), (66, [0x68]), (67, [0x15, 0x04]), (69, [0x60]), (70, [0x2a]), (71, [0xb4, 0x00, 0x5a]), (74, [0x15, 0x04]), (76, [0x2e]), (77, [0x4f]), (78, [0x84, 0x04, 0x01])] := pf_ok prog_14_method_43_code _ 39 (by decide +kernel)
noncomputable def d_X12_text_39 := gq_0 db00e_87 eb_1069
noncomputable def d_X12_text_42 := gq_1 db00e_87 eb_10
noncomputable def d_X12_text_43 := gq_2 db00e_87 eb_38
noncomputable def d_X12_text_44 := gq_3 db00e_87 eb_36
noncomputable def d_X12_text_45 := gq_4 db00e_87 eb_29
noncomputable def d_X12_text_46 := gq_5 db00e_87 eb_22
noncomputable def d_X12_text_47 := gq_6 db00e_87 eb_134
noncomputable def d_X12_text_49 := gq_7 db00e_87 eb_77
noncomputable def d_X12_text_51 := gq_8 db00e_87 eb_0
noncomputable def d_X12_text_52 := gq_9 db00e_87 eb_991
noncomputable def d_X12_text_55 := gq_10 db00e_87 eb_174
noncomputable def d_X12_text_58 := gq_11 db00e_87 eb_0
noncomputable def d_X12_text_59 := gq_12 db00e_87 eb_1070
noncomputable def d_X12_text_62 := gq_13 db00e_87 eb_873
noncomputable def d_X12_text_65 := gq_14 db00e_87 eb_30
noncomputable def d_X12_text_66 := gq_15 db00e_87 eb_35
noncomputable def d_X12_text_67 := gq_16 db00e_87 eb_77
noncomputable def d_X12_text_69 := gq_17 db00e_87 eb_36
noncomputable def d_X12_text_70 := gq_18 db00e_87 eb_0
noncomputable def d_X12_text_71 := gq_19 db00e_87 eb_990
noncomputable def d_X12_text_74 := gq_20 db00e_87 eb_77
noncomputable def d_X12_text_76 := gq_21 db00e_87 eb_38
noncomputable def d_X12_text_77 := gq_22 db00e_87 eb_39
noncomputable def d_X12_text_78 := gq_23 db00e_87 eb_146
theorem db00e_88 : Pf_ prog_14_method_43_code [(81, [0xa7, 0xff, 0xe0]), (84, [0x2a]), (85, [0xb4, 0x00, 0x6c]), (88, [0x1d]), (89, [0x2a]), (90, [0xb4, 0x01, 0x73]), (93, [0x4f]), (94, [0x2a]), (95, [0xb4, 0x00, 0x6f]), (98, [0x1d]), (99, [0x1c]), (100, [0x4f]), (101, [0x2a]), (102, [0xb4, 0x00, 0x72]), (105, [0x1d]), (106, [0x2a]), (107, [0xb4, 0x01, 0x56]), (110, [0x4f]), (111, [0x2a]), (112, [0xb4, 0x00, 0x75]), (115, [0x1b]), (116, [0x5c]), (117, [0x2e]), (118, [0x04])] := pf_ok prog_14_method_43_code _ 81 (by decide +kernel)
noncomputable def d_X12_text_81 := gq_0 db00e_88 eb_147
noncomputable def d_X12_text_84 := gq_1 db00e_88 eb_0
noncomputable def d_X12_text_85 := gq_2 db00e_88 eb_1071
noncomputable def d_X12_text_88 := gq_3 db00e_88 eb_30
noncomputable def d_X12_text_89 := gq_4 db00e_88 eb_0
noncomputable def d_X12_text_90 := gq_5 db00e_88 eb_991
noncomputable def d_X12_text_93 := gq_6 db00e_88 eb_39
noncomputable def d_X12_text_94 := gq_7 db00e_88 eb_0
noncomputable def d_X12_text_95 := gq_8 db00e_88 eb_1072
noncomputable def d_X12_text_98 := gq_9 db00e_88 eb_30
noncomputable def d_X12_text_99 := gq_10 db00e_88 eb_14
noncomputable def d_X12_text_100 := gq_11 db00e_88 eb_39
noncomputable def d_X12_text_101 := gq_12 db00e_88 eb_0
noncomputable def d_X12_text_102 := gq_13 db00e_88 eb_1073
noncomputable def d_X12_text_105 := gq_14 db00e_88 eb_30
noncomputable def d_X12_text_106 := gq_15 db00e_88 eb_0
noncomputable def d_X12_text_107 := gq_16 db00e_88 eb_966
noncomputable def d_X12_text_110 := gq_17 db00e_88 eb_39
noncomputable def d_X12_text_111 := gq_18 db00e_88 eb_0
noncomputable def d_X12_text_112 := gq_19 db00e_88 eb_1069
noncomputable def d_X12_text_115 := gq_20 db00e_88 eb_10
noncomputable def d_X12_text_116 := gq_21 db00e_88 eb_145
noncomputable def d_X12_text_117 := gq_22 db00e_88 eb_38
noncomputable def d_X12_text_118 := gq_23 db00e_88 eb_20
theorem db00e_89 : Pf_ prog_14_method_43_code [(119, [0x60]), (120, [0x4f]), (121, [0x2a]), (122, [0x03]), (123, [0xb5, 0x01, 0x6a]), (126, [0x2a]), (127, [0xb4, 0x00, 0x75]), (130, [0x1b]), (131, [0x2e]), (132, [0x04]), (133, [0x64]), (134, [0xac])] := pf_ok prog_14_method_43_code _ 119 (by decide +kernel)
noncomputable def d_X12_text_119 := gq_0 db00e_89 eb_36
noncomputable def d_X12_text_120 := gq_1 db00e_89 eb_39
noncomputable def d_X12_text_121 := gq_2 db00e_89 eb_0
noncomputable def d_X12_text_122 := gq_3 db00e_89 eb_22
noncomputable def d_X12_text_123 := gq_4 db00e_89 eb_983
noncomputable def d_X12_text_126 := gq_5 db00e_89 eb_0
noncomputable def d_X12_text_127 := gq_6 db00e_89 eb_1069
noncomputable def d_X12_text_130 := gq_7 db00e_89 eb_10
noncomputable def d_X12_text_131 := gq_8 db00e_89 eb_38
noncomputable def d_X12_text_132 := gq_9 db00e_89 eb_20
noncomputable def d_X12_text_133 := gq_10 db00e_89 eb_49
noncomputable def d_X12_text_134 := gq_11 db00e_89 eb_16
theorem db00e_90 : Pf_ prog_14_method_44_code [(0, [0x2a]), (1, [0x03]), (2, [0x1b]), (3, [0xb6, 0x01, 0xd4]), (6, [0xac])] := pf_ok prog_14_method_44_code _ 0 (by decide +kernel)
noncomputable def d_X12_act_0 := gq_0 db00e_90 eb_0
noncomputable def d_X12_act_1 := gq_1 db00e_90 eb_22
noncomputable def d_X12_act_2 := gq_2 db00e_90 eb_10
noncomputable def d_X12_act_3 := gq_3 db00e_90 eb_1074
noncomputable def d_X12_act_6 := gq_4 db00e_90 eb_16
theorem db00e_91 : Pf_ prog_14_method_45_code [(0, [0x2a]), (1, [0x04]), (2, [0x1b]), (3, [0xb6, 0x01, 0xd4]), (6, [0xac])] := pf_ok prog_14_method_45_code _ 0 (by decide +kernel)
noncomputable def d_X12_pay_0 := gq_0 db00e_91 eb_0
noncomputable def d_X12_pay_1 := gq_1 db00e_91 eb_20
noncomputable def d_X12_pay_2 := gq_2 db00e_91 eb_10
noncomputable def d_X12_pay_3 := gq_3 db00e_91 eb_1074
noncomputable def d_X12_pay_6 := gq_4 db00e_91 eb_16
theorem db00e_92 : Pf_ prog_14_method_46_code [(0, [0x02]), (1, [0x36, 0x04]), (3, [0x03]), (4, [0x36, 0x05]), (6, [0x15, 0x05]), (8, [0x2a]), (9, [0xb4, 0x00, 0x75]), (12, [0x1b]), (13, [0x2e]), (14, [0xa2, 0x00, 0x48]), (17, [0x10, 0x14]), (19, [0x1b]), (20, [0x68]), (21, [0x15, 0x05]), (23, [0x60]), (24, [0x36, 0x06]), (26, [0x2a]), (27, [0xb4, 0x00, 0x72]), (30, [0x15, 0x06]), (32, [0x2e]), (33, [0x1d]), (34, [0xa3, 0x00, 0x2e]), (37, [0x2a]), (38, [0xb4, 0x00, 0x6f])] := pf_ok prog_14_method_46_code _ 0 (by decide +kernel)
noncomputable def d_X12_forceOf_0 := gq_0 db00e_92 eb_27
noncomputable def d_X12_forceOf_1 := gq_1 db00e_92 eb_134
noncomputable def d_X12_forceOf_3 := gq_2 db00e_92 eb_22
noncomputable def d_X12_forceOf_4 := gq_3 db00e_92 eb_135
noncomputable def d_X12_forceOf_6 := gq_4 db00e_92 eb_126
noncomputable def d_X12_forceOf_8 := gq_5 db00e_92 eb_0
noncomputable def d_X12_forceOf_9 := gq_6 db00e_92 eb_1069
noncomputable def d_X12_forceOf_12 := gq_7 db00e_92 eb_10
noncomputable def d_X12_forceOf_13 := gq_8 db00e_92 eb_38
noncomputable def d_X12_forceOf_14 := gq_9 db00e_92 eb_311
noncomputable def d_X12_forceOf_17 := gq_10 db00e_92 eb_495
noncomputable def d_X12_forceOf_19 := gq_11 db00e_92 eb_10
noncomputable def d_X12_forceOf_20 := gq_12 db00e_92 eb_35
noncomputable def d_X12_forceOf_21 := gq_13 db00e_92 eb_126
noncomputable def d_X12_forceOf_23 := gq_14 db00e_92 eb_36
noncomputable def d_X12_forceOf_24 := gq_15 db00e_92 eb_59
noncomputable def d_X12_forceOf_26 := gq_16 db00e_92 eb_0
noncomputable def d_X12_forceOf_27 := gq_17 db00e_92 eb_1073
noncomputable def d_X12_forceOf_30 := gq_18 db00e_92 eb_76
noncomputable def d_X12_forceOf_32 := gq_19 db00e_92 eb_38
noncomputable def d_X12_forceOf_33 := gq_20 db00e_92 eb_30
noncomputable def d_X12_forceOf_34 := gq_21 db00e_92 eb_1075
noncomputable def d_X12_forceOf_37 := gq_22 db00e_92 eb_0
noncomputable def d_X12_forceOf_38 := gq_23 db00e_92 eb_1072
theorem db00e_93 : Pf_ prog_14_method_46_code [(41, [0x15, 0x06]), (43, [0x2e]), (44, [0x1c]), (45, [0xa3, 0x00, 0x23]), (48, [0x15, 0x04]), (50, [0x02]), (51, [0x9f, 0x00, 0x19]), (54, [0x2a]), (55, [0xb4, 0x00, 0x6f]), (58, [0x15, 0x06]), (60, [0x2e]), (61, [0x2a]), (62, [0xb4, 0x00, 0x6f]), (65, [0x10, 0x14]), (67, [0x1b]), (68, [0x68]), (69, [0x15, 0x04]), (71, [0x60]), (72, [0x2e]), (73, [0xa1, 0x00, 0x07]), (76, [0x15, 0x05]), (78, [0x36, 0x04]), (80, [0x84, 0x05, 0x01]), (83, [0xa7, 0xff, 0xb3])] := pf_ok prog_14_method_46_code _ 41 (by decide +kernel)
noncomputable def d_X12_forceOf_41 := gq_0 db00e_93 eb_76
noncomputable def d_X12_forceOf_43 := gq_1 db00e_93 eb_38
noncomputable def d_X12_forceOf_44 := gq_2 db00e_93 eb_14
noncomputable def d_X12_forceOf_45 := gq_3 db00e_93 eb_1076
noncomputable def d_X12_forceOf_48 := gq_4 db00e_93 eb_77
noncomputable def d_X12_forceOf_50 := gq_5 db00e_93 eb_27
noncomputable def d_X12_forceOf_51 := gq_6 db00e_93 eb_538
noncomputable def d_X12_forceOf_54 := gq_7 db00e_93 eb_0
noncomputable def d_X12_forceOf_55 := gq_8 db00e_93 eb_1072
noncomputable def d_X12_forceOf_58 := gq_9 db00e_93 eb_76
noncomputable def d_X12_forceOf_60 := gq_10 db00e_93 eb_38
noncomputable def d_X12_forceOf_61 := gq_11 db00e_93 eb_0
noncomputable def d_X12_forceOf_62 := gq_12 db00e_93 eb_1072
noncomputable def d_X12_forceOf_65 := gq_13 db00e_93 eb_495
noncomputable def d_X12_forceOf_67 := gq_14 db00e_93 eb_10
noncomputable def d_X12_forceOf_68 := gq_15 db00e_93 eb_35
noncomputable def d_X12_forceOf_69 := gq_16 db00e_93 eb_77
noncomputable def d_X12_forceOf_71 := gq_17 db00e_93 eb_36
noncomputable def d_X12_forceOf_72 := gq_18 db00e_93 eb_38
noncomputable def d_X12_forceOf_73 := gq_19 db00e_93 eb_156
noncomputable def d_X12_forceOf_76 := gq_20 db00e_93 eb_126
noncomputable def d_X12_forceOf_78 := gq_21 db00e_93 eb_134
noncomputable def d_X12_forceOf_80 := gq_22 db00e_93 eb_223
noncomputable def d_X12_forceOf_83 := gq_23 db00e_93 eb_1077
theorem db00e_94 : Pf_ prog_14_method_46_code [(86, [0x15, 0x04]), (88, [0xac])] := pf_ok prog_14_method_46_code _ 86 (by decide +kernel)
noncomputable def d_X12_forceOf_86 := gq_0 db00e_94 eb_77
noncomputable def d_X12_forceOf_88 := gq_1 db00e_94 eb_16
theorem db00e_95 : Pf_ prog_14_method_47_code [(0, [0x1b]), (1, [0x03]), (2, [0x10, 0x1e]), (4, [0xb8, 0x01, 0x43]), (7, [0x99, 0x00, 0x15]), (10, [0x2a]), (11, [0x1c]), (12, [0xb6, 0x01, 0x5f]), (15, [0x99, 0x00, 0x0d]), (18, [0x2a]), (19, [0x03]), (20, [0x1b]), (21, [0x1c]), (22, [0xb6, 0x01, 0xd7]), (25, [0xa7, 0x00, 0x04]), (28, [0x02]), (29, [0xac])] := pf_ok prog_14_method_47_code _ 0 (by decide +kernel)
noncomputable def d_X12_force_0 := gq_0 db00e_95 eb_10
noncomputable def d_X12_force_1 := gq_1 db00e_95 eb_22
noncomputable def d_X12_force_2 := gq_2 db00e_95 eb_93
noncomputable def d_X12_force_4 := gq_3 db00e_95 eb_951
noncomputable def d_X12_force_7 := gq_4 db00e_95 eb_329
noncomputable def d_X12_force_10 := gq_5 db00e_95 eb_0
noncomputable def d_X12_force_11 := gq_6 db00e_95 eb_14
noncomputable def d_X12_force_12 := gq_7 db00e_95 eb_976
noncomputable def d_X12_force_15 := gq_8 db00e_95 eb_120
noncomputable def d_X12_force_18 := gq_9 db00e_95 eb_0
noncomputable def d_X12_force_19 := gq_10 db00e_95 eb_22
noncomputable def d_X12_force_20 := gq_11 db00e_95 eb_10
noncomputable def d_X12_force_21 := gq_12 db00e_95 eb_14
noncomputable def d_X12_force_22 := gq_13 db00e_95 eb_1078
noncomputable def d_X12_force_25 := gq_14 db00e_95 eb_21
noncomputable def d_X12_force_28 := gq_15 db00e_95 eb_27
noncomputable def d_X12_force_29 := gq_16 db00e_95 eb_16
theorem db00e_96 : Pf_ prog_14_method_48_code [(0, [0x14, 0x01, 0xda]), (3, [0x14, 0x01, 0xdc]), (6, [0x1e]), (7, [0xb8, 0x01, 0xde]), (10, [0xb8, 0x01, 0xe4]), (13, [0x88]), (14, [0xac])] := pf_ok prog_14_method_48_code _ 0 (by decide +kernel)
noncomputable def d_X12_bounded_0 := gq_0 db00e_96 eb_1079
noncomputable def d_X12_bounded_3 := gq_1 db00e_96 eb_1080
noncomputable def d_X12_bounded_6 := gq_2 db00e_96 eb_592
noncomputable def d_X12_bounded_7 := gq_3 db00e_96 eb_1081
noncomputable def d_X12_bounded_10 := gq_4 db00e_96 eb_1082
noncomputable def d_X12_bounded_13 := gq_5 db00e_96 eb_402
noncomputable def d_X12_bounded_14 := gq_6 db00e_96 eb_16
theorem d_X12_both_1 : decode prog_14_method_49_code 1 = .ok (.tableswitch 189 38 62 #[175, 189, 189, 189, 133, 115, 189, 124, 189, 189, 189, 189, 189, 189, 189, 189, 189, 189, 189, 189, 189, 189, 153, 142, 164], 115) := by decide +kernel
theorem db00e_97 : Pf_ prog_14_method_49_code [(0, [0x1a]), (116, [0x1b]), (117, [0x85]), (118, [0x1c]), (119, [0x85]), (120, [0x61]), (121, [0xb8, 0x01, 0xe7]), (124, [0xac]), (125, [0x1b]), (126, [0x85]), (127, [0x1c]), (128, [0x85]), (129, [0x65]), (130, [0xb8, 0x01, 0xe7]), (133, [0xac]), (134, [0x1b]), (135, [0x85]), (136, [0x1c]), (137, [0x85]), (138, [0x69]), (139, [0xb8, 0x01, 0xe7]), (142, [0xac]), (143, [0x1b]), (144, [0x1c])] := pf_ok prog_14_method_49_code _ 0 (by decide +kernel)
noncomputable def d_X12_both_0 := gq_0 db00e_97 eb_9
noncomputable def d_X12_both_116 := gq_1 db00e_97 eb_10
noncomputable def d_X12_both_117 := gq_2 db00e_97 eb_393
noncomputable def d_X12_both_118 := gq_3 db00e_97 eb_14
noncomputable def d_X12_both_119 := gq_4 db00e_97 eb_393
noncomputable def d_X12_both_120 := gq_5 db00e_97 eb_396
noncomputable def d_X12_both_121 := gq_6 db00e_97 eb_1083
noncomputable def d_X12_both_124 := gq_7 db00e_97 eb_16
noncomputable def d_X12_both_125 := gq_8 db00e_97 eb_10
noncomputable def d_X12_both_126 := gq_9 db00e_97 eb_393
noncomputable def d_X12_both_127 := gq_10 db00e_97 eb_14
noncomputable def d_X12_both_128 := gq_11 db00e_97 eb_393
noncomputable def d_X12_both_129 := gq_12 db00e_97 eb_590
noncomputable def d_X12_both_130 := gq_13 db00e_97 eb_1083
noncomputable def d_X12_both_133 := gq_14 db00e_97 eb_16
noncomputable def d_X12_both_134 := gq_15 db00e_97 eb_10
noncomputable def d_X12_both_135 := gq_16 db00e_97 eb_393
noncomputable def d_X12_both_136 := gq_17 db00e_97 eb_14
noncomputable def d_X12_both_137 := gq_18 db00e_97 eb_393
noncomputable def d_X12_both_138 := gq_19 db00e_97 eb_395
noncomputable def d_X12_both_139 := gq_20 db00e_97 eb_1083
noncomputable def d_X12_both_142 := gq_21 db00e_97 eb_16
noncomputable def d_X12_both_143 := gq_22 db00e_97 eb_10
noncomputable def d_X12_both_144 := gq_23 db00e_97 eb_14
theorem db00e_98 : Pf_ prog_14_method_49_code [(145, [0xa0, 0x00, 0x07]), (148, [0x04]), (149, [0xa7, 0x00, 0x04]), (152, [0x03]), (153, [0xac]), (154, [0x1b]), (155, [0x1c]), (156, [0xa2, 0x00, 0x07]), (159, [0x04]), (160, [0xa7, 0x00, 0x04]), (163, [0x03]), (164, [0xac]), (165, [0x1b]), (166, [0x1c]), (167, [0xa4, 0x00, 0x07]), (170, [0x04]), (171, [0xa7, 0x00, 0x04]), (174, [0x03]), (175, [0xac]), (176, [0x1b]), (177, [0x99, 0x00, 0x0b]), (180, [0x1c]), (181, [0x99, 0x00, 0x07]), (184, [0x04])] := pf_ok prog_14_method_49_code _ 145 (by decide +kernel)
noncomputable def d_X12_both_145 := gq_0 db00e_98 eb_136
noncomputable def d_X12_both_148 := gq_1 db00e_98 eb_20
noncomputable def d_X12_both_149 := gq_2 db00e_98 eb_21
noncomputable def d_X12_both_152 := gq_3 db00e_98 eb_22
noncomputable def d_X12_both_153 := gq_4 db00e_98 eb_16
noncomputable def d_X12_both_154 := gq_5 db00e_98 eb_10
noncomputable def d_X12_both_155 := gq_6 db00e_98 eb_14
noncomputable def d_X12_both_156 := gq_7 db00e_98 eb_19
noncomputable def d_X12_both_159 := gq_8 db00e_98 eb_20
noncomputable def d_X12_both_160 := gq_9 db00e_98 eb_21
noncomputable def d_X12_both_163 := gq_10 db00e_98 eb_22
noncomputable def d_X12_both_164 := gq_11 db00e_98 eb_16
noncomputable def d_X12_both_165 := gq_12 db00e_98 eb_10
noncomputable def d_X12_both_166 := gq_13 db00e_98 eb_14
noncomputable def d_X12_both_167 := gq_14 db00e_98 eb_591
noncomputable def d_X12_both_170 := gq_15 db00e_98 eb_20
noncomputable def d_X12_both_171 := gq_16 db00e_98 eb_21
noncomputable def d_X12_both_174 := gq_17 db00e_98 eb_22
noncomputable def d_X12_both_175 := gq_18 db00e_98 eb_16
noncomputable def d_X12_both_176 := gq_19 db00e_98 eb_10
noncomputable def d_X12_both_177 := gq_20 db00e_98 eb_752
noncomputable def d_X12_both_180 := gq_21 db00e_98 eb_14
noncomputable def d_X12_both_181 := gq_22 db00e_98 eb_124
noncomputable def d_X12_both_184 := gq_23 db00e_98 eb_20
theorem db00e_99 : Pf_ prog_14_method_49_code [(185, [0xa7, 0x00, 0x04]), (188, [0x03]), (189, [0xac]), (190, [0x1b]), (191, [0x9a, 0x00, 0x07]), (194, [0x1c]), (195, [0x99, 0x00, 0x07]), (198, [0x04]), (199, [0xa7, 0x00, 0x04]), (202, [0x03]), (203, [0xac])] := pf_ok prog_14_method_49_code _ 185 (by decide +kernel)
noncomputable def d_X12_both_185 := gq_0 db00e_99 eb_21
noncomputable def d_X12_both_188 := gq_1 db00e_99 eb_22
noncomputable def d_X12_both_189 := gq_2 db00e_99 eb_16
noncomputable def d_X12_both_190 := gq_3 db00e_99 eb_10
noncomputable def d_X12_both_191 := gq_4 db00e_99 eb_166
noncomputable def d_X12_both_194 := gq_5 db00e_99 eb_14
noncomputable def d_X12_both_195 := gq_6 db00e_99 eb_124
noncomputable def d_X12_both_198 := gq_7 db00e_99 eb_20
noncomputable def d_X12_both_199 := gq_8 db00e_99 eb_21
noncomputable def d_X12_both_202 := gq_9 db00e_99 eb_22
noncomputable def d_X12_both_203 := gq_10 db00e_99 eb_16
theorem db00e_100 : Pf_ prog_14_method_50_code [(0, [0x03]), (1, [0x3c]), (2, [0x2a]), (3, [0xb4, 0x00, 0x69]), (6, [0x2a]), (7, [0xb4, 0x01, 0xeb]), (10, [0x2e]), (11, [0x05]), (12, [0x9f, 0x00, 0xa2]), (15, [0x2a]), (16, [0xb4, 0x00, 0x69]), (19, [0x2a]), (20, [0xb4, 0x01, 0xeb]), (23, [0x2e]), (24, [0x06]), (25, [0x9f, 0x00, 0x95]), (28, [0x2a]), (29, [0xb4, 0x00, 0x69]), (32, [0x2a]), (33, [0xb4, 0x01, 0xeb]), (36, [0x2e]), (37, [0x3d]), (38, [0x2a]), (39, [0x59])] := pf_ok prog_14_method_50_code _ 0 (by decide +kernel)
noncomputable def d_X12_work_0 := gq_0 db00e_100 eb_22
noncomputable def d_X12_work_1 := gq_1 db00e_100 eb_225
noncomputable def d_X12_work_2 := gq_2 db00e_100 eb_0
noncomputable def d_X12_work_3 := gq_3 db00e_100 eb_1070
noncomputable def d_X12_work_6 := gq_4 db00e_100 eb_0
noncomputable def d_X12_work_7 := gq_5 db00e_100 eb_1084
noncomputable def d_X12_work_10 := gq_6 db00e_100 eb_38
noncomputable def d_X12_work_11 := gq_7 db00e_100 eb_11
noncomputable def d_X12_work_12 := gq_8 db00e_100 eb_1085
noncomputable def d_X12_work_15 := gq_9 db00e_100 eb_0
noncomputable def d_X12_work_16 := gq_10 db00e_100 eb_1070
noncomputable def d_X12_work_19 := gq_11 db00e_100 eb_0
noncomputable def d_X12_work_20 := gq_12 db00e_100 eb_1084
noncomputable def d_X12_work_23 := gq_13 db00e_100 eb_38
noncomputable def d_X12_work_24 := gq_14 db00e_100 eb_55
noncomputable def d_X12_work_25 := gq_15 db00e_100 eb_1086
noncomputable def d_X12_work_28 := gq_16 db00e_100 eb_0
noncomputable def d_X12_work_29 := gq_17 db00e_100 eb_1070
noncomputable def d_X12_work_32 := gq_18 db00e_100 eb_0
noncomputable def d_X12_work_33 := gq_19 db00e_100 eb_1084
noncomputable def d_X12_work_36 := gq_20 db00e_100 eb_38
noncomputable def d_X12_work_37 := gq_21 db00e_100 eb_28
noncomputable def d_X12_work_38 := gq_22 db00e_100 eb_0
noncomputable def d_X12_work_39 := gq_23 db00e_100 eb_47
theorem db00e_101 : Pf_ prog_14_method_50_code [(40, [0xb4, 0x01, 0xeb]), (43, [0x04]), (44, [0x60]), (45, [0xb5, 0x01, 0xeb]), (48, [0x1c]), (49, [0x99, 0x00, 0x08]), (52, [0x1c]), (53, [0x04]), (54, [0xa0, 0x00, 0x37]), (57, [0x2a]), (58, [0xb4, 0x00, 0x7b]), (61, [0x1b]), (62, [0x1c]), (63, [0x9a, 0x00, 0x0f]), (66, [0x2a]), (67, [0xb4, 0x00, 0x69]), (70, [0x2a]), (71, [0xb4, 0x01, 0xeb]), (74, [0x2e]), (75, [0xa7, 0x00, 0x11]), (78, [0x2a]), (79, [0xb4, 0x00, 0x78]), (82, [0x2a]), (83, [0xb4, 0x00, 0x69])] := pf_ok prog_14_method_50_code _ 40 (by decide +kernel)
noncomputable def d_X12_work_40 := gq_0 db00e_101 eb_1084
noncomputable def d_X12_work_43 := gq_1 db00e_101 eb_20
noncomputable def d_X12_work_44 := gq_2 db00e_101 eb_36
noncomputable def d_X12_work_45 := gq_3 db00e_101 eb_1087
noncomputable def d_X12_work_48 := gq_4 db00e_101 eb_14
noncomputable def d_X12_work_49 := gq_5 db00e_101 eb_506
noncomputable def d_X12_work_52 := gq_6 db00e_101 eb_14
noncomputable def d_X12_work_53 := gq_7 db00e_101 eb_20
noncomputable def d_X12_work_54 := gq_8 db00e_101 eb_312
noncomputable def d_X12_work_57 := gq_9 db00e_101 eb_0
noncomputable def d_X12_work_58 := gq_10 db00e_101 eb_1088
noncomputable def d_X12_work_61 := gq_11 db00e_101 eb_10
noncomputable def d_X12_work_62 := gq_12 db00e_101 eb_14
noncomputable def d_X12_work_63 := gq_13 db00e_101 eb_482
noncomputable def d_X12_work_66 := gq_14 db00e_101 eb_0
noncomputable def d_X12_work_67 := gq_15 db00e_101 eb_1070
noncomputable def d_X12_work_70 := gq_16 db00e_101 eb_0
noncomputable def d_X12_work_71 := gq_17 db00e_101 eb_1084
noncomputable def d_X12_work_74 := gq_18 db00e_101 eb_38
noncomputable def d_X12_work_75 := gq_19 db00e_101 eb_1089
noncomputable def d_X12_work_78 := gq_20 db00e_101 eb_0
noncomputable def d_X12_work_79 := gq_21 db00e_101 eb_1090
noncomputable def d_X12_work_82 := gq_22 db00e_101 eb_0
noncomputable def d_X12_work_83 := gq_23 db00e_101 eb_1070
theorem db00e_102 : Pf_ prog_14_method_50_code [(86, [0x2a]), (87, [0xb4, 0x01, 0xeb]), (90, [0x2e]), (91, [0x2e]), (92, [0x4f]), (93, [0x2a]), (94, [0x59]), (95, [0xb4, 0x01, 0xeb]), (98, [0x04]), (99, [0x60]), (100, [0xb5, 0x01, 0xeb]), (103, [0x84, 0x01, 0x01]), (106, [0xa7, 0x00, 0x41]), (109, [0x1c]), (110, [0x10, 0x21]), (112, [0xa0, 0x00, 0x1e]), (115, [0x2a]), (116, [0xb4, 0x00, 0x7b]), (119, [0x1b]), (120, [0x04]), (121, [0x64]), (122, [0x2a]), (123, [0xb4, 0x00, 0x7b]), (126, [0x1b])] := pf_ok prog_14_method_50_code _ 86 (by decide +kernel)
noncomputable def d_X12_work_86 := gq_0 db00e_102 eb_0
noncomputable def d_X12_work_87 := gq_1 db00e_102 eb_1084
noncomputable def d_X12_work_90 := gq_2 db00e_102 eb_38
noncomputable def d_X12_work_91 := gq_3 db00e_102 eb_38
noncomputable def d_X12_work_92 := gq_4 db00e_102 eb_39
noncomputable def d_X12_work_93 := gq_5 db00e_102 eb_0
noncomputable def d_X12_work_94 := gq_6 db00e_102 eb_47
noncomputable def d_X12_work_95 := gq_7 db00e_102 eb_1084
noncomputable def d_X12_work_98 := gq_8 db00e_102 eb_20
noncomputable def d_X12_work_99 := gq_9 db00e_102 eb_36
noncomputable def d_X12_work_100 := gq_10 db00e_102 eb_1087
noncomputable def d_X12_work_103 := gq_11 db00e_102 eb_231
noncomputable def d_X12_work_106 := gq_12 db00e_102 eb_1091
noncomputable def d_X12_work_109 := gq_13 db00e_102 eb_14
noncomputable def d_X12_work_110 := gq_14 db00e_102 eb_521
noncomputable def d_X12_work_112 := gq_15 db00e_102 eb_255
noncomputable def d_X12_work_115 := gq_16 db00e_102 eb_0
noncomputable def d_X12_work_116 := gq_17 db00e_102 eb_1088
noncomputable def d_X12_work_119 := gq_18 db00e_102 eb_10
noncomputable def d_X12_work_120 := gq_19 db00e_102 eb_20
noncomputable def d_X12_work_121 := gq_20 db00e_102 eb_49
noncomputable def d_X12_work_122 := gq_21 db00e_102 eb_0
noncomputable def d_X12_work_123 := gq_22 db00e_102 eb_1088
noncomputable def d_X12_work_126 := gq_23 db00e_102 eb_10
theorem db00e_103 : Pf_ prog_14_method_50_code [(127, [0x04]), (128, [0x64]), (129, [0x2e]), (130, [0x9a, 0x00, 0x07]), (133, [0x04]), (134, [0xa7, 0x00, 0x04]), (137, [0x03]), (138, [0x4f]), (139, [0xa7, 0x00, 0x20]), (142, [0x84, 0x01, 0xff]), (145, [0x2a]), (146, [0xb4, 0x00, 0x7b]), (149, [0x1b]), (150, [0x04]), (151, [0x64]), (152, [0x1c]), (153, [0x2a]), (154, [0xb4, 0x00, 0x7b]), (157, [0x1b]), (158, [0x04]), (159, [0x64]), (160, [0x2e]), (161, [0x2a]), (162, [0xb4, 0x00, 0x7b])] := pf_ok prog_14_method_50_code _ 127 (by decide +kernel)
noncomputable def d_X12_work_127 := gq_0 db00e_103 eb_20
noncomputable def d_X12_work_128 := gq_1 db00e_103 eb_49
noncomputable def d_X12_work_129 := gq_2 db00e_103 eb_38
noncomputable def d_X12_work_130 := gq_3 db00e_103 eb_166
noncomputable def d_X12_work_133 := gq_4 db00e_103 eb_20
noncomputable def d_X12_work_134 := gq_5 db00e_103 eb_21
noncomputable def d_X12_work_137 := gq_6 db00e_103 eb_22
noncomputable def d_X12_work_138 := gq_7 db00e_103 eb_39
noncomputable def d_X12_work_139 := gq_8 db00e_103 eb_704
noncomputable def d_X12_work_142 := gq_9 db00e_103 eb_1092
noncomputable def d_X12_work_145 := gq_10 db00e_103 eb_0
noncomputable def d_X12_work_146 := gq_11 db00e_103 eb_1088
noncomputable def d_X12_work_149 := gq_12 db00e_103 eb_10
noncomputable def d_X12_work_150 := gq_13 db00e_103 eb_20
noncomputable def d_X12_work_151 := gq_14 db00e_103 eb_49
noncomputable def d_X12_work_152 := gq_15 db00e_103 eb_14
noncomputable def d_X12_work_153 := gq_16 db00e_103 eb_0
noncomputable def d_X12_work_154 := gq_17 db00e_103 eb_1088
noncomputable def d_X12_work_157 := gq_18 db00e_103 eb_10
noncomputable def d_X12_work_158 := gq_19 db00e_103 eb_20
noncomputable def d_X12_work_159 := gq_20 db00e_103 eb_49
noncomputable def d_X12_work_160 := gq_21 db00e_103 eb_38
noncomputable def d_X12_work_161 := gq_22 db00e_103 eb_0
noncomputable def d_X12_work_162 := gq_23 db00e_103 eb_1088
theorem db00e_104 : Pf_ prog_14_method_50_code [(165, [0x1b]), (166, [0x2e]), (167, [0xb8, 0x01, 0xee]), (170, [0x4f]), (171, [0xa7, 0xff, 0x57]), (174, [0x2a]), (175, [0x59]), (176, [0xb4, 0x01, 0xeb]), (179, [0x04]), (180, [0x60]), (181, [0xb5, 0x01, 0xeb]), (184, [0x2a]), (185, [0xb4, 0x00, 0x7b]), (188, [0x03]), (189, [0x2e]), (190, [0xac])] := pf_ok prog_14_method_50_code _ 165 (by decide +kernel)
noncomputable def d_X12_work_165 := gq_0 db00e_104 eb_10
noncomputable def d_X12_work_166 := gq_1 db00e_104 eb_38
noncomputable def d_X12_work_167 := gq_2 db00e_104 eb_1093
noncomputable def d_X12_work_170 := gq_3 db00e_104 eb_39
noncomputable def d_X12_work_171 := gq_4 db00e_104 eb_1094
noncomputable def d_X12_work_174 := gq_5 db00e_104 eb_0
noncomputable def d_X12_work_175 := gq_6 db00e_104 eb_47
noncomputable def d_X12_work_176 := gq_7 db00e_104 eb_1084
noncomputable def d_X12_work_179 := gq_8 db00e_104 eb_20
noncomputable def d_X12_work_180 := gq_9 db00e_104 eb_36
noncomputable def d_X12_work_181 := gq_10 db00e_104 eb_1087
noncomputable def d_X12_work_184 := gq_11 db00e_104 eb_0
noncomputable def d_X12_work_185 := gq_12 db00e_104 eb_1088
noncomputable def d_X12_work_188 := gq_13 db00e_104 eb_22
noncomputable def d_X12_work_189 := gq_14 db00e_104 eb_38
noncomputable def d_X12_work_190 := gq_15 db00e_104 eb_16
theorem db00e_105 : Pf_ prog_14_method_51_code [(0, [0x1c]), (1, [0x02]), (2, [0xa0, 0x00, 0x05]), (5, [0x03]), (6, [0xac]), (7, [0x10, 0x14]), (9, [0x1b]), (10, [0x68]), (11, [0x1c]), (12, [0x60]), (13, [0x3e]), (14, [0x2a]), (15, [0x11, 0x02, 0x30]), (18, [0x1d]), (19, [0x68]), (20, [0xb5, 0x01, 0xeb]), (23, [0x2a]), (24, [0xb4, 0x01, 0xeb]), (27, [0x11, 0x02, 0x30]), (30, [0x1d]), (31, [0x68]), (32, [0x2a]), (33, [0xb4, 0x00, 0x6c]), (36, [0x1d])] := pf_ok prog_14_method_51_code _ 0 (by decide +kernel)
noncomputable def d_X12_tell_0 := gq_0 db00e_105 eb_14
noncomputable def d_X12_tell_1 := gq_1 db00e_105 eb_27
noncomputable def d_X12_tell_2 := gq_2 db00e_105 eb_496
noncomputable def d_X12_tell_5 := gq_3 db00e_105 eb_22
noncomputable def d_X12_tell_6 := gq_4 db00e_105 eb_16
noncomputable def d_X12_tell_7 := gq_5 db00e_105 eb_495
noncomputable def d_X12_tell_9 := gq_6 db00e_105 eb_10
noncomputable def d_X12_tell_10 := gq_7 db00e_105 eb_35
noncomputable def d_X12_tell_11 := gq_8 db00e_105 eb_14
noncomputable def d_X12_tell_12 := gq_9 db00e_105 eb_36
noncomputable def d_X12_tell_13 := gq_10 db00e_105 eb_29
noncomputable def d_X12_tell_14 := gq_11 db00e_105 eb_0
noncomputable def d_X12_tell_15 := gq_12 db00e_105 eb_873
noncomputable def d_X12_tell_18 := gq_13 db00e_105 eb_30
noncomputable def d_X12_tell_19 := gq_14 db00e_105 eb_35
noncomputable def d_X12_tell_20 := gq_15 db00e_105 eb_1087
noncomputable def d_X12_tell_23 := gq_16 db00e_105 eb_0
noncomputable def d_X12_tell_24 := gq_17 db00e_105 eb_1084
noncomputable def d_X12_tell_27 := gq_18 db00e_105 eb_873
noncomputable def d_X12_tell_30 := gq_19 db00e_105 eb_30
noncomputable def d_X12_tell_31 := gq_20 db00e_105 eb_35
noncomputable def d_X12_tell_32 := gq_21 db00e_105 eb_0
noncomputable def d_X12_tell_33 := gq_22 db00e_105 eb_1071
noncomputable def d_X12_tell_36 := gq_23 db00e_105 eb_30
theorem db00e_106 : Pf_ prog_14_method_51_code [(37, [0x2e]), (38, [0x60]), (39, [0xa2, 0x00, 0x22]), (42, [0x2a]), (43, [0xb6, 0x01, 0xf1]), (46, [0x99, 0x00, 0x07]), (49, [0x04]), (50, [0xa7, 0x00, 0x04]), (53, [0x03]), (54, [0x36, 0x04]), (56, [0x2a]), (57, [0xb6, 0x01, 0xf1]), (60, [0x36, 0x05]), (62, [0x15, 0x04]), (64, [0x99, 0x00, 0x06]), (67, [0x15, 0x05]), (69, [0xac]), (70, [0xa7, 0xff, 0xd1]), (73, [0x03]), (74, [0xac])] := pf_ok prog_14_method_51_code _ 37 (by decide +kernel)
noncomputable def d_X12_tell_37 := gq_0 db00e_106 eb_38
noncomputable def d_X12_tell_38 := gq_1 db00e_106 eb_36
noncomputable def d_X12_tell_39 := gq_2 db00e_106 eb_444
noncomputable def d_X12_tell_42 := gq_3 db00e_106 eb_0
noncomputable def d_X12_tell_43 := gq_4 db00e_106 eb_1095
noncomputable def d_X12_tell_46 := gq_5 db00e_106 eb_124
noncomputable def d_X12_tell_49 := gq_6 db00e_106 eb_20
noncomputable def d_X12_tell_50 := gq_7 db00e_106 eb_21
noncomputable def d_X12_tell_53 := gq_8 db00e_106 eb_22
noncomputable def d_X12_tell_54 := gq_9 db00e_106 eb_134
noncomputable def d_X12_tell_56 := gq_10 db00e_106 eb_0
noncomputable def d_X12_tell_57 := gq_11 db00e_106 eb_1095
noncomputable def d_X12_tell_60 := gq_12 db00e_106 eb_135
noncomputable def d_X12_tell_62 := gq_13 db00e_106 eb_77
noncomputable def d_X12_tell_64 := gq_14 db00e_106 eb_461
noncomputable def d_X12_tell_67 := gq_15 db00e_106 eb_126
noncomputable def d_X12_tell_69 := gq_16 db00e_106 eb_16
noncomputable def d_X12_tell_70 := gq_17 db00e_106 eb_450
noncomputable def d_X12_tell_73 := gq_18 db00e_106 eb_22
noncomputable def d_X12_tell_74 := gq_19 db00e_106 eb_16
theorem db00e_107 : Pf_ prog_14_method_52_code [(0, [0x2a]), (1, [0xb4, 0x00, 0x8a]), (4, [0x1b]), (5, [0x2a]), (6, [0xb4, 0x01, 0x56]), (9, [0x4f]), (10, [0x2a]), (11, [0xb4, 0x00, 0x8d]), (14, [0x1b]), (15, [0x1c]), (16, [0x4f]), (17, [0xb1])] := pf_ok prog_14_method_52_code _ 0 (by decide +kernel)
noncomputable def d_X12_miss_0 := gq_0 db00e_107 eb_0
noncomputable def d_X12_miss_1 := gq_1 db00e_107 eb_1096
noncomputable def d_X12_miss_4 := gq_2 db00e_107 eb_10
noncomputable def d_X12_miss_5 := gq_3 db00e_107 eb_0
noncomputable def d_X12_miss_6 := gq_4 db00e_107 eb_966
noncomputable def d_X12_miss_9 := gq_5 db00e_107 eb_39
noncomputable def d_X12_miss_10 := gq_6 db00e_107 eb_0
noncomputable def d_X12_miss_11 := gq_7 db00e_107 eb_1097
noncomputable def d_X12_miss_14 := gq_8 db00e_107 eb_10
noncomputable def d_X12_miss_15 := gq_9 db00e_107 eb_14
noncomputable def d_X12_miss_16 := gq_10 db00e_107 eb_39
noncomputable def d_X12_miss_17 := gq_11 db00e_107 eb_8
theorem db00e_108 : Pf_ prog_14_method_53_code [(0, [0x2a]), (1, [0xb4, 0x00, 0x3a]), (4, [0x1b]), (5, [0x2e]), (6, [0x2a]), (7, [0xb4, 0x00, 0x3d]), (10, [0x1b])] := pf_ok prog_14_method_53_code _ 0 (by decide +kernel)
noncomputable def d_X12_drop_0 := gq_0 db00e_108 eb_0
noncomputable def d_X12_drop_1 := gq_1 db00e_108 eb_322
noncomputable def d_X12_drop_4 := gq_2 db00e_108 eb_10
noncomputable def d_X12_drop_5 := gq_3 db00e_108 eb_38
noncomputable def d_X12_drop_6 := gq_4 db00e_108 eb_0
noncomputable def d_X12_drop_7 := gq_5 db00e_108 eb_324
noncomputable def d_X12_drop_10 := gq_6 db00e_108 eb_10
end
