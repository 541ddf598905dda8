/-! beats of the reference: unfolded -/
theorem Iv_step {h : Hp_} {k : Nat} {x a : Int32} (I : Iv h) (bx : rin x.toInt (0, 3)) (ba : rin a.toInt (0, 1440)) (o : ¬ x = 1 → rin a.toInt (0, 15)) : Iv (h_im (h_im h 228 k x) 229 k a) := by
  obtain ⟨j1, j2, j3, j4⟩ := I.2.2.2.2.2
  have e : ∀ b j, b ≠ 228 → b ≠ 229 → h_i (h_im (h_im h 228 k x) 229 k a) b j = h_i h b j := fun b j n1 n2 => by rw [im_ne n2, im_ne n1]
  have e8 : ∀ j, h_i (h_im (h_im h 228 k x) 229 k a) 228 j = if j = k then x else h_i h 228 j := fun j => by
    rw [im_ne (by decide), h_i_im]
    by_cases y : j = k
    · rw [if_pos ⟨rfl, y⟩, if_pos y]
    · rw [if_neg (fun u => y u.2), if_neg y]
  have e9 : ∀ j, h_i (h_im (h_im h 228 k x) 229 k a) 229 j = if j = k then a else h_i h 229 j := fun j => by
    rw [h_i_im, im_ne (by decide)]
    by_cases y : j = k
    · rw [if_pos ⟨rfl, y⟩, if_pos y]
    · rw [if_neg (fun u => y u.2), if_neg y]
  refine ⟨I.1, fun b j => ?_, I.2.2.1, I.2.2.2.1, ?_, fun j hj => ?_, fun j hj hm => ?_, j3, fun t ht => ?_⟩
  · by_cases n1 : b = 228
    · subst n1
      rw [e8 j]
      by_cases y : j = k
      · rw [if_pos y, tfa_tf (show tfa 228 = some (0, 3) by decide +kernel)]; exact bx
      · rw [if_neg y]; exact I.2.1 228 j
    · by_cases n2 : b = 229
      · subst n2
        rw [e9 j]
        by_cases y : j = k
        · rw [if_pos y, tfa_tf (show tfa 229 = some (0, 1440) by decide +kernel)]; exact ba
        · rw [if_neg y]; exact I.2.1 229 j
      · rw [e b j n1 n2]; exact I.2.1 b j
  · obtain ⟨c, N, u, v, l, m⟩ := I.2.2.2.2.1
    exact ⟨c, N, u, v, l, by rw [e 0 0 (by decide) (by decide)]; exact m⟩
  · rw [e8 j] at hj
    rw [e9 j]
    by_cases y : j = k
    · rw [if_pos y] at hj ⊢
      exact o hj
    · rw [if_neg y] at hj ⊢
      exact j1 j hj
  · rw [e 0 7 (by decide) (by decide)] at hm
    exact j2 j hj hm
  · rw [show h_i (h_im (h_im h 228 k x) 229 k a) 231 = h_i h 231 from funext (fun k => e 231 k (by decide) (by decide)), e 232 t (by decide) (by decide)]
    exact j4 t ht
def wzu : List Nat := [1043, 1044, 228999, 229999, 230999]
def Uv (h0 h : Hp_) : Prop := Iv h ∧ Fr wzu h0 h ∧ ∀ k, k < 150 * (h_i h0 1 42).toNatClampNeg → h_i h 228 k = h_i h0 228 k
theorem Uv.n44 {h0 h : Hp_} (U : Uv h0 h) (x : Int32) : Uv h0 (h_im h 1 44 x) := ⟨U.1.im (by rw [show tf 1 44 = rtop by decide +kernel]; exact rtop_in _) (by decide), U.2.1.im (by decide +kernel), fun k hk => by rw [im_ne (by decide)]; exact U.2.2 k hk⟩
theorem Uv.st {h0 h : Hp_} {x3 a b n s0 : Int32} (U : Uv h0 h) (hB : (h_i h0 1 42).toInt ≤ 11) (ne : ¬ h_i h 1 43 = 150) (e0 : s0 = 150 * h_i h 1 42 + h_i h 1 43) (bx : rin x3.toInt (0, 3)) (ba : rin a.toInt (0, 1440)) (o : ¬ x3 = 1 → rin a.toInt (0, 15)) :
    vp_in s0 1800 ∧ Uv h0 (h_im (h_im (h_im (h_im (h_im h 228 s0.toNatClampNeg x3) 229 s0.toNatClampNeg a) 230 s0.toNatClampNeg b) 1 43 ((h_i h 1 43) + 1)) 1 44 n) := by
  obtain ⟨I, F, C⟩ := U
  have e42 : h_i h 1 42 = h_i h0 1 42 := (F.2 1 42 (by decide +kernel)).1
  have r42 := I.2.1 1 42
  rw [show tf 1 42 = (0, 12) by decide +kernel] at r42
  have b0 : 0 ≤ (h_i h 1 42).toInt := r42.1
  have b1 : (h_i h 1 42).toInt ≤ 11 := by rw [e42]; exact hB
  have r43 := I.2.1 1 43
  rw [show tf 1 43 = (0, 150) by decide +kernel] at r43
  have u0 : 0 ≤ (h_i h 1 43).toInt := r43.1
  have u1' : (h_i h 1 43).toInt ≤ 150 := r43.2
  have t150 : (150 : Int32).toInt = 150 := rfl
  have t1 : (1 : Int32).toInt = 1 := rfl
  have u1 : (h_i h 1 43).toInt ≤ 149 := by
    rcases Int.lt_or_le (h_i h 1 43).toInt 150 with z | z
    · omega
    · exact absurd (Int32.toInt_inj.mp (by rw [t150]; omega)) ne
  have m1 : (150 * h_i h 1 42).toInt = 150 * (h_i h 1 42).toInt := by rw [tx_mul (by rw [t150]; omega) (by rw [t150]; omega), t150]
  have m2 : s0.toInt = 150 * (h_i h 1 42).toInt + (h_i h 1 43).toInt := by rw [e0, tx_add (by omega) (by omega), m1]
  have ns := n_nat (x := s0) (by omega)
  have nB := n_nat (x := h_i h 1 42) b0
  have e43 : (h_i h 1 43 + 1).toInt = (h_i h 1 43).toInt + 1 := by rw [tx_add (by rw [t1]; omega) (by rw [t1]; omega), t1]
  refine ⟨dp_in (lo := 0) (hi := 1799) ⟨by show (0 : Int) ≤ _; omega, by show _ ≤ (1799 : Int); omega⟩ (by decide) (by decide), ?_, ?_, fun k hk => ?_⟩
  · exact (((i2xx 230 (by decide +kernel) (by decide) (by decide) (Iv_step I bx ba o) _ b).im (a := 1) (k := 43) (by rw [show tf 1 43 = (0, 150) by decide +kernel, e43]; exact ⟨by show (0 : Int) ≤ _; omega, by show _ ≤ (150 : Int); omega⟩) (by decide)).im (by rw [show tf 1 44 = rtop by decide +kernel]; exact rtop_in _) (by decide))
  · exact ((((F.im (inw_row (by decide +kernel) _)).im (inw_row (by decide +kernel) _)).im (inw_row (by decide +kernel) _)).im (by decide +kernel)).im (by decide +kernel)
  · rw [← e42] at hk
    rw [im_ne (by decide), im_ne (by decide), im_ne (by decide), im_ne (by decide), h_i_im, if_neg (fun u => by have := u.2; omega)]
    exact C k (by rw [← e42]; exact hk)
theorem on_2 {n : Nat} (h : n < 100000) : Int32.ofNat n + 2 = Int32.ofNat (n + 2) := by
  have t : (2 : Int32).toInt = 2 := rfl
  have a := on_j (n := n) (by omega)
  exact Int32.toInt_inj.mp (by rw [tx_add (by rw [t]; omega) (by rw [t]; omega), t, on_j (n := n + 2) (by omega)]; omega)
theorem on_3 {n : Nat} (h : n < 100000) : Int32.ofNat n + 3 = Int32.ofNat (n + 3) := by
  have t : (3 : Int32).toInt = 3 := rfl
  have a := on_j (n := n) (by omega)
  exact Int32.toInt_inj.mp (by rw [tx_add (by rw [t]; omega) (by rw [t]; omega), t, on_j (n := n + 3) (by omega)]; omega)
def Uk (h0 : Hp_) (j : Nat) : Int32 → Hp_ → Prop := fun r h' => Uv h0 h' ∧ (¬ r = 0 → h_i h' 1 44 = Int32.ofNat j)
theorem uf_loop (h0 : Hp_) (N : Nat) (hN : h_i h0 1 36 = Int32.ofNat N) (lN : N ≤ 559) (hB : (h_i h0 1 42).toInt ≤ 11) (g d : Nat)
    (B : ∀ g', g = g' + 1 → ∀ (f i j : Nat) (h : Hp_), sqS (stD (h_i h0 226) g') f i j → j ≤ N → (j = N ∨ h_i h0 226 j = 5) → Uv h0 h → Ci (m_X12_unfold (d + g + 0) 0 0) [.ref 1, .int (Int32.ofNat i), .int 1] h (Uk h0 j)) (j : Nat) (hj : j ≤ N) (ej : j = N ∨ h_i h0 226 j = 5) :
    ∀ (f i : Nat) (h : Hp_), sqS (stD (h_i h0 226) g) f i j → Uv h0 h → h_i h 1 44 = Int32.ofNat i → AW (m_X12_unfold (d + g + 1) 0 0) 0 0 5 [(0, .ref 1), (2, .int 1)] [] h (kI (Uk h0 j)) := by
  have oN := on_j (n := N) (by omega)
  intro f
  induction f with
  | zero =>
    intro i h q U en
    have q : i = j := q
    subst q
    have e36 : h_i h 1 36 = Int32.ofNat N := by rw [(U.2.1.2 1 36 (by decide +kernel)).1]; exact hN
    have e6 : ∀ k, h_i h 226 k = h_i h0 226 k := fun k => fr_i U.2.1 (by decide +kernel) k
    have oi := on_j (n := i) (by omega)
    have ki := on_k (n := i) (by omega)
    have fin : Uk h0 i 1 h := ⟨U, fun _ => en⟩
    refine t_X12_unfold_5 (d + g) h U.1.1 1 _ ⟨fun _ => fin, fun z => ?_⟩
    rw [e36, en] at z
    have z := q_nle z
    have c5 : h_i h0 226 i = 5 := by
      rcases ej with u | u
      · omega
      · exact u
    rw [en, ki, e6]
    exact ⟨on_in (by omega) (by decide), fun _ => fin, fun y => absurd c5 y⟩
  | succ f ih =>
    intro i h q U en
    obtain ⟨i2, st, q⟩ := q
    have l1 := stD_lt st
    have l2 := sqS_le (fun _ _ t => stD_lt t) q
    have e36 : h_i h 1 36 = Int32.ofNat N := by rw [(U.2.1.2 1 36 (by decide +kernel)).1]; exact hN
    have e6 : ∀ k, h_i h 226 k = h_i h0 226 k := fun k => fr_i U.2.1 (by decide +kernel) k
    have oi := on_j (n := i) (by omega)
    have ki := on_k (n := i) (by omega)
    have vi : vp_in (Int32.ofNat i) 560 := on_in (by omega) (by decide)
    refine t_X12_unfold_5 (d + g) h U.1.1 1 _ ⟨fun z => ?_, fun _ => ?_⟩
    · rw [e36, en] at z
      have z := q_le.mp z
      omega
    rw [en, ki, e6]
    have base : stB (h_i h0 226) i i2 → ¬ h_i h0 226 i = 5 ∧ ¬ h_i h0 226 i = 4 ∧ (¬ h_i h 1 43 = 150 → AW (m_X12_unfold (d + g + 1) 0 0) 0 0 158 [(0, .ref 1), (2, .int 1), (3, .int (h_i h0 226 i))] [.int ((150 * (h_i h 1 42)) + (h_i h 1 43))] h (kI (Uk h0 j))) := by
      intro s
      have n1 : Int32.ofNat i + 1 = Int32.ofNat (i + 1) := on_s (by omega)
      have v1 : i + 1 < 560 → vp_in (Int32.ofNat (i + 1)) 560 := fun l => on_in l (by decide)
      rcases s with ⟨a, b, c⟩ | ⟨a, b, c⟩ | ⟨a, b, b', c⟩ | ⟨a, c⟩
      · refine ⟨by rw [a]; decide, by rw [a]; decide, fun ne => ?_⟩
        rw [a]
        have ka := on_k (n := i + 1) (by omega)
        have S := U.st (x3 := 0) (a := h_i h 226 (i + 1)) (b := 0) (n := Int32.ofNat (i + 2)) hB ne rfl ⟨by decide, by decide⟩ (by rw [e6]; exact ⟨b.1, by have : (h_i h0 226 (i + 1)).toInt ≤ 15 := b.2; show _ ≤ (1440 : Int); omega⟩) (fun _ => by rw [e6]; exact b)
        generalize ((150 * (h_i h 1 42)) + (h_i h 1 43)) = s0 at S ⊢
        have v := S.1
        refine t_X12_unfold_158 (d + g) h U.1.1 1 0 s0 _ ⟨fun y => absurd y (by decide), fun _ => ⟨v, fun _ => ⟨?_, v, fun _ => ⟨v, fun _ => ⟨fun _ => ?_, fun y => absurd y (by decide)⟩, fun y => absurd y (by decide)⟩, fun y => absurd y (by decide)⟩, fun y => absurd y (by decide)⟩⟩
        · rw [en, n1]; exact v1 (by omega)
        · rw [en, n1, ka, on_2 (by omega)]
          exact ih (i + 2) _ (by rw [← c]; exact q) S.2 im_at
      · refine ⟨by rw [a]; decide, by rw [a]; decide, fun ne => ?_⟩
        rw [a]
        have ka := on_k (n := i + 1) (by omega)
        have S := U.st (x3 := 1) (a := h_i h 226 (i + 1)) (b := 0) (n := Int32.ofNat (i + 2)) hB ne rfl ⟨by decide, by decide⟩ (by rw [e6]; exact ⟨by have : 1 ≤ (h_i h0 226 (i + 1)).toInt := b.1; show (0 : Int) ≤ _; omega, by have : (h_i h0 226 (i + 1)).toInt ≤ 240 := b.2; show _ ≤ (1440 : Int); omega⟩) (fun y => absurd rfl y)
        generalize ((150 * (h_i h 1 42)) + (h_i h 1 43)) = s0 at S ⊢
        have v := S.1
        refine t_X12_unfold_158 (d + g) h U.1.1 1 1 s0 _ ⟨fun y => absurd y (by decide), fun _ => ⟨v, fun _ => ⟨?_, v, fun _ => ⟨v, fun _ => ⟨fun _ => ?_, fun y => absurd y (by decide)⟩, fun y => absurd y (by decide)⟩, fun y => absurd y (by decide)⟩, fun y => absurd y (by decide)⟩⟩
        · rw [en, n1]; exact v1 (by omega)
        · rw [en, n1, ka, on_2 (by omega)]
          exact ih (i + 2) _ (by rw [← c]; exact q) S.2 im_at
      · refine ⟨by rw [a]; decide, by rw [a]; decide, fun ne => ?_⟩
        rw [a]
        have ka := on_k (n := i + 1) (by omega)
        have kb := on_k (n := i + 2) (by omega)
        have S := U.st (x3 := 2) (a := h_i h 226 (i + 1)) (b := h_i h 226 (i + 2)) (n := Int32.ofNat (i + 3)) hB ne rfl ⟨by decide, by decide⟩ (by rw [e6]; exact ⟨b.1, by have : (h_i h0 226 (i + 1)).toInt ≤ 15 := b.2; show _ ≤ (1440 : Int); omega⟩) (fun _ => by rw [e6]; exact b)
        generalize ((150 * (h_i h 1 42)) + (h_i h 1 43)) = s0 at S ⊢
        have v := S.1
        refine t_X12_unfold_158 (d + g) h U.1.1 1 2 s0 _ ⟨fun y => absurd y (by decide), fun _ => ⟨v, fun _ => ⟨?_, v, fun y => absurd rfl y, fun _ => ⟨?_, v, fun _ => ⟨fun y => absurd rfl y, fun _ => ?_⟩, fun y => absurd y (by decide)⟩⟩, fun y => absurd y (by decide)⟩⟩
        · rw [en, n1]; exact v1 (by omega)
        · rw [en, on_2 (by omega)]; exact on_in (by omega) (by decide)
        · rw [en, n1, ka, on_2 (by omega), kb, on_3 (by omega)]
          exact ih (i + 3) _ (by rw [← c]; exact q) S.2 im_at
      · refine ⟨by rw [a]; decide, by rw [a]; decide, fun ne => ?_⟩
        rw [a]
        have S := U.st (x3 := 3) (a := 0) (b := 0) (n := Int32.ofNat (i + 1)) hB ne rfl ⟨by decide, by decide⟩ ⟨by decide, by decide⟩ (fun _ => ⟨by decide, by decide⟩)
        generalize ((150 * (h_i h 1 42)) + (h_i h 1 43)) = s0 at S ⊢
        have v := S.1
        refine t_X12_unfold_158 (d + g) h U.1.1 1 3 s0 _ ⟨fun y => absurd y (by decide), fun _ => ⟨v, fun y => absurd rfl y, fun _ => ⟨v, fun _ => ⟨v, fun y => absurd rfl y, fun _ => ?_⟩, fun y => absurd y (by decide)⟩⟩⟩
        rw [en, n1]
        exact ih (i + 1) _ (by rw [← c]; exact q) S.2 im_at
    have nb : ∀ s : stB (h_i h0 226) i i2, vp_in (Int32.ofNat i) 560 ∧ ((h_i h0 226 i = 5 → Uk h0 j 1 h) ∧ (¬ h_i h0 226 i = 5 → vp_in (Int32.ofNat i) 560 ∧ ((¬ h_i h0 226 i = 4 → (¬ (h_i h 1 43) = 150 → (¬ 12 = (h_i h 1 42) → AW (m_X12_unfold (d + g + 1) 0 0) 0 0 158 [(0, .ref 1), (2, .int 1), (3, .int (h_i h0 226 i))] [.int ((150 * (h_i h 1 42)) + (h_i h 1 43))] h (kI (Uk h0 j))) ∧ (12 = (h_i h 1 42) → AW (m_X12_unfold (d + g + 1) 0 0) 0 0 158 [(0, .ref 1), (2, .int 1), (3, .int (h_i h0 226 i))] [.int 0] h (kI (Uk h0 j)))) ∧ ((h_i h 1 43) = 150 → Uk h0 j 0 h)) ∧ (h_i h0 226 i = 4 → Ci (m_X12_unfold (d + g + 0) 0 0) [.ref 1, .int ((Int32.ofNat i) + 1), .int 1] h (fun r10 h8 => Wf h8 ∧ ((¬ r10 = 0 → vp_in ((h_i h8 1 44) + 1) 560 ∧ (AW (m_X12_unfold (d + g + 1) 0 0) 0 0 84 [(0, .ref 1), (2, .int 1), (4, .int ((Int32.ofNat i) + 1)), (5, .int (h_i h8 1 44)), (6, .int (h_i h8 226 (((h_i h8 1 44) + 1) : Int32).toNatClampNeg)), (7, .int 1)] [] h8 (kI (Uk h0 j)))) ∧ (r10 = 0 → Uk h0 j 0 h8))))))) := by
      intro s
      obtain ⟨b5, b4, b⟩ := base s
      refine ⟨vi, fun y => absurd y b5, fun _ => ⟨vi, fun _ => ⟨fun ne => ⟨fun _ => b ne, fun y => ?_⟩, fun _ => ⟨U, fun z => absurd rfl z⟩⟩, fun y => absurd y b4⟩⟩
      have e42 : h_i h 1 42 = h_i h0 1 42 := (U.2.1.2 1 42 (by decide +kernel)).1
      rw [← e42, ← y] at hB
      exact absurd hB (by decide)
    cases g with
    | zero => exact nb st
    | succ g =>
      rcases st with s | ⟨c4, f2, j2, w2, c5, tm, ei⟩
      · exact nb s
      · have l3 := sqS_le (fun _ _ t => stD_lt t) w2
        have n1 : Int32.ofNat i + 1 = Int32.ofNat (i + 1) := on_s (by omega)
        refine ⟨vi, fun y => absurd (c4.symm.trans y) (by decide), fun _ => ⟨vi, fun y => absurd c4 y, fun _ => ?_⟩⟩
        rw [n1]
        refine Ci.mono (B g rfl f2 (i + 1) j2 h w2 (by omega) (Or.inr c5) U) (fun r h8 k => ⟨k.1.1.1, fun nr => ?_, fun er => ⟨k.1, fun y => absurd rfl y⟩⟩)
        have e44 := k.2 nr
        have n2 : Int32.ofNat j2 + 1 = Int32.ofNat (j2 + 1) := on_s (by omega)
        have k2 := on_k (n := j2 + 1) (by omega)
        rw [e44, n2, k2, fr_i k.1.2.1 (a := 226) (by decide +kernel)]
        refine ⟨on_in (by omega) (by decide), ?_⟩
        have t0 : 1 ≤ (h_i h0 226 (j2 + 1)).toInt := tm.1
        have t1 : (h_i h0 226 (j2 + 1)).toInt ≤ 20 := tm.2
        generalize h_i h0 226 (j2 + 1) = x6 at t0 t1 ⊢
        have o1 : (1 : Int32).toInt = 1 := rfl
        have out : ∀ h9, Uv h0 h9 → AW (m_X12_unfold (d + (g + 1) + 1) 0 0) 0 0 5 [(0, .ref 1), (2, .int 1)] [] (h_im h9 1 44 (Int32.ofNat j2 + 2)) (kI (Uk h0 j)) := by
          intro h9 U9
          rw [on_2 (by omega)]
          exact ih (j2 + 2) _ (by rw [← ei]; exact q) (U9.n44 _) im_at
        have tl : ∀ (n : Nat) (x7 : Int32) (h9 : Hp_), Uv h0 h9 → 1 ≤ x7.toInt → x6.toInt - x7.toInt ≤ n → AW (m_X12_unfold (d + (g + 1) + 1) 0 0) 0 0 84 [(0, .ref 1), (2, .int 1), (4, .int (Int32.ofNat (i + 1))), (5, .int (Int32.ofNat j2)), (6, .int x6), (7, .int x7)] [] h9 (kI (Uk h0 j)) := by
          intro n
          induction n with
          | zero =>
            intro x7 h9 U9 a7 m
            refine t_X12_unfold_84 (d + (g + 1)) h9 U9.1.1 1 _ _ x6 x7 _ ⟨fun _ => out h9 U9, fun z => ?_⟩
            have z := q_nle z
            omega
          | succ n ih2 =>
            intro x7 h9 U9 a7 m
            refine t_X12_unfold_84 (d + (g + 1)) h9 U9.1.1 1 _ _ x6 x7 _ ⟨fun _ => out h9 U9, fun z => ?_⟩
            have z := q_nle z
            have e7 : (x7 + 1).toInt = x7.toInt + 1 := by rw [tx_add (by rw [o1]; omega) (by rw [o1]; omega), o1]
            refine Ci.mono (B g rfl f2 (i + 1) j2 h9 w2 (by omega) (Or.inr c5) U9) (fun r h10 k => ⟨k.1.1.1, fun _ => ih2 _ h10 k.1 (by omega) (by omega), fun _ => ⟨k.1, fun y => absurd rfl y⟩⟩)
        exact tl 20 1 h8 k.1 (by decide) (by rw [o1]; omega)
theorem c_unfold (h0 : Hp_) (N : Nat) (hN : h_i h0 1 36 = Int32.ofNat N) (lN : N ≤ 559) (hB : (h_i h0 1 42).toInt ≤ 11) : ∀ (g d f i j : Nat) (h : Hp_), sqS (stD (h_i h0 226) g) f i j → j ≤ N → (j = N ∨ h_i h0 226 j = 5) → Uv h0 h → Ci (m_X12_unfold (d + g + 1) 0 0) [.ref 1, .int (Int32.ofNat i), .int 1] h (Uk h0 j) := by
  intro g
  induction g with
  | zero =>
    intro d f i j h q hj ej U
    exact t_X12_unfold (d + 0) h U.1.1 _ 1 _ (uf_loop h0 N hN lN hB 0 d (fun g' e => absurd e (by omega)) j hj ej f i _ q (U.n44 _) im_at)
  | succ g ih =>
    intro d f i j h q hj ej U
    exact t_X12_unfold (d + (g + 1)) h U.1.1 _ 1 _ (uf_loop h0 N hN lN hB (g + 1) d (fun g' e f i j h q hj ej U => by
      have e : g = g' := by omega
      subst e
      exact ih d f i j h q hj ej U) j hj ej f i _ q (U.n44 _) im_at)
