/-! texts of the reference kept -/
theorem Iv_codes {h h2 : Hp_} {t : Nat} {z : Int32} (I : Iv h) (he : ∀ a j, a ≠ 231 → h_i h2 a j = h_i h a j) (hs : h_sh h2 = h_sh h) (hr : h_r h2 = h_r h) (ht : t < 40) (hz : rin z.toInt (0, 560)) (out : ∀ j, (j < 560 * t ∨ 560 * t + 560 ≤ j) → h_i h2 231 j = h_i h 231 j) (pc : ∃ f, pcl (t / 20 + 1) (h_i h2 231) f (560 * t) (560 * t + z.toNatClampNeg)) : Iv (h_im h2 232 t z) := by
  obtain ⟨j1, j2, j3, j4⟩ := I.2.2.2.2.2
  refine ⟨⟨fun q hq => ?_, fun q hq => ?_⟩, fun a k => ?_, fun k => ?_, ?_, ?_, fun k hk => ?_, fun j hj hm => ?_, fun c N a b => ?_, fun t' ht' => ?_⟩
  · show h_sh h2 q.1 = _
    rw [hs]; exact I.1.1 q hq
  · show h_r h2 q.1 q.2.1 = _
    rw [hr]; exact I.1.2 q hq
  · rw [h_i_im]
    split
    · rename_i e
      rw [e.1, tfa_tf (show tfa 232 = some (0, 560) by decide +kernel)]; exact hz
    · by_cases n : a = 231
      · rw [n, tfa_tf (show tfa 231 = some rtop by decide +kernel)]; exact rtop_in _
      · rw [he a k n]; exact I.2.1 a k
  · show h_r h2 15 k = none ∨ ∃ c, h_r h2 15 k = some c ∧ (401 ≤ c ∧ c ≤ 412 ∧ h_sh h2 c = some (12, 17))
    rw [hr, hs]; exact I.2.2.1 k
  · show ∃ i, i < 4 ∧ h_r h2 11 4 = some (1000 + i)
    rw [hr]; exact I.2.2.2.1
  · obtain ⟨c, N, a, b, l, m⟩ := I.2.2.2.2.1
    exact ⟨c, N, by show h_r h2 0 15 = _; rw [hr]; exact a, by show h_sh h2 c = _; rw [hs]; exact b, l, by rw [im_ne (by decide), he 0 0 (by decide)]; exact m⟩
  · rw [im_ne (by decide), he 228 k (by decide)] at hk
    rw [im_ne (by decide), he 229 k (by decide)]
    exact j1 k hk
  · rw [im_ne (by decide), he 0 7 (by decide)] at hm
    show h_sh h2 _ = _
    rw [hs]; exact j2 j hj hm
  · have a : h_r h2 0 15 = some c := a
    have b : h_sh h2 c = some (3, N) := b
    rw [hr] at a
    rw [hs] at b
    show Gr (h_sh h2) N
    rw [hs]; exact j3 c N a b
  · rw [show h_i (h_im h2 232 t z) 231 = h_i h2 231 from funext (fun k => im_ne (by decide)), h_i_im]
    by_cases y : t' = t
    · subst y
      rw [if_pos ⟨rfl, rfl⟩]; exact pc
    · rw [if_neg (fun u => y u.2), he 232 t' (by decide)]
      obtain ⟨f, p⟩ := j4 t' ht'
      have sz := dp_rg I 232 t' (show tfa 232 = some (0, 560) by decide +kernel)
      have nz := n_nat sz.1
      have s1 : (h_i h 232 t').toInt ≤ 560 := sz.2
      exact ⟨f, pcl_same (fun x a b => out x (by omega)) p⟩
def wzt : List Nat := [1032, 1033, 1034, 1035, 1036, 1037, 226999, 231999, 232999, 233999, 234999, 235999]
theorem i32 {h : Hp_} (I : Iv h) {x : Int32} (b : rin x.toInt (0, 160)) : Iv (h_im h 1 32 x) := I.im (by rw [show tf 1 32 = (0, 160) by decide +kernel]; exact b) (by decide)
theorem i235 {h : Hp_} (I : Iv h) (k : Nat) {x : Int32} (b : rin x.toInt (0, 20)) : Iv (h_im h 235 k x) := I.im (by rw [tfa_tf (show tfa 235 = some (0, 20) by decide +kernel)]; exact b) (jw_jr (by decide) (by decide) _)
theorem tx_loop (d s m : Nat) (hs : s < 2) (lm : m < 20) {h h6 : Hp_} (x2 x3 : Int32) (I6 : Iv h6) (hm : h_i h6 235 s = Int32.ofNat m) (e3 : x3.toInt = ((20 * s + m : Nat) : Int)) (pc : ∃ f, pcl (s + 1) (h_i h6 226) f 0 (sN h6)) :
    ∀ (n k : Nat) (h2 : Hp_), k + n = sN h6 → (∀ a j, a ≠ 231 → h_i h2 a j = h_i h6 a j) → h_sh h2 = h_sh h6 → h_r h2 = h_r h6 → Fr wzt h h2 → (∀ j, j < k → h_i h2 231 (560 * (20 * s + m) + j) = h_i h6 226 j) → (∀ j, (j < 560 * (20 * s + m) ∨ 560 * (20 * s + m) + 560 ≤ j) → h_i h2 231 j = h_i h6 231 j) →
    AW (m_X12_text (d + 60) 0 0) 0 0 49 [(0, .ref 1), (1, .int (Int32.ofNat s)), (2, .int x2), (3, .int x3), (4, .int (Int32.ofNat k))] [] h2 (kI (fun _ h' => Iv h' ∧ Fr wzt h h')) := by
  have n6 := sN_i I6
  have p6 : ps h6 ≤ 559 := (ps_in I6).2
  have n3 := n_nat (x := x3) (by omega)
  have k3 : x3.toNatClampNeg = 20 * s + m := by omega
  have v3 : vp_in x3 40 := dp_in (lo := 0) (hi := 39) ⟨by show (0 : Int) ≤ _; omega, by show _ ≤ (39 : Int); omega⟩ (by decide) (by decide)
  have v1 : vp_in (Int32.ofNat s) 2 := on_in hs (by decide)
  have k1 : (Int32.ofNat s).toNatClampNeg = s := on_k (by omega)
  have t560 : (560 : Int32).toInt = 560 := rfl
  intro n
  induction n with
  | zero =>
    intro k h2 e he hsh hr F c1 c2
    have ek : (Int32.ofNat k).toInt = (k : Int) := on_j (by omega)
    have es : h_i h2 1 36 = h_i h6 1 36 := he 1 36 (by decide)
    have w2 : Wf h2 := ⟨fun q hq => by rw [hsh]; exact I6.1.1 q hq, fun q hq => by rw [hr]; exact I6.1.2 q hq⟩
    refine t_X12_text_49 d h2 w2 _ x2 x3 _ _ ⟨fun _ => ⟨v3, v3, v3, v1, v1, v1, ?_⟩, fun z => ?_⟩
    · rw [k3, k1, es, he 235 s (by decide), hm]
      have kk : k = sN h6 := by omega
      have I3 : Iv (h_im h2 232 (20 * s + m) (h_i h6 1 36)) := by
        refine Iv_codes I6 he hsh hr (by omega) ⟨by show (0 : Int) ≤ ps h6; omega, by show ps h6 ≤ (560 : Int); omega⟩ c2 ?_
        obtain ⟨f, p⟩ := pc
        have p2 := pcl_sh (t := 560 * (20 * s + m)) (cd' := h_i h2 231) (fun x _ b => by rw [Nat.add_comm]; exact c1 x (by omega)) p
        rw [Nat.zero_add, Nat.add_comm (sN h6)] at p2
        rw [show (20 * s + m) / 20 + 1 = s + 1 by omega]
        exact ⟨f, p2⟩
      have e20 : (Int32.ofNat m + 1).toInt = ((m + 1 : Nat) : Int) := by rw [on_s (by omega)]; exact on_j (by omega)
      refine ⟨i32 (i235 (i2xx 234 (by decide +kernel) (by decide) (by decide) (i2xx 233 (by decide +kernel) (by decide) (by decide) I3 _ _) _ _) _ ⟨by rw [e20]; show (0 : Int) ≤ _; omega, by rw [e20]; show _ ≤ (20 : Int); omega⟩) ⟨by decide, by decide⟩, ?_⟩
      exact ((((F.im (inw_row (by decide +kernel) _)).im (inw_row (by decide +kernel) _)).im (inw_row (by decide +kernel) _)).im (inw_row (by decide +kernel) _)).im (by decide +kernel)
    · rw [es] at z
      have z := q_nle z
      have z' : (Int32.ofNat k).toInt < ps h6 := z
      omega
  | succ n ih =>
    intro k h2 e he hsh hr F c1 c2
    have ek : (Int32.ofNat k).toInt = (k : Int) := on_j (by omega)
    have nk : (Int32.ofNat k).toNatClampNeg = k := on_k (by omega)
    have es : h_i h2 1 36 = h_i h6 1 36 := he 1 36 (by decide)
    have w2 : Wf h2 := ⟨fun q hq => by rw [hsh]; exact I6.1.1 q hq, fun q hq => by rw [hr]; exact I6.1.2 q hq⟩
    have m1 : (560 * x3).toInt = 560 * x3.toInt := by rw [tx_mul (by rw [t560]; omega) (by rw [t560]; omega), t560]
    have m2 : (560 * x3 + Int32.ofNat k).toInt = 560 * ((20 * s + m : Nat) : Int) + k := by rw [tx_add (by omega) (by omega), m1, ek, e3]
    have nm := n_nat (x := 560 * x3 + Int32.ofNat k) (by omega)
    have km : (560 * x3 + Int32.ofNat k).toNatClampNeg = 560 * (20 * s + m) + k := by omega
    refine t_X12_text_49 d h2 w2 _ x2 x3 _ _ ⟨fun z => ?_, fun _ => ⟨on_in (by omega) (by decide), dp_in (lo := 0) (hi := 22399) ⟨by show (0 : Int) ≤ _; omega, by show _ ≤ (22399 : Int); omega⟩ (by decide) (by decide), ?_⟩⟩
    · rw [es] at z
      have z := q_le.mp z
      have z' : ps h6 ≤ (Int32.ofNat k).toInt := z
      omega
    · rw [km, nk, on_s (by omega)]
      refine ih (k + 1) _ (by omega) (fun a j na => ?_) hsh hr (F.im (inw_row (by decide +kernel) _)) (fun j hj => ?_) (fun j hj => ?_)
      · rw [im_ne na]; exact he a j na
      · rw [h_i_im]
        by_cases y : j = k
        · rw [if_pos ⟨rfl, by omega⟩, y]; exact he 226 k (by decide)
        · rw [if_neg (fun u => by have := u.2; omega)]; exact c1 j (by omega)
      · rw [h_i_im, if_neg (fun u => by have := u.2; omega)]; exact c2 j hj
theorem c_text (d s : Nat) (hs : s < 2) {h : Hp_} (I : Iv h) (x2 : Int32) : Ci (m_X12_text (d + 80 + 60) 0 0) [.ref 1, .int (Int32.ofNat s), .int x2] h (fun _ h' => Iv h' ∧ Fr wzt h h') := by
  have v1 : vp_in (Int32.ofNat s) 2 := on_in hs (by decide)
  have k1 : (Int32.ofNat s).toNatClampNeg = s := on_k (by omega)
  refine t_X12_text (d + 80) h I.1 _ x2 _ ⟨fun _ => ⟨I, Fr.rf _ _⟩, fun _ => ⟨v1, fun _ => ⟨I, Fr.rf _ _⟩, fun ne => ?_⟩⟩
  refine Ci.mono (c_fault d I _) (fun r h6 k => ?_)
  obtain ⟨I6, F6, g⟩ := k
  refine ⟨I6.1, fun er => ⟨v1, ?_⟩, fun _ => ⟨I6, F6.more (by decide +kernel)⟩⟩
  rw [k1] at ne ⊢
  have e235 : h_i h6 235 s = h_i h 235 s := fr_i F6 (by decide +kernel) s
  have br := dp_rg I6 235 s (show tfa 235 = some (0, 20) by decide +kernel)
  have b0 : 0 ≤ (h_i h6 235 s).toInt := br.1
  have b1 : (h_i h6 235 s).toInt ≤ 20 := br.2
  have nb := n_nat b0
  have t20 : (20 : Int32).toInt = 20 := rfl
  have lt : (h_i h6 235 s).toInt < 20 := by
    rcases Int.lt_or_le (h_i h6 235 s).toInt 20 with u | u
    · exact u
    · exact absurd (Int32.toInt_inj.mp (by rw [← e235, t20]; omega)) ne
  have hm : h_i h6 235 s = Int32.ofNat (h_i h6 235 s).toNatClampNeg := Int32.toInt_inj.mp (by rw [on_j (by omega)]; exact nb.symm)
  have es : (Int32.ofNat s).toInt = (s : Int) := on_j (by omega)
  have m1 : (20 * Int32.ofNat s).toInt = 20 * (s : Int) := by rw [tx_mul (by rw [t20, es]; omega) (by rw [t20, es]; omega), t20, es]
  have e3 : (20 * Int32.ofNat s + h_i h6 235 s).toInt = ((20 * s + (h_i h6 235 s).toNatClampNeg : Nat) : Int) := by rw [tx_add (by omega) (by omega), m1]; omega
  have pc : ∃ f, pcl (s + 1) (h_i h6 226) f 0 (sN h6) := (g er).2 (s + 1) (by omega) (on_s (by omega))
  exact tx_loop (d + 80) s _ hs (by omega) x2 _ I6 hm e3 pc (sN h6) 0 h6 (by omega) (fun _ _ _ => rfl) rfl rfl (F6.more (by decide +kernel)) (fun j hj => absurd hj (by omega)) (fun _ _ => rfl)
theorem c_act (d : Nat) {h : Hp_} (I : Iv h) (x1 : Int32) : Ci (m_X12_act (d + 80 + 61) 0 0) [.ref 1, .int x1] h (fun _ h' => Iv h' ∧ Fr wzt h h') := t_X12_act (d + 80) h I.1 x1 _ (Ci.mono (c_text d 0 (by decide) I x1) (fun _ h' k => ⟨k.1.1, k⟩))
theorem c_payT (d : Nat) {h : Hp_} (I : Iv h) (x1 : Int32) : Ci (m_X12_pay (d + 80 + 61) 0 0) [.ref 1, .int x1] h (fun _ h' => Iv h' ∧ Fr wzt h h') := t_X12_pay (d + 80) h I.1 x1 _ (Ci.mono (c_text d 1 (by decide) I x1) (fun _ h' k => ⟨k.1.1, k⟩))
