section
/-! the steps by their instructions -/
theorem i_in {v : Int32} {c : Int} (h : v.toInt = c) : rin v.toInt (c, c) := ⟨Int.le_of_eq h.symm, Int.le_of_eq h⟩
section ZZ
variable {ws : List Nat} {h0 : Hp_} {M : Mc_} {K : Option Value → Hp_ → Prop} {pc : Nat}
theorem z_iconst {n : Int} {v : Int32} {c : Int} (hd : decode (mC M) pc = .ok (.iconst n, 1)) (hv : Int32.ofInt n = v) (hc : v.toInt = c) {nx : Nat} (hn : pc + 1 = nx) : Sd ws h0 M K pc (x_push (c, c) nx) := by
  subst hn
  exact sd_push v (i_in hc) (fun _ _ _ k => aw_iconst hd hv k)
theorem z_bipush {n : Int} {v : Int32} {c : Int} (hd : decode (mC M) pc = .ok (.bipush n, 2)) (hv : (Int8.ofInt n).toInt32 = v) (hc : v.toInt = c) {nx : Nat} (hn : pc + 2 = nx) : Sd ws h0 M K pc (x_push (c, c) nx) := by
  subst hn
  exact sd_push v (i_in hc) (fun _ _ _ k => aw_bipush hd hv k)
theorem z_sipush {n : Int} {v : Int32} {c : Int} (hd : decode (mC M) pc = .ok (.sipush n, 3)) (hv : (Int16.ofInt n).toInt32 = v) (hc : v.toInt = c) {nx : Nat} (hn : pc + 3 = nx) : Sd ws h0 M K pc (x_push (c, c) nx) := by
  subst hn
  exact sd_push v (i_in hc) (fun _ _ _ k => aw_sipush hd hv k)
theorem z_ldc {i : Nat} {v : Int32} {c : Int} (hd : decode (mC M) pc = .ok (.ldc i, 2)) (hw : Cond.constant (mY M).cls i v ∈ lw_g) (hc : v.toInt = c) {nx : Nat} (hn : pc + 2 = nx) : Sd ws h0 M K pc (x_push (c, c) nx) := by
  subst hn
  exact sd_push v (i_in hc) (fun _ _ _ k => aw_ldc hd hw k)
theorem z_ldcw {i : Nat} {v : Int32} {c : Int} (hd : decode (mC M) pc = .ok (.ldc_w i, 3)) (hw : Cond.constant (mY M).cls i v ∈ lw_g) (hc : v.toInt = c) {nx : Nat} (hn : pc + 3 = nx) : Sd ws h0 M K pc (x_push (c, c) nx) := by
  subst hn
  exact sd_push v (i_in hc) (fun _ _ _ k => aw_ldcw hd hw k)
theorem z_ldc2 {i : Nat} {v : Int64} (hd : decode (mC M) pc = .ok (.ldc2_w i, 3)) (hw : Cond.constantLong (mY M).cls i v ∈ lw_g) {nx : Nat} (hn : pc + 3 = nx) : Sd ws h0 M K pc (x_pushR 0 nx) := by
  subst hn
  exact sd_pushR (.long v) (fun _ => ⟨v, rfl⟩) (fun _ _ _ k => aw_ldc2 hd hw k)
theorem z_lconst {n : Fin 2} (hd : decode (mC M) pc = .ok (.lconst n, 1)) {nx : Nat} (hn : pc + 1 = nx) : Sd ws h0 M K pc (x_pushR 0 nx) := by
  subst hn
  exact sd_pushR (.long (Int64.ofNat n)) (fun _ => ⟨_, rfl⟩) (fun _ _ _ k => aw_lconst hd rfl k)
theorem z_null (hd : decode (mC M) pc = .ok (.aconst_null, 1)) {nx : Nat} (hn : pc + 1 = nx) : Sd ws h0 M K pc (x_pushR 1 nx) := by
  subst hn
  exact sd_pushR .null (fun _ => rfl) (fun _ _ _ k => aw_null hd k)
theorem z_iload {i : Nat} (hd : decode (mC M) pc = .ok (.iload i, 2)) {nx : Nat} (hn : pc + 2 = nx) : Sd ws h0 M K pc (x_iload i nx) := by
  subst hn
  exact sd_iload (fun _ _ _ j _ hj k => aw_iload hd j hj k)
theorem z_iload_n {z : Fin 4} (hd : decode (mC M) pc = .ok (.iload_n z, 1)) {i : Nat} (hz : (z : Nat) = i) {nx : Nat} (hn : pc + 1 = nx) : Sd ws h0 M K pc (x_iload i nx) := by
  subst hn hz
  exact sd_iload (fun _ _ _ j _ hj k => aw_iload_n rfl hd j hj k)
theorem z_lload {i : Nat} (hd : decode (mC M) pc = .ok (.lload i, 2)) {nx : Nat} (hn : pc + 2 = nx) : Sd ws h0 M K pc (x_lload i nx) := by
  subst hn
  exact sd_lload (fun _ _ _ j _ hj k => aw_lload hd j hj k)
theorem z_lload_n {z : Fin 4} (hd : decode (mC M) pc = .ok (.lload_n z, 1)) {i : Nat} (hz : (z : Nat) = i) {nx : Nat} (hn : pc + 1 = nx) : Sd ws h0 M K pc (x_lload i nx) := by
  subst hn hz
  exact sd_lload (fun _ _ _ j _ hj k => aw_lload_n rfl hd j hj k)
theorem z_aload {i : Nat} (hd : decode (mC M) pc = .ok (.aload i, 2)) {nx : Nat} (hn : pc + 2 = nx) : Sd ws h0 M K pc (x_aload i nx) := by
  subst hn
  exact sd_aload (fun _ _ _ j _ hj k => aw_aload hd j hj k) (fun _ _ _ j hj k => aw_aloadN hd j hj k)
theorem z_aload_n {z : Fin 4} (hd : decode (mC M) pc = .ok (.aload_n z, 1)) {i : Nat} (hz : (z : Nat) = i) {nx : Nat} (hn : pc + 1 = nx) : Sd ws h0 M K pc (x_aload i nx) := by
  subst hn hz
  exact sd_aload (fun _ _ _ j _ hj k => aw_aload_n rfl hd j hj k) (fun _ _ _ j hj k => aw_aload_nN rfl hd j hj k)
theorem z_istore {i : Nat} (hd : decode (mC M) pc = .ok (.istore i, 2)) (hn : i < mN M) {nx : Nat} (hn : pc + 2 = nx) : Sd ws h0 M K pc (x_istore i nx) := by
  subst hn
  exact sd_istore (fun _ _ _ _ hr k => aw_istore _ hd hn hr rfl k)
theorem z_istore_n {z : Fin 4} (hd : decode (mC M) pc = .ok (.istore_n z, 1)) (hn : (z : Nat) < mN M) {i : Nat} (hz : (z : Nat) = i) {nx : Nat} (hn : pc + 1 = nx) : Sd ws h0 M K pc (x_istore i nx) := by
  subst hn hz
  exact sd_istore (fun _ _ _ _ hr k => aw_istore_n rfl _ hd hn hr rfl k)
theorem z_lstore {i : Nat} (hd : decode (mC M) pc = .ok (.lstore i, 2)) (hn : i + 1 < mN M) {nx : Nat} (hn : pc + 2 = nx) : Sd ws h0 M K pc (x_lstore i nx) := by
  subst hn
  exact sd_lstore (fun _ _ _ _ hr k => aw_lstore _ hd hn hr rfl k)
theorem z_lstore_n {z : Fin 4} (hd : decode (mC M) pc = .ok (.lstore_n z, 1)) (hn : (z : Nat) + 1 < mN M) {i : Nat} (hz : (z : Nat) = i) {nx : Nat} (hn : pc + 1 = nx) : Sd ws h0 M K pc (x_lstore i nx) := by
  subst hn hz
  exact sd_lstore (fun _ _ _ _ hr k => aw_lstore_n rfl _ hd hn hr rfl k)
theorem z_astore {i : Nat} (hd : decode (mC M) pc = .ok (.astore i, 2)) (hn : i < mN M) {nx : Nat} (hn : pc + 2 = nx) : Sd ws h0 M K pc (x_astore i nx) := by
  subst hn
  exact sd_astore (fun _ _ _ _ hr k => aw_astore _ hd hn hr rfl k) (fun _ _ _ hr k => aw_astoreN _ hd hn hr rfl k)
theorem z_astore_n {z : Fin 4} (hd : decode (mC M) pc = .ok (.astore_n z, 1)) (hn : (z : Nat) < mN M) {i : Nat} (hz : (z : Nat) = i) {nx : Nat} (hn : pc + 1 = nx) : Sd ws h0 M K pc (x_astore i nx) := by
  subst hn hz
  exact sd_astore (fun _ _ _ _ hr k => aw_astore_n rfl _ hd hn hr rfl k) (fun _ _ _ hr k => aw_astore_nN rfl _ hd hn hr rfl k)
theorem z_iinc {i : Nat} {n c : Int} (hd : decode (mC M) pc = .ok (.iinc i n, 3)) (hc : (Int32.ofInt n).toInt = c) (hn : i < mN M) {nx : Nat} (hn : pc + 3 = nx) : Sd ws h0 M K pc (x_iinc i c nx) := by
  subst hn
  exact sd_iinc hc (fun _ _ _ _ j hj hr k => aw_iinc _ hd j hj rfl hn hr rfl k)
theorem z_iadd (hd : decode (mC M) pc = .ok (.iadd, 1)) {nx : Nat} (hn : pc + 1 = nx) : Sd ws h0 M K pc (x_add nx) := by
  subst hn
  exact sd_add (fun _ _ _ _ _ k => aw_iadd hd k)
theorem z_isub (hd : decode (mC M) pc = .ok (.isub, 1)) {nx : Nat} (hn : pc + 1 = nx) : Sd ws h0 M K pc (x_bin o_sub nx) := by
  subst hn
  exact sd_bin ok_sub (fun _ _ _ _ _ k => aw_isub hd k)
theorem z_imul (hd : decode (mC M) pc = .ok (.imul, 1)) {nx : Nat} (hn : pc + 1 = nx) : Sd ws h0 M K pc (x_bin o_mul nx) := by
  subst hn
  exact sd_bin ok_mul (fun _ _ _ _ _ k => aw_imul hd k)
theorem z_iand (hd : decode (mC M) pc = .ok (.iand, 1)) {nx : Nat} (hn : pc + 1 = nx) : Sd ws h0 M K pc (x_bin o_and nx) := by
  subst hn
  exact sd_bin ok_and (fun _ _ _ _ _ k => aw_iand hd k)
theorem z_ior (hd : decode (mC M) pc = .ok (.ior, 1)) {nx : Nat} (hn : pc + 1 = nx) : Sd ws h0 M K pc (x_bin o_or nx) := by
  subst hn
  exact sd_bin ok_or (fun _ _ _ _ _ k => aw_ior hd k)
theorem z_ixor (hd : decode (mC M) pc = .ok (.ixor, 1)) {nx : Nat} (hn : pc + 1 = nx) : Sd ws h0 M K pc (x_bin o_or nx) := by
  subst hn
  exact sd_bin ok_xor (fun _ _ _ _ _ k => aw_ixor hd k)
theorem z_ishl (hd : decode (mC M) pc = .ok (.ishl, 1)) {nx : Nat} (hn : pc + 1 = nx) : Sd ws h0 M K pc (x_bin o_shl nx) := by
  subst hn
  exact sd_bin ok_shl (fun _ _ _ _ _ k => aw_ishl hd k)
theorem z_ishr (hd : decode (mC M) pc = .ok (.ishr, 1)) {nx : Nat} (hn : pc + 1 = nx) : Sd ws h0 M K pc (x_bin o_shr nx) := by
  subst hn
  exact sd_bin ok_shr (fun _ _ _ _ _ k => aw_ishr hd k)
theorem z_iushr (hd : decode (mC M) pc = .ok (.iushr, 1)) {nx : Nat} (hn : pc + 1 = nx) : Sd ws h0 M K pc (x_bin o_top nx) := by
  subst hn
  exact sd_bin (ok_top _) (fun _ _ _ _ _ k => aw_iushr hd k)
theorem z_idiv (hd : decode (mC M) pc = .ok (.idiv, 1)) {nx : Nat} (hn : pc + 1 = nx) : Sd ws h0 M K pc (x_div o_div nx) := by
  subst hn
  exact sd_div ok_div (fun _ _ _ _ _ hz k => aw_idiv hd hz k)
theorem z_irem (hd : decode (mC M) pc = .ok (.irem, 1)) {nx : Nat} (hn : pc + 1 = nx) : Sd ws h0 M K pc (x_div o_rem nx) := by
  subst hn
  exact sd_div ok_rem (fun _ _ _ _ _ hz k => aw_irem hd hz k)
theorem z_ineg (hd : decode (mC M) pc = .ok (.ineg, 1)) {nx : Nat} (hn : pc + 1 = nx) : Sd ws h0 M K pc (x_un o_neg nx) := by
  subst hn
  exact sd_un ok_neg (fun _ _ _ _ k => aw_ineg hd k)
theorem z_i2b (hd : decode (mC M) pc = .ok (.i2b, 1)) {nx : Nat} (hn : pc + 1 = nx) : Sd ws h0 M K pc (x_un o_i2b nx) := by
  subst hn
  exact sd_un ok_i2b (fun _ _ _ _ k => aw_i2b hd k)
theorem z_i2c (hd : decode (mC M) pc = .ok (.i2c, 1)) {nx : Nat} (hn : pc + 1 = nx) : Sd ws h0 M K pc (x_un o_i2c nx) := by
  subst hn
  exact sd_un ok_i2c (fun _ _ _ _ k => aw_i2c hd k)
theorem z_ladd (hd : decode (mC M) pc = .ok (.ladd, 1)) {nx : Nat} (hn : pc + 1 = nx) : Sd ws h0 M K pc (x_lbin nx) := by
  subst hn
  exact sd_lbin (fun _ _ _ _ _ k => aw_ladd hd k)
theorem z_lsub (hd : decode (mC M) pc = .ok (.lsub, 1)) {nx : Nat} (hn : pc + 1 = nx) : Sd ws h0 M K pc (x_lbin nx) := by
  subst hn
  exact sd_lbin (fun _ _ _ _ _ k => aw_lsub hd k)
theorem z_lmul (hd : decode (mC M) pc = .ok (.lmul, 1)) {nx : Nat} (hn : pc + 1 = nx) : Sd ws h0 M K pc (x_lbin nx) := by
  subst hn
  exact sd_lbin (fun _ _ _ _ _ k => aw_lmul hd k)
theorem z_land (hd : decode (mC M) pc = .ok (.land, 1)) {nx : Nat} (hn : pc + 1 = nx) : Sd ws h0 M K pc (x_lbin nx) := by
  subst hn
  exact sd_lbin (fun _ _ _ _ _ k => aw_land hd k)
theorem z_lor (hd : decode (mC M) pc = .ok (.lor, 1)) {nx : Nat} (hn : pc + 1 = nx) : Sd ws h0 M K pc (x_lbin nx) := by
  subst hn
  exact sd_lbin (fun _ _ _ _ _ k => aw_lor hd k)
theorem z_lxor (hd : decode (mC M) pc = .ok (.lxor, 1)) {nx : Nat} (hn : pc + 1 = nx) : Sd ws h0 M K pc (x_lbin nx) := by
  subst hn
  exact sd_lbin (fun _ _ _ _ _ k => aw_lxor hd k)
theorem z_lshl (hd : decode (mC M) pc = .ok (.lshl, 1)) {nx : Nat} (hn : pc + 1 = nx) : Sd ws h0 M K pc (x_lsh nx) := by
  subst hn
  exact sd_lsh (fun _ _ _ _ _ k => aw_lshl hd k)
theorem z_lshr (hd : decode (mC M) pc = .ok (.lshr, 1)) {nx : Nat} (hn : pc + 1 = nx) : Sd ws h0 M K pc (x_lsh nx) := by
  subst hn
  exact sd_lsh (fun _ _ _ _ _ k => aw_lshr hd k)
theorem z_lcmp (hd : decode (mC M) pc = .ok (.lcmp, 1)) {nx : Nat} (hn : pc + 1 = nx) : Sd ws h0 M K pc (x_lcmp nx) := by
  subst hn
  exact sd_lcmp (fun _ _ _ _ _ k => aw_lcmp hd k)
theorem z_i2l (hd : decode (mC M) pc = .ok (.i2l, 1)) {nx : Nat} (hn : pc + 1 = nx) : Sd ws h0 M K pc (x_i2l nx) := by
  subst hn
  exact sd_i2l (fun _ _ _ _ k => aw_i2l hd k)
theorem z_l2i (hd : decode (mC M) pc = .ok (.l2i, 1)) {nx : Nat} (hn : pc + 1 = nx) : Sd ws h0 M K pc (x_l2i nx) := by
  subst hn
  exact sd_l2i (fun _ _ _ _ k => aw_l2i hd k)
theorem z_dup (hd : decode (mC M) pc = .ok (.dup, 1)) {nx : Nat} (hn : pc + 1 = nx) : Sd ws h0 M K pc (x_dup nx) := by
  subst hn
  exact sd_dup (fun _ _ _ _ hc k => aw_dup hd hc k)
theorem z_pop (hd : decode (mC M) pc = .ok (.pop, 1)) {nx : Nat} (hn : pc + 1 = nx) : Sd ws h0 M K pc (x_pop nx) := by
  subst hn
  exact sd_pop (fun _ _ _ _ hc k => aw_pop hd hc k)
theorem z_dup2 (hd : decode (mC M) pc = .ok (.dup2, 1)) {nx : Nat} (hn : pc + 1 = nx) : Sd ws h0 M K pc (x_dup2 nx) := by
  subst hn
  exact sd_dup2 (fun _ _ _ _ _ hc k => aw_dup2 hd hc k)
theorem z_dup_x1 (hd : decode (mC M) pc = .ok (.dup_x1, 1)) {nx : Nat} (hn : pc + 1 = nx) : Sd ws h0 M K pc (x_dupx1 nx) := by
  subst hn
  exact sd_dupx1 (fun _ _ _ _ _ hc k => aw_dup_x1 hd hc k)
theorem z_goto {off : Int} {t : Nat} (hd : decode (mC M) pc = .ok (.goto off, 3)) (ht : (pc : Int) + off = (t : Int)) : Sd ws h0 M K pc (x_goto t) := sd_goto (fun _ _ _ k => aw_goto hd ht k)
theorem z_ifnull {off : Int} {t : Nat} (hd : decode (mC M) pc = .ok (.ifnull off, 3)) (ht : (pc : Int) + off = (t : Int)) {nx : Nat} (hn : pc + 3 = nx) : Sd ws h0 M K pc (x_null t nx) := by
  subst hn
  exact sd_null (fun _ _ _ k => aw_ifnullN hd ht k) (fun _ _ _ _ k => aw_ifnull hd k)
theorem z_ifnonnull {off : Int} {t : Nat} (hd : decode (mC M) pc = .ok (.ifnonnull off, 3)) (ht : (pc : Int) + off = (t : Int)) {nx : Nat} (hn : pc + 3 = nx) : Sd ws h0 M K pc (x_null nx t) := by
  subst hn
  exact sd_null (fun _ _ _ k => aw_ifnonnullN hd k) (fun _ _ _ _ k => aw_ifnonnull hd ht k)
theorem q_lt {x y : Int32} : x < y ↔ x.toInt < y.toInt := Int32.lt_iff_toInt_lt
theorem q_le {x y : Int32} : x ≤ y ↔ x.toInt ≤ y.toInt := Int32.le_iff_toInt_le
theorem q_eq {x y : Int32} : x = y ↔ x.toInt = y.toInt := Int32.toInt_inj.symm
theorem q_nlt {x y : Int32} (h : ¬ x < y) : y.toInt ≤ x.toInt := by have : ¬ x.toInt < y.toInt := fun z => h (q_lt.mpr z); omega
theorem q_nle {x y : Int32} (h : ¬ x ≤ y) : y.toInt < x.toInt := by have : ¬ x.toInt ≤ y.toInt := fun z => h (q_le.mpr z); omega
theorem z_icmp_lt {off : Int} {t : Nat} (hd : decode (mC M) pc = .ok (.if_icmp .lt off, 3)) (ht : (pc : Int) + off = (t : Int)) {nx : Nat} (hn : pc + 3 = nx) : Sd ws h0 M K pc (x_icmp c_lt c_ge t nx) := by
  subst hn
  exact sd_icmp (P := fun x y => x < y) ok_clt ok_cge (fun _ _ c => q_lt.mp c) (fun _ _ c => q_nlt c) (fun _ _ _ _ _ k1 k2 => aw_icmp_lt hd ht k1 k2)
theorem z_icmp_ge {off : Int} {t : Nat} (hd : decode (mC M) pc = .ok (.if_icmp .ge off, 3)) (ht : (pc : Int) + off = (t : Int)) {nx : Nat} (hn : pc + 3 = nx) : Sd ws h0 M K pc (x_icmp c_ge c_lt t nx) := by
  subst hn
  exact sd_icmp (P := fun x y => y ≤ x) ok_cge ok_clt (fun _ _ c => q_le.mp c) (fun _ _ c => q_nle c) (fun _ _ _ _ _ k1 k2 => aw_icmp_ge hd ht k1 k2)
theorem z_icmp_gt {off : Int} {t : Nat} (hd : decode (mC M) pc = .ok (.if_icmp .gt off, 3)) (ht : (pc : Int) + off = (t : Int)) {nx : Nat} (hn : pc + 3 = nx) : Sd ws h0 M K pc (x_icmp c_gt c_le t nx) := by
  subst hn
  exact sd_icmp (P := fun x y => y < x) ok_cgt ok_cle (fun _ _ c => q_lt.mp c) (fun _ _ c => q_nlt c) (fun _ _ _ _ _ k1 k2 => aw_icmp_gt hd ht k1 k2)
theorem z_icmp_le {off : Int} {t : Nat} (hd : decode (mC M) pc = .ok (.if_icmp .le off, 3)) (ht : (pc : Int) + off = (t : Int)) {nx : Nat} (hn : pc + 3 = nx) : Sd ws h0 M K pc (x_icmp c_le c_gt t nx) := by
  subst hn
  exact sd_icmp (P := fun x y => x ≤ y) ok_cle ok_cgt (fun _ _ c => q_le.mp c) (fun _ _ c => q_nle c) (fun _ _ _ _ _ k1 k2 => aw_icmp_le hd ht k1 k2)
theorem z_icmp_eq {off : Int} {t : Nat} (hd : decode (mC M) pc = .ok (.if_icmp .eq off, 3)) (ht : (pc : Int) + off = (t : Int)) {nx : Nat} (hn : pc + 3 = nx) : Sd ws h0 M K pc (x_icmp c_eq c_ne t nx) := by
  subst hn
  exact sd_icmp (P := fun x y => x = y) ok_ceq ok_cne (fun _ _ c => q_eq.mp c) (fun _ _ c z => c (q_eq.mpr z)) (fun _ _ _ _ _ k1 k2 => aw_icmp_eq hd ht k1 k2)
theorem z_icmp_ne {off : Int} {t : Nat} (hd : decode (mC M) pc = .ok (.if_icmp .ne off, 3)) (ht : (pc : Int) + off = (t : Int)) {nx : Nat} (hn : pc + 3 = nx) : Sd ws h0 M K pc (x_icmp c_ne c_eq t nx) := by
  subst hn
  exact sd_icmp (P := fun x y => ¬ x = y) ok_cne ok_ceq (fun _ _ c z => c (q_eq.mpr z)) (fun _ _ c => q_eq.mp (Decidable.not_not.mp c)) (fun _ _ _ _ _ k1 k2 => aw_icmp_ne hd ht k1 (fun z => k2 (fun w => w z)))
theorem z_if_lt {off : Int} {t : Nat} (hd : decode (mC M) pc = .ok (.ifCond .lt off, 3)) (ht : (pc : Int) + off = (t : Int)) {nx : Nat} (hn : pc + 3 = nx) : Sd ws h0 M K pc (x_if c_lt c_ge t nx) := by
  subst hn
  exact sd_if (P := fun x y => x < y) ok_clt ok_cge (fun _ _ c => q_lt.mp c) (fun _ _ c => q_nlt c) (fun _ _ _ _ k1 k2 => aw_if_lt hd ht k1 k2)
theorem z_if_ge {off : Int} {t : Nat} (hd : decode (mC M) pc = .ok (.ifCond .ge off, 3)) (ht : (pc : Int) + off = (t : Int)) {nx : Nat} (hn : pc + 3 = nx) : Sd ws h0 M K pc (x_if c_ge c_lt t nx) := by
  subst hn
  exact sd_if (P := fun x y => y ≤ x) ok_cge ok_clt (fun _ _ c => q_le.mp c) (fun _ _ c => q_nle c) (fun _ _ _ _ k1 k2 => aw_if_ge hd ht k1 k2)
theorem z_if_gt {off : Int} {t : Nat} (hd : decode (mC M) pc = .ok (.ifCond .gt off, 3)) (ht : (pc : Int) + off = (t : Int)) {nx : Nat} (hn : pc + 3 = nx) : Sd ws h0 M K pc (x_if c_gt c_le t nx) := by
  subst hn
  exact sd_if (P := fun x y => y < x) ok_cgt ok_cle (fun _ _ c => q_lt.mp c) (fun _ _ c => q_nlt c) (fun _ _ _ _ k1 k2 => aw_if_gt hd ht k1 k2)
theorem z_if_le {off : Int} {t : Nat} (hd : decode (mC M) pc = .ok (.ifCond .le off, 3)) (ht : (pc : Int) + off = (t : Int)) {nx : Nat} (hn : pc + 3 = nx) : Sd ws h0 M K pc (x_if c_le c_gt t nx) := by
  subst hn
  exact sd_if (P := fun x y => x ≤ y) ok_cle ok_cgt (fun _ _ c => q_le.mp c) (fun _ _ c => q_nle c) (fun _ _ _ _ k1 k2 => aw_if_le hd ht k1 k2)
theorem z_if_eq {off : Int} {t : Nat} (hd : decode (mC M) pc = .ok (.ifCond .eq off, 3)) (ht : (pc : Int) + off = (t : Int)) {nx : Nat} (hn : pc + 3 = nx) : Sd ws h0 M K pc (x_if c_eq c_ne t nx) := by
  subst hn
  exact sd_if (P := fun x y => x = y) ok_ceq ok_cne (fun _ _ c => q_eq.mp c) (fun _ _ c z => c (q_eq.mpr z)) (fun _ _ _ _ k1 k2 => aw_if_eq hd ht k1 k2)
theorem z_if_ne {off : Int} {t : Nat} (hd : decode (mC M) pc = .ok (.ifCond .ne off, 3)) (ht : (pc : Int) + off = (t : Int)) {nx : Nat} (hn : pc + 3 = nx) : Sd ws h0 M K pc (x_if c_ne c_eq t nx) := by
  subst hn
  exact sd_if (P := fun x y => ¬ x = y) ok_cne ok_ceq (fun _ _ c z => c (q_eq.mpr z)) (fun _ _ c => q_eq.mp (Decidable.not_not.mp c)) (fun _ _ _ _ k1 k2 => aw_if_ne hd ht k1 (fun z => k2 (fun w => w z)))
/-- a table: numbers lo .. and their places -/
def tsl (lo : Int) : List Nat → List (Int × Nat)
  | [] => []
  | t :: l => (lo, t) :: tsl (lo + 1) l
theorem tsl_get {t : Nat} : ∀ {l : List Nat} {lo : Int} {i : Nat}, l[i]? = some t → (lo + i, t) ∈ tsl lo l
  | _ :: _, lo, 0, h => by
    rw [List.getElem?_cons_zero] at h
    rw [Option.some.inj h, show lo + ((0 : Nat) : Int) = lo by omega]
    exact List.mem_cons_self
  | _ :: l, lo, i + 1, h => by
    rw [List.getElem?_cons_succ] at h
    have := tsl_get (lo := lo + 1) h
    rw [show lo + ((i + 1 : Nat) : Int) = lo + 1 + (i : Int) by omega]
    exact List.mem_cons_of_mem _ this
theorem z_table {df lo hi : Int} {offs : Array Int} {len t : Nat} {ts : List Nat} (hd : decode (mC M) pc = .ok (.tableswitch df lo hi offs, len)) (ht : (pc : Int) + df = (t : Int)) (hts : offs.toList.map (fun o => (pc : Int) + o) = ts.map (fun n : Nat => (n : Int))) (hl : hi - lo + 1 = (ts.length : Int)) : Sd ws h0 M K pc (x_switch (tsl lo ts) t) := by
  refine sd_switch (fun lv st h x k1 k2 => ?_)
  by_cases c : x.toInt < lo ∨ hi < x.toInt
  · exact aw_tableOut hd c ht k2
  · have c1 : ¬ x.toInt < lo := fun z => c (Or.inl z)
    have c2 : ¬ hi < x.toInt := fun z => c (Or.inr z)
    have ll : offs.toList.length = ts.length := by
      have := congrArg List.length hts
      rwa [List.length_map, List.length_map] at this
    have il : (x.toInt - lo).toNat < ts.length := by omega
    obtain ⟨tg, htg⟩ : ∃ tg, ts[(x.toInt - lo).toNat]? = some tg := ⟨_, List.getElem?_eq_getElem il⟩
    obtain ⟨off, hoff⟩ : ∃ off, offs.toList[(x.toInt - lo).toNat]? = some off := ⟨_, List.getElem?_eq_getElem (by rw [ll]; exact il)⟩
    have e := congrArg (fun l : List Int => l[(x.toInt - lo).toNat]?) hts
    have e : (offs.toList.map (fun o => (pc : Int) + o))[(x.toInt - lo).toNat]? = (ts.map (fun n : Nat => (n : Int)))[(x.toInt - lo).toNat]? := e
    rw [List.getElem?_map, List.getElem?_map, hoff, htg] at e
    have e : (pc : Int) + off = (tg : Int) := Option.some.inj e
    refine aw_tableIn hd c1 c2 (by rw [← Array.getElem?_toList]; exact hoff) e (k1 _ (tsl_get (lo := lo) htg) ?_)
    show x.toInt = lo + ((x.toInt - lo).toNat : Int)
    omega
theorem lso {df k : Int} : ∀ {l : List (Int × Int)}, (∃ p ∈ l, p.1 = k ∧ Op.lookupswitch.offset l df k = p.2) ∨ Op.lookupswitch.offset l df k = df
  | [] => Or.inr rfl
  | p :: l => by
    have q := Op.lookupswitch.offset_cons p.1 p.2 l df k
    by_cases c : p.1 = k
    · rw [if_pos c] at q
      exact Or.inl ⟨p, List.mem_cons_self, c, q⟩
    · rw [if_neg c] at q
      rcases lso (df := df) (k := k) (l := l) with ⟨o, ho, e1, e2⟩ | e
      · exact Or.inl ⟨o, List.mem_cons_of_mem _ ho, e1, q.trans e2⟩
      · exact Or.inr (q.trans e)
theorem z_lookup {df : Int} {ps : Array (Int × Int)} {len t : Nat} {l : List (Int × Nat)} (hd : decode (mC M) pc = .ok (.lookupswitch df ps, len)) (hp : (ps.toList.zip (ps.toList.drop 1)).all (fun (a, next) => a.1 < next.1) = true) (ht : (pc : Int) + df = (t : Int)) (hts : ps.toList.map (fun o => (o.1, (pc : Int) + o.2)) = l.map (fun q => (q.1, (q.2 : Int)))) : Sd ws h0 M K pc (x_switch l t) := by
  refine sd_switch (fun lv st h x k1 k2 => ?_)
  rcases lso (df := df) (k := x.toInt) (l := ps.toList) with ⟨p, hm, e1, e2⟩ | e
  · have m2 : (p.1, (pc : Int) + p.2) ∈ l.map (fun q => (q.1, (q.2 : Int))) := by rw [← hts]; exact List.mem_map.mpr ⟨p, hm, rfl⟩
    obtain ⟨q, hq, eq⟩ := List.mem_map.mp m2
    have eq := Prod.mk.inj eq
    exact aw_lookup hd hp e2 eq.2.symm (k1 q hq (by rw [eq.1, e1]))
  · exact aw_lookup hd hp e ht k2
end ZZ
end
section
section ZY
variable {ws : List Nat} {h0 : Hp_} {M : Mc_} {K : Option Value → Hp_ → Prop} {pc : Nat}
theorem z_geti {ci : Nat} {C : String} {T : u_T} {N k0 idx : Nat} (hc : kc_ ci C T N) (hk : k0 < N) (hlk : Cond.fieldLink (mY M).cls idx (T k0).1 (T k0).2.1 (T k0).2.2.1 ∈ lw_g) (hd : decode (mC M) pc = .ok (.getfield idx, 3)) (ht : h_kd (h_tyc ci k0) = 0) {nx : Nat} (hn : pc + 3 = nx) : Sd ws h0 M K pc (x_geti ci N k0 nx) := by
  subst hn
  exact sd_geti (fun _ _ _ _ hs k => aw_geti hc hs hk hlk hd ht k)
theorem z_getl {ci : Nat} {C : String} {T : u_T} {N k0 idx : Nat} (hc : kc_ ci C T N) (hk : k0 < N) (hlk : Cond.fieldLink (mY M).cls idx (T k0).1 (T k0).2.1 (T k0).2.2.1 ∈ lw_g) (hd : decode (mC M) pc = .ok (.getfield idx, 3)) (ht : h_kd (h_tyc ci k0) = 1) {nx : Nat} (hn : pc + 3 = nx) : Sd ws h0 M K pc (x_getl ci N nx) := by
  subst hn
  exact sd_getl (fun _ _ _ _ hs k => aw_getl hc hs hk hlk hd ht k)
theorem z_getr {ci : Nat} {C : String} {T : u_T} {N k0 idx : Nat} (hc : kc_ ci C T N) (hk : k0 < N) (hlk : Cond.fieldLink (mY M).cls idx (T k0).1 (T k0).2.1 (T k0).2.2.1 ∈ lw_g) (hd : decode (mC M) pc = .ok (.getfield idx, 3)) (ht : h_kd (h_tyc ci k0) = 2) {nx : Nat} (hn : pc + 3 = nx) : Sd ws h0 M K pc (x_getr ci N k0 nx) := by
  subst hn
  exact sd_getr (fun _ _ _ _ _ hs hr k => aw_getr hc hs hk hlk hd ht hr k)
theorem z_puti {ci : Nat} {C : String} {T : u_T} {N k0 idx : Nat} (hc : kc_ ci C T N) (hk : k0 < N) (hlk : Cond.fieldLink (mY M).cls idx (T k0).1 (T k0).2.1 (T k0).2.2.1 ∈ lw_g) (hd : decode (mC M) pc = .ok (.putfield idx, 3)) (ht : h_kd (h_tyc ci k0) = 0) (hf : (T k0).2.2.2 = false) (hty : h_tyc ci k0 = .int) {nx : Nat} (hn : pc + 3 = nx) : Sd ws h0 M K pc (x_puti ws rtop ci N k0 nx) := by
  subst hn
  exact sd_puti (fun _ _ _ _ _ _ hs k => aw_puti hc hs hk hlk hd ht hf (by rw [hty]; exact nf_i) k)
theorem nf_zr {x : Int32} (h : rin x.toInt (0, 1)) : narrow .boolean (.int x) = .int x ∧ fits .boolean (.int x) = true := by
  have h1 : 0 ≤ x.toInt := h.1
  have h2 : x.toInt ≤ 1 := h.2
  have e : x = 0 ∨ x = 1 := by
    rcases (show x.toInt = 0 ∨ x.toInt = 1 by omega) with z | z
    · exact Or.inl (Int32.toInt_inj.mp z)
    · exact Or.inr (Int32.toInt_inj.mp z)
  rcases e with e | e <;> subst e <;> exact ⟨rfl, rfl⟩
theorem z_putz {ci : Nat} {C : String} {T : u_T} {N k0 idx : Nat} (hc : kc_ ci C T N) (hk : k0 < N) (hlk : Cond.fieldLink (mY M).cls idx (T k0).1 (T k0).2.1 (T k0).2.2.1 ∈ lw_g) (hd : decode (mC M) pc = .ok (.putfield idx, 3)) (ht : h_kd (h_tyc ci k0) = 0) (hf : (T k0).2.2.2 = false) (hty : h_tyc ci k0 = .boolean) {nx : Nat} (hn : pc + 3 = nx) : Sd ws h0 M K pc (x_puti ws (0, 1) ci N k0 nx) := by
  subst hn
  exact sd_puti (fun _ _ _ _ _ hr hs k => aw_puti hc hs hk hlk hd ht hf (by rw [hty]; exact nf_zr hr) k)
theorem z_putl {ci : Nat} {C : String} {T : u_T} {N k0 idx : Nat} (hc : kc_ ci C T N) (hk : k0 < N) (hlk : Cond.fieldLink (mY M).cls idx (T k0).1 (T k0).2.1 (T k0).2.2.1 ∈ lw_g) (hd : decode (mC M) pc = .ok (.putfield idx, 3)) (ht : h_kd (h_tyc ci k0) = 1) (hf : (T k0).2.2.2 = false) {nx : Nat} (hn : pc + 3 = nx) : Sd ws h0 M K pc (x_putl ws ci N k0 nx) := by
  subst hn
  exact sd_putl (fun _ _ _ _ _ hs k => aw_putl hc hs hk hlk hd ht hf k)
theorem z_iald (hd : decode (mC M) pc = .ok (.iaload, 1)) {nx : Nat} (hn : pc + 1 = nx) : Sd ws h0 M K pc (x_ald 0 nx) := by
  subst hn
  exact sd_ald (fun _ _ _ _ _ _ hs hi k => aw_iald hs hi hd k)
theorem z_zald (hd : decode (mC M) pc = .ok (.baload, 1)) {nx : Nat} (hn : pc + 1 = nx) : Sd ws h0 M K pc (x_ald 1 nx) := by
  subst hn
  exact sd_ald (fun _ _ _ _ _ _ hs hi k => aw_zald hs hi hd k)
theorem z_bald (hd : decode (mC M) pc = .ok (.baload, 1)) {nx : Nat} (hn : pc + 1 = nx) : Sd ws h0 M K pc (x_ald 2 nx) := by
  subst hn
  exact sd_ald (fun _ _ _ _ _ _ hs hi k => aw_bald hs hi hd k)
theorem z_iast (hd : decode (mC M) pc = .ok (.iastore, 1)) {nx : Nat} (hn : pc + 1 = nx) : Sd ws h0 M K pc (x_ast ws id 0 nx) := by
  subst hn
  exact sd_ast (f := fun x => x) ok_id (fun _ _ _ _ _ _ _ hs hi k => aw_iast hs hi hd k)
def o_z (_ : Rg) : Rg := (0, 1)
theorem ok_z : unok (fun x => vp_nar .boolean x) o_z := by
  intro x a _
  have e : vp_nar .boolean x = x &&& 1 := rfl
  show rin (vp_nar .boolean x).toInt (0, 1)
  rw [e]
  exact and_r (x := x) (y := 1) (by decide)
theorem z_zast (hd : decode (mC M) pc = .ok (.bastore, 1)) {nx : Nat} (hn : pc + 1 = nx) : Sd ws h0 M K pc (x_ast ws o_z 1 nx) := by
  subst hn
  exact sd_ast ok_z (fun _ _ _ _ _ _ _ hs hi k => aw_zast hs hi hd k)
theorem ok_b : unok (fun x => vp_nar .byte x) o_i2b := fun x a h => ok_i2b x a h
theorem z_bast (hd : decode (mC M) pc = .ok (.bastore, 1)) {nx : Nat} (hn : pc + 1 = nx) : Sd ws h0 M K pc (x_ast ws o_i2b 2 nx) := by
  subst hn
  exact sd_ast ok_b (fun _ _ _ _ _ _ _ hs hi k => aw_bast hs hi hd k)
theorem z_lald (hd : decode (mC M) pc = .ok (.laload, 1)) {nx : Nat} (hn : pc + 1 = nx) : Sd ws h0 M K pc (x_lald nx) := by
  subst hn
  exact sd_lald (fun _ _ _ _ _ _ hs hi k => aw_lald hs hi hd k)
theorem z_last (hd : decode (mC M) pc = .ok (.lastore, 1)) {nx : Nat} (hn : pc + 1 = nx) : Sd ws h0 M K pc (x_last ws nx) := by
  subst hn
  exact sd_last (fun _ _ _ _ _ _ _ hs hi k => aw_last hs hi hd k)
theorem z_aald (hd : decode (mC M) pc = .ok (.aaload, 1)) {nx : Nat} (hn : pc + 1 = nx) : Sd ws h0 M K pc (x_aald nx) := by
  subst hn
  exact sd_aald (fun _ _ _ _ _ _ _ hs hi hr k => aw_aaldr hs hi hr hd k) (fun _ _ _ _ _ _ hs hi hr k => aw_aaldn hs hi hr hd k)
theorem z_alen (hd : decode (mC M) pc = .ok (.arraylength, 1)) {nx : Nat} (hn : pc + 1 = nx) : Sd ws h0 M K pc (x_alen nx) := by
  subst hn
  exact sd_alen (fun _ _ _ _ _ _ _ hs ht hv k => aw_alen hs ht hv hd k)
/-- a method one level below: frames and locals -/
def rz_ (M' M : Mc_) : Prop := ((mR M').frames + 1 ≤ (mR M).frames ∧ 8 + (mN M' + 11) + (mR M').locals ≤ (mR M).locals) ∧ (mR M').cells = 0 ∧ (mR M').slots = 0 ∧ xs_ M
theorem z_callS {M' : Mc_} {c : Ctr} {idx n : Nat} (hC : Hc M' c) (hd : decode (mC M) pc = .ok (.invokestatic idx, 3)) (hm : cS_ M' n) (hlk : Cond.methodLink (mY M).cls idx (mY M') ∈ lw_g) (hn : c.1.length = n) (hz : rz_ M' M) {nx : Nat} (hn : pc + 3 = nx) : Sd ws h0 M K pc (x_call ws c nx) := by
  subst hn
  exact
  sd_callS hC (fun lv rest h vs K' hl hc C k => aw_callS hd hm.1 hm.2 hlk (hl.trans hn) hz.1 hc ⟨by rw [hz.2.1]; exact Nat.zero_le _, by rw [hz.2.2.1]; exact Nat.zero_le _⟩ hz.2.2.2 C (fun v h' kv => by rw [hz.2.1, hz.2.2.1]; exact k v h' kv))
theorem z_callSN {M' : Mc_} {c : Ctr} {idx n : Nat} (hC : Hc M' c) (hd : decode (mC M) pc = .ok (.invokestatic idx, 3)) (hm : cS_ M' n) (hlk : ((mY M).cls, idx, mY M') ∈ h_nest) (hn : c.1.length = n) (hz : rz_ M' M) {nx : Nat} (hn : pc + 3 = nx) : Sd ws h0 M K pc (x_call ws c nx) := by
  subst hn
  exact
  sd_callS hC (fun lv rest h vs K' hl hc C k => aw_callSN hd hm.1 hm.2 hlk (hl.trans hn) hz.1 hc ⟨by rw [hz.2.1]; exact Nat.zero_le _, by rw [hz.2.2.1]; exact Nat.zero_le _⟩ hz.2.2.2 C (fun v h' kv => by rw [hz.2.1, hz.2.2.1]; exact k v h' kv))
theorem z_callV {M' : Mc_} {c : Ctr} {idx n m ci N : Nat} {es : List Av} {T : u_T} (he : c.1 = es ++ [.inr m]) (ht : thok m ci N = true) (hC : Hc M' c) (hd : decode (mC M) pc = .ok (.invokevirtual idx, 3)) (hm : cV_ M' n) (hkc : kc_ ci (mY M').cls T N) (hlk : Cond.methodLink (mY M).cls idx (mY M') ∈ lw_g) (hn : es.length = n) (hz : rz_ M' M) {nx : Nat} (hn : pc + 3 = nx) : Sd ws h0 M K pc (x_call ws c nx) := by
  subst hn
  exact
  sd_callV he ht hC (fun lv rest h vs a K' hl hs hc C k => aw_callV hd hm.1 hkc hs hm.2.1 hm.2.2 hlk (hl.trans hn) hz.1 hc ⟨by rw [hz.2.1]; exact Nat.zero_le _, by rw [hz.2.2.1]; exact Nat.zero_le _⟩ hz.2.2.2 C (fun v h' kv => by rw [hz.2.1, hz.2.2.1]; exact k v h' kv))
theorem z_iret {rt : Av} {post : Hf} (hr : mT M = some .int) (hd : decode (mC M) pc = .ok (.ireturn, 1)) : Sd ws h0 M (Kc ws h0 (some rt) post) pc (x_ret rtop rt post) := sd_ret (fun _ _ _ _ k => aw_iret hr hd ⟨Nat.zero_le _, Nat.zero_le _⟩ k)
theorem z_zret {rt : Av} {post : Hf} (hr : mT M = some .boolean) (hd : decode (mC M) pc = .ok (.ireturn, 1)) : Sd ws h0 M (Kc ws h0 (some rt) post) pc (x_ret (0, 1) rt post) := sd_ret (fun _ _ _ hx k => aw_zret hr (nf_zr hx).1 hd ⟨Nat.zero_le _, Nat.zero_le _⟩ k)
theorem z_vret {post : Hf} (hr : mT M = none) (hd : decode (mC M) pc = .ok (.return_, 1)) : Sd ws h0 M (Kc ws h0 none post) pc (x_vret post) := sd_vret (fun _ _ k => aw_vret hr hd ⟨Nat.zero_le _, Nat.zero_le _⟩ k)
theorem z_lret {post : Hf} (hr : mT M = some .long) (hd : decode (mC M) pc = .ok (.lreturn, 1)) : Sd ws h0 M (Kc ws h0 (some (.inr 0)) post) pc (x_lret post) := sd_lret (fun _ _ _ k => aw_lret hr hd ⟨Nat.zero_le _, Nat.zero_le _⟩ k)
theorem z_aret {rt : Av} {post : Hf} {ty : FieldType} (hr : mT M = some ty) (hrt : (∃ n, ty = .object n) ∨ ∃ t, ty = .array t) (hd : decode (mC M) pc = .ok (.areturn, 1)) : Sd ws h0 M (Kc ws h0 (some rt) post) pc (x_aret rt post) := sd_aret (fun _ _ _ k => aw_aret hr hrt hd ⟨Nat.zero_le _, Nat.zero_le _⟩ k) (fun _ _ k => aw_aretN hr hrt hd ⟨Nat.zero_le _, Nat.zero_le _⟩ k)
end ZY
theorem rz0 {y' y : MethodName} {cc' cc : ByteArray} {nL' nL : Nat} {ret' ret : Option FieldType} {n : Nat} (h2 : nL' ≤ 81) : rz_ (fun _ _ _ => True, y', cc', nL', ret', { frames := n, cells := 0, slots := 0, locals := 100 * n }) (fun _ _ _ => True, y, cc, nL, ret, { frames := n + 1, cells := 0, slots := 0, locals := 100 * (n + 1) }) :=
  ⟨⟨Nat.le_refl _, by show 8 + (nL' + 11) + 100 * n ≤ 100 * (n + 1); omega⟩, rfl, rfl, fun _ _ _ _ _ _ => trivial⟩
/-- all steps of a list -/
def Al (ws : List Nat) (h0 : Hp_) (M : Mc_) (K : Option Value → Hp_ → Prop) : List (Nat × Fx) → Prop
  | [] => True
  | (p, f) :: t => Sd ws h0 M K p f ∧ Al ws h0 M K t
theorem Al_ok {ws : List Nat} {h0 : Hp_} {M : Mc_} {K : Option Value → Hp_ → Prop} : ∀ {l : List (Nat × Fx)}, Al ws h0 M K l → ∀ q ∈ l, Sd ws h0 M K q.1 q.2
  | [], _, q, h => (nomatch h)
  | (_, _) :: _, a, q, h => by
    rcases List.mem_cons.mp h with z | z
    · rw [z]; exact a.1
    · exact Al_ok a.2 q z
end
section
/-! methods that answer yes or no: what either answer says of the arguments -/
abbrev Tr : Type := List (Nat × Rg) × Hf
def fo (us : List Value) (t : List (Nat × Rg)) : Prop := ∀ q ∈ t, ∃ y : Int32, us[q.1]? = some (.int y) ∧ rin y.toInt q.2
def Kb (h0 : Hp_) (us : List Value) (ty tn : Tr) (v : Option Value) (h : Hp_) : Prop := Iv h ∧ Fr [] h0 h ∧ ∃ x : Int32, v = some (.int x) ∧ ((x.toInt = 1 ∧ fo us ty.1 ∧ hm h ty.2) ∨ (x.toInt = 0 ∧ fo us tn.1 ∧ hm h tn.2))
def Hb (M : Mc_) (es : List Av) (pre : Hf) (ty tn : Tr) : Prop := ∀ vs h, am h vs es → Iv h → hm h pre → Ct M vs.reverse h (Kb h vs.reverse ty tn)
section SDX
variable {ws : List Nat} {h0 : Hp_} {M : Mc_} {K : Option Value → Hp_ → Prop} {pc : Nat}
/-- the arguments, the first first, and what is known of them behind the answer -/
def rfl_ (as : List Av) : List (Nat × Rg) → Ab → Option Ab
  | [], a => some a
  | q :: t, a => match as[q.1]? with
    | some (.inl (r, s, _)) => bif remp (rmeet r q.2) then none else rfl_ as t (rfn s (rmeet r q.2) a)
    | _ => none
def x_callB (es : List Av) (pre : Hf) (ty tn : Tr) (n : Nat) : Fx := fun a => match pop es a.2.1 with
  | some rest => bif hmc a.2.2.1 pre && Nat.ble ((rest.map ac).sum) 8 then
      some (((rfl_ (a.2.1.take es.length).reverse ty.1 (a.1, rest, a.2.2)).toList.map (fun b => (n, (b.1, avi (1, 1) :: b.2.1, (ty.2 ++ b.2.2.1, b.2.2.2))))) ++ ((rfl_ (a.2.1.take es.length).reverse tn.1 (a.1, rest, a.2.2)).toList.map (fun b => (n, (b.1, avi (0, 0) :: b.2.1, (tn.2 ++ b.2.2.1, b.2.2.2)))))) else none
  | none => none
/-- each argument with what is known of it, in order -/
def pm (g : Nat → Int) (h : Hp_) (lv : List (Nat × Value)) (us : List Value) (as : List Av) : Prop := ∀ (i : Nat) (a : Av), as[i]? = some a → ∃ v, us[i]? = some v ∧ bm g h v a ∧ sl h lv v a
theorem rfl_ok {g : Nat → Int} {lv : List (Nat × Value)} {st us : List Value} {h : Hp_} {as : List Av} (p : pm g h lv us as) : ∀ {t : List (Nat × Rg)} {a : Ab}, fo us t → (∀ q ∈ t, ∃ r s gh, as[q.1]? = some (.inl (r, s, gh))) → Gm g ws h0 a lv st h → ∃ b, rfl_ as t a = some b ∧ Gm g ws h0 b lv st h ∧ True
  | [], a, _, _, G => ⟨a, rfl, G, trivial⟩
  | q :: t, a, f, ty, G => by
    obtain ⟨r, s, gh, ea⟩ := ty q List.mem_cons_self
    obtain ⟨y, ey, hy⟩ := f q List.mem_cons_self
    obtain ⟨v, ev, ⟨x, ex, hx, _⟩, l⟩ := p q.1 _ ea
    rw [ey] at ev
    have ev := Option.some.inj ev
    rw [← ev] at ex
    cases ex
    have hm := rmeet_in hx hy
    have G' : Gm g ws h0 (rfn s (rmeet r q.2) a) lv st h := Gm.rf2 G (l y ev.symm) hm
    obtain ⟨b, eb, Gb, _⟩ := rfl_ok p (t := t) (fun o ho => f o (List.mem_cons_of_mem _ ho)) (fun o ho => ty o (List.mem_cons_of_mem _ ho)) G'
    refine ⟨b, ?_, Gb, trivial⟩
    unfold rfl_
    rw [ea]
    show (bif remp (rmeet r q.2) then none else rfl_ as t (rfn s (rmeet r q.2) a)) = some b
    rw [remp_in hm]
    exact eb
def tyok (as : List Av) (t : List (Nat × Rg)) : Bool := t.all (fun q => match as[q.1]? with
  | some (.inl _) => true
  | _ => false)
theorem tyok_ok {as : List Av} {t : List (Nat × Rg)} (e : tyok as t = true) : ∀ q ∈ t, ∃ r s gh, as[q.1]? = some (.inl (r, s, gh)) := fun q hq => by
  have := List.all_eq_true.mp e q hq
  split at this
  · rename_i z w; exact ⟨_, _, _, w⟩
  · cases this
theorem pop_pm {g : Nat → Int} {h : Hp_} {lv : List (Nat × Value)} : ∀ {es : List Av} {st : List Value} {sa r : List Av}, sm g h lv st sa → pop es sa = some r → ∃ vs rest, st = vs ++ rest ∧ am h vs es ∧ sm g h lv rest r ∧ sm g h lv vs (sa.take es.length) ∧ (sa.take es.length).length = es.length
  | [], st, sa, r, m, e => by
    have e : some sa = some r := e
    have e := Option.some.inj e
    subst e
    exact ⟨[], st, rfl, trivial, m, trivial, rfl⟩
  | e :: es, v :: st, p :: sa, r, m, q => by
    unfold pop at q
    cases c : asub p e with
    | false => rw [c] at q; cases q
    | true =>
      rw [c] at q
      obtain ⟨vs, rest, e1, e2, e3, e4, e5⟩ := pop_pm m.2.2 q
      exact ⟨v :: vs, rest, by rw [e1]; rfl, ⟨asub_ok c m.1, e2⟩, e3, ⟨m.1, m.2.1, e4⟩, by show (p :: sa.take es.length).length = _; rw [List.length_cons, e5, List.length_cons]⟩
  | _ :: _, [], [], _, _, q => (nomatch q)
  | _ :: _, [], _ :: _, _, m, _ => m.elim
  | _ :: _, _ :: _, [], _, m, _ => m.elim
theorem sm_get {g : Nat → Int} {h : Hp_} {lv : List (Nat × Value)} : ∀ {st : List Value} {sa : List Av} {i : Nat} {a : Av}, sm g h lv st sa → sa[i]? = some a → ∃ v, st[i]? = some v ∧ bm g h v a ∧ sl h lv v a
  | v :: st, p :: sa, 0, a, m, e => by
    rw [List.getElem?_cons_zero] at e
    have e := Option.some.inj e
    subst e
    exact ⟨v, rfl, m.1, m.2.1⟩
  | v :: st, p :: sa, i + 1, a, m, e => by
    rw [List.getElem?_cons_succ] at e
    obtain ⟨w, e1, e2⟩ := sm_get m.2.2 e
    exact ⟨w, by rw [List.getElem?_cons_succ]; exact e1, e2⟩
  | [], [], _, _, _, e => by simp at e
  | [], _ :: _, _, _, m, _ => m.elim
  | _ :: _, [], _, _, m, _ => m.elim
theorem pm_rev {g : Nat → Int} {h : Hp_} {lv : List (Nat × Value)} {st : List Value} {sa : List Av} (m : sm g h lv st sa) : pm g h lv st.reverse sa.reverse := by
  intro i a e
  have l := sm_len m
  have li : i < sa.reverse.length := (List.getElem?_eq_some_iff.mp e).1
  rw [List.length_reverse] at li
  rw [List.getElem?_reverse li] at e
  rw [List.getElem?_reverse (by omega), l]
  exact sm_get m e
theorem am_revget {h : Hp_} {es : List Av} {vs : List Value} (m : am h vs es) : True := trivial
/-- a call's answer, told apart -/
theorem callB_on {g : Nat → Int} {la : List (Nat × Av)} {sa r : List Av} {hf : Hx} {es : List Av} {ty tn : Tr} {n : Nat} {lv : List (Nat × Value)} {vs rest : List Value} {h h1 : Hp_} {v : Option Value} (k1 : tyok (sa.take es.length).reverse ty.1 = true) (k2 : tyok (sa.take es.length).reverse tn.1 = true) (hl : lm g h lv la) (hs : sm g h lv rest r) (ha : sm g h lv vs (sa.take es.length)) (hh : hx g lv h hf) (I : Fr ws h0 h) (hr : lv_rise lv = true) (q : Kb h vs.reverse ty tn v h1)
    (kk : ∀ o ∈ ((rfl_ (sa.take es.length).reverse ty.1 (la, r, hf)).toList.map (fun b => (n, (b.1, avi (1, 1) :: b.2.1, (ty.2 ++ b.2.2.1, b.2.2.2))))) ++ ((rfl_ (sa.take es.length).reverse tn.1 (la, r, hf)).toList.map (fun b => (n, (b.1, avi (0, 0) :: b.2.1, (tn.2 ++ b.2.2.1, b.2.2.2))))), ∀ lv' st' h', Gm g ws h0 o.2 lv' st' h' → AW M 0 0 o.1 lv' st' h' K) : AW M 0 0 n lv (v.toList ++ rest) h1 K := by
  obtain ⟨I1, F1, x, ev, q⟩ := q
  have e := F1.1
  have ei : ∀ b k, h_i h1 b k = h_i h b k := fun b k => (F1.2 b k rfl).1
  have el : ∀ s x, lnk h lv x s → lnk h1 lv x s := fun s x l => ⟨l.1, fun z1 z2 => by rw [ei]; exact l.2.1 z1 z2, fun z => by
    obtain ⟨i, m1, m2⟩ := l.2.2 z
    exact ⟨i, m1, by rw [ei]; exact m2⟩⟩
  have G1 : Gm g ws h0 (la, r, hf) lv rest h1 := by
    refine ⟨lm_sh e hl, ?_, ⟨fun p hp => by rw [ei]; exact hh.1 p hp, fun p hp => by
      obtain ⟨i, m1, m2⟩ := hh.2.1 p hp
      exact ⟨i, m1, by rw [ei]; exact m2⟩, fun p hp => by rw [ei]; exact hh.2.2 p hp⟩, I1, I.tr (Fr.more (a := []) rfl F1), hr⟩
    have s1 := sm_kav (f := fun _ => false) (h' := h1) (lv' := lv) e (fun s x _ l => el s x l) hs
    have e9 : kav (fun _ => false) = id := by funext a; unfold kav; split <;> rfl
    rw [e9, List.map_id] at s1
    exact s1
  have ha1 : sm g h1 lv vs (sa.take es.length) := by
    have s1 := sm_kav (f := fun _ => false) (h' := h1) (lv' := lv) e (fun s x _ l => el s x l) ha
    have e9 : kav (fun _ => false) = id := by funext a; unfold kav; split <;> rfl
    rw [e9, List.map_id] at s1
    exact s1
  subst ev
  rcases q with ⟨x1, f, hp⟩ | ⟨x0, f, hp⟩
  · obtain ⟨b, eb, Gb, _⟩ := rfl_ok (pm_rev ha1) f (tyok_ok k1) G1
    refine kk _ (List.mem_append_left _ (List.mem_map.mpr ⟨b, by rw [eb]; exact List.mem_cons_self, rfl⟩)) _ _ _ ?_
    refine ⟨Gb.1, ⟨bm_i (i_in x1) _, sl_0, Gb.2.1⟩, ⟨fun p hq => ?_, Gb.2.2.1.2⟩, Gb.2.2.2⟩
    rcases List.mem_append.mp hq with z | z
    · exact hp p z
    · exact Gb.2.2.1.1 p z
  · obtain ⟨b, eb, Gb, _⟩ := rfl_ok (pm_rev ha1) f (tyok_ok k2) G1
    refine kk _ (List.mem_append_right _ (List.mem_map.mpr ⟨b, by rw [eb]; exact List.mem_cons_self, rfl⟩)) _ _ _ ?_
    refine ⟨Gb.1, ⟨bm_i (i_in x0) _, sl_0, Gb.2.1⟩, ⟨fun p hq => ?_, Gb.2.2.1.2⟩, Gb.2.2.2⟩
    rcases List.mem_append.mp hq with z | z
    · exact hp p z
    · exact Gb.2.2.1.1 p z
def x_callC (es : List Av) (pre : Hf) (ty tn : Tr) (n : Nat) : Fx := fun a => bif tyok (a.2.1.take es.length).reverse ty.1 && tyok (a.2.1.take es.length).reverse tn.1 then x_callB es pre ty tn n a else none
theorem sd_callSB {M' : Mc_} {es : List Av} {pre : Hf} {ty tn : Tr} {n : Nat} (hC : Hb M' es pre ty tn) (rule : ∀ lv rest h (vs : List Value) K', vs.length = es.length → (rest.map (fun v : Value => v.category)).sum ≤ 8 → Ct M' vs h K' → (∀ v h', K' v h' → AW M 0 0 n lv (v.toList ++ rest) h' K) → AW M 0 0 pc lv (vs.reverse ++ rest) h K) : Sd ws h0 M K pc (x_callC es pre ty tn n) := by
  intro g a out e lv st h G kk
  obtain ⟨la, sa, hf⟩ := a
  unfold x_callC at e
  cases t : tyok (sa.take es.length).reverse ty.1 && tyok (sa.take es.length).reverse tn.1 with
  | false => rw [t] at e; cases e
  | true =>
    rw [t] at e
    rw [Bool.and_eq_true] at t
    have e : x_callB es pre ty tn n (la, sa, hf) = some out := e
    unfold x_callB at e
    split at e
    · rename_i r q
      cases z : hmc hf.1 pre && Nat.ble ((r.map ac).sum) 8 with
      | false => rw [z] at e; cases e
      | true =>
        rw [z] at e
        have e := (Option.some.inj e).symm
        subst e
        rw [Bool.and_eq_true, Nat.ble_eq] at z
        obtain ⟨vs, rest, es', ma, ms, mv, _⟩ := pop_pm G.2.1 q
        subst es'
        have w := rule lv rest h vs.reverse _ (by rw [List.length_reverse]; exact am_len ma) (by rw [sm_cat ms]; exact z.2) (hC vs h ma G.2.2.2.1 (hmc_ok G.2.2.2.1 G.2.2.1.1 z.1)) (fun v h' kv => callB_on t.1 t.2 G.1 ms mv G.2.2.1 G.2.2.2.2.1 G.2.2.2.2.2 kv kk)
        rw [List.reverse_reverse] at w
        exact w
    · cases e
theorem sd_callVB {M' : Mc_} {es es' : List Av} {pre : Hf} {ty tn : Tr} {n m ci N : Nat} (he : es = es' ++ [.inr m]) (ht : thok m ci N = true) (hC : Hb M' es pre ty tn) (rule : ∀ lv rest h (vs : List Value) a K', vs.length = es'.length → h_sh h a = some (ci + 10, N) → (rest.map (fun v : Value => v.category)).sum ≤ 8 → Ct M' (.ref a :: vs) h K' → (∀ v h', K' v h' → AW M 0 0 n lv (v.toList ++ rest) h' K) → AW M 0 0 pc lv (vs.reverse ++ .ref a :: rest) h K) : Sd ws h0 M K pc (x_callC es pre ty tn n) := by
  intro g a out e lv st h G kk
  obtain ⟨la, sa, hf⟩ := a
  unfold x_callC at e
  cases t : tyok (sa.take es.length).reverse ty.1 && tyok (sa.take es.length).reverse tn.1 with
  | false => rw [t] at e; cases e
  | true =>
    rw [t] at e
    rw [Bool.and_eq_true] at t
    have e : x_callB es pre ty tn n (la, sa, hf) = some out := e
    unfold x_callB at e
    split at e
    · rename_i r q
      cases z : hmc hf.1 pre && Nat.ble ((r.map ac).sum) 8 with
      | false => rw [z] at e; cases e
      | true =>
        rw [z] at e
        have e := (Option.some.inj e).symm
        subst e
        rw [Bool.and_eq_true, Nat.ble_eq] at z
        obtain ⟨vs, rest, es2, ma, ms, mv, _⟩ := pop_pm G.2.1 q
        subst es2
        have C := hC _ h ma G.2.2.2.1 (hmc_ok G.2.2.2.1 G.2.2.1.1 z.1)
        have kv0 : ∀ v h', Kb h vs.reverse ty tn v h' → AW M 0 0 n lv (v.toList ++ rest) h' K := fun v h' kv => callB_on t.1 t.2 G.1 ms mv G.2.2.1 G.2.2.2.2.1 G.2.2.2.2.2 kv kk
        have ma' := ma
        rw [he] at ma'
        obtain ⟨us, v0, e1, mu, b⟩ := am_snoc ma'
        obtain ⟨a0, ea, hsa⟩ := thok_ok G.2.2.2.1 ht b
        subst ea
        generalize hK : Kb h vs.reverse ty tn = K1 at C kv0
        subst e1
        rw [List.reverse_append, List.reverse_singleton, List.singleton_append] at C
        have w := rule lv rest h us.reverse a0 K1 (by rw [List.length_reverse]; exact am_len mu) hsa (by rw [sm_cat ms]; exact z.2) C kv0
        rw [List.reverse_reverse] at w
        rw [List.append_assoc, List.singleton_append]
        exact w
    · cases e
/-- the end of such a method: what either answer says of the arguments, that stand in the locals still -/
def trc (la : List (Nat × Av)) (hf : Hf) (t : Tr) : Bool := t.1.all (fun q => match lk q.1 la with
  | some (.inl (r, _, some (j, d))) => Nat.beq j (2 * q.1) && ieq d 0 && rsub r q.2
  | _ => false) && hmc hf t.2
def x_retB (ty tn : Tr) : Fx := fun a => match a.2.1 with
  | [.inl (r, _, _)] => bif rsub r (0, 1) && (ile r.2 0 || trc a.1 a.2.2.1 ty) && (ile 1 r.1 || trc a.1 a.2.2.1 tn) then some [] else none
  | _ => none
end SDX
end
section
/-! the walk of a method that answers yes or no -/
def Sg (g : Nat → Int) (ws : List Nat) (h0 : Hp_) (M : Mc_) (K : Option Value → Hp_ → Prop) (pc : Nat) (f : Fx) : Prop := ∀ (a : Ab) (out : List (Nat × Ab)), f a = some out → ∀ lv st h, Gm g ws h0 a lv st h →
  (∀ o ∈ out, ∀ lv' st' h', Gm g ws h0 o.2 lv' st' h' → AW M 0 0 o.1 lv' st' h' K) → AW M 0 0 pc lv st h K
def Alg (g : Nat → Int) (ws : List Nat) (h0 : Hp_) (M : Mc_) (K : Option Value → Hp_ → Prop) : List (Nat × Fx) → Prop
  | [] => True
  | (p, f) :: t => Sg g ws h0 M K p f ∧ Alg g ws h0 M K t
theorem Alg_ok {g : Nat → Int} {ws : List Nat} {h0 : Hp_} {M : Mc_} {K : Option Value → Hp_ → Prop} : ∀ {l : List (Nat × Fx)}, Alg g ws h0 M K l → ∀ q ∈ l, Sg g ws h0 M K q.1 q.2
  | [], _, q, h => (nomatch h)
  | (_, _) :: _, a, q, h => by
    rcases List.mem_cons.mp h with z | z
    · rw [z]; exact a.1
    · exact Alg_ok a.2 q z
theorem Sg_of {g : Nat → Int} {ws : List Nat} {h0 : Hp_} {M : Mc_} {K : Option Value → Hp_ → Prop} {pc : Nat} {f : Fx} (h : Sd ws h0 M K pc f) : Sg g ws h0 M K pc f := h g
section WALKB
variable {g : Nat → Int} {ws : List Nat} {h0 : Hp_} {M : Mc_} {K : Option Value → Hp_ → Prop} {code : List (Nat × Fx)} {pc : Nat}
theorem wkg_ok (hS : ∀ q ∈ code, Sg g ws h0 M K q.1 q.2) : ∀ n pc a, wk code [] none n pc a = true → ∀ lv st h, Gm g ws h0 a lv st h → AW M 0 0 pc lv st h K
  | 0, _, _, e => (nomatch e)
  | n + 1, pc, a, e => by
    intro lv st h G
    unfold wk at e
    split at e
    · rename_i q; cases q
    · split at e
      · rename_i f q
        split at e
        · rename_i out w
          refine hS (pc, f) (lk_mem q) a out w lv st h G (fun o ho lv' st' h' G' => ?_)
          exact wkg_ok hS n o.1 o.2 (List.all_eq_true.mp e o ho) lv' st' h' G'
        · cases e
      · cases e
theorem trc_ok {la : List (Nat × Av)} {hf : Hf} {t : Tr} {us : List Value} {lv : List (Nat × Value)} {h : Hp_} (hu : ∀ j x, us[j]? = some (Value.int x) → g j = x.toInt) (ty : ∀ q ∈ t.1, ∃ x, us[q.1]? = some (Value.int x)) (m : lm g h lv la) (I : Iv h) (hh : hm h hf) (e : trc la hf t = true) : fo us t.1 ∧ hm h t.2 := by
  unfold trc at e
  rw [Bool.and_eq_true] at e
  refine ⟨fun q hq => ?_, hmc_ok I hh e.2⟩
  have w := List.all_eq_true.mp e.1 q hq
  split at w
  · rename_i r s j d lkq
    simp only [Bool.and_eq_true] at w
    obtain ⟨⟨w1, w2⟩, w3⟩ := w
    have w1 := Nat.eq_of_beq_eq_true w1
    have w2 := ieq_iff.mp w2
    obtain ⟨i, v, hi, x, ex, hx, hg⟩ := lm_lk m lkq
    have e1 := (hg _ rfl).2 (by show j % 2 = 0; omega)
    have e1 : x.toInt = g (j / 2) + d := e1
    obtain ⟨y, ey⟩ := ty q hq
    have e2 := hu _ _ ey
    refine ⟨y, ey, ?_⟩
    have e3 : x.toInt = y.toInt := by rw [e1, ← e2, w1, w2, Int.add_zero, Nat.mul_div_cancel_left _ (by omega)]
    rw [← e3]
    exact rsub_in w3 hx
  · cases w
theorem z_retB {us : List Value} {ty tn : Tr} (hu : ∀ j x, us[j]? = some (Value.int x) → g j = x.toInt) (t1 : ∀ q ∈ ty.1, ∃ x, us[q.1]? = some (Value.int x)) (t2 : ∀ q ∈ tn.1, ∃ x, us[q.1]? = some (Value.int x)) (hr : mT M = some .boolean) (hd : decode (mC M) pc = .ok (.ireturn, 1)) : Sg g [] h0 M (Kb h0 us ty tn) pc (x_retB ty tn) := by
  intro a out e lv st h G kk
  obtain ⟨la, sa, hf⟩ := a
  unfold x_retB at e
  split at e
  · rename_i r s g1 q
    have q : sa = [.inl (r, s, g1)] := q
    subst q
    cases z : rsub r (0, 1) && (ile r.2 0 || trc la hf.1 ty) && (ile 1 r.1 || trc la hf.1 tn) with
    | false =>
      have e : (bif rsub r (0, 1) && (ile r.2 0 || trc la hf.1 ty) && (ile 1 r.1 || trc la hf.1 tn) then some [] else none) = some out := e
      rw [z] at e; cases e
    | true =>
      simp only [Bool.and_eq_true, Bool.or_eq_true, ile_iff] at z
      obtain ⟨⟨z1, z2⟩, z3⟩ := z
      obtain ⟨v, t, es, ⟨x, ex, hx, _⟩, _, m⟩ := sm1 G.2.1
      cases t with
      | cons _ _ => exact m.elim
      | nil =>
        subst es ex
        have h01 := rsub_in z1 hx
        refine aw_zret hr (nf_zr h01).1 hd ⟨Nat.zero_le _, Nat.zero_le _⟩ ⟨G.2.2.2.1, G.2.2.2.2.1, x, rfl, ?_⟩
        have a1 : 0 ≤ x.toInt := h01.1
        have a2 : x.toInt ≤ 1 := h01.2
        have a3 := hx.1
        have a4 := hx.2
        rcases (show x.toInt = 1 ∨ x.toInt = 0 by omega) with w | w
        · refine Or.inl ⟨w, ?_⟩
          rcases z2 with z2 | z2
          · omega
          · exact trc_ok hu t1 G.1 G.2.2.2.1 G.2.2.1.1 z2
        · refine Or.inr ⟨w, ?_⟩
          rcases z3 with z3 | z3
          · omega
          · exact trc_ok hu t2 G.1 G.2.2.2.1 G.2.2.1.1 z3
  · cases e
theorem am_get {h : Hp_} : ∀ {vs : List Value} {es : List Av} {i : Nat} {a : Av}, am h vs es → es[i]? = some a → ∃ v, vs[i]? = some v ∧ bn h v a
  | v :: vs, e :: es, 0, a, m, q => by
    rw [List.getElem?_cons_zero] at q
    have q := Option.some.inj q
    subst q
    exact ⟨v, rfl, m.1⟩
  | v :: vs, e :: es, i + 1, a, m, q => by
    rw [List.getElem?_cons_succ] at q
    obtain ⟨w, e1, e2⟩ := am_get m.2 q
    exact ⟨w, by rw [List.getElem?_cons_succ]; exact e1, e2⟩
  | [], [], _, _, _, q => by simp at q
  | [], _ :: _, _, _, m, _ => m.elim
  | _ :: _, [], _, _, m, _ => m.elim
theorem tyok_am {h : Hp_} {vs : List Value} {es : List Av} {t : List (Nat × Rg)} (m : am h vs es) (e : tyok es t = true) : ∀ q ∈ t, ∃ x, vs[q.1]? = some (Value.int x) := fun q hq => by
  obtain ⟨r, s, gh, w⟩ := tyok_ok e q hq
  obtain ⟨v, ev, x, ex, _⟩ := am_get m w
  exact ⟨x, by rw [ev, ex]⟩
theorem args_at {v : Value} : ∀ {us : List Value} {i j : Nat}, (∀ u ∈ us, u.category = 1) → us[j]? = some v → (i + j, v) ∈ lv_args i us
  | u :: us, i, 0, hc, e => by
    rw [List.getElem?_cons_zero] at e
    have e := Option.some.inj e
    subst e
    simp only [lv_args]
    exact List.mem_cons_self
  | u :: us, i, j + 1, hc, e => by
    rw [List.getElem?_cons_succ] at e
    simp only [lv_args]
    rw [cat_nx, hc u List.mem_cons_self]
    have := args_at (i := i + 1) (fun w hw => hc w (List.mem_cons_of_mem _ hw)) e
    rw [show i + (j + 1) = i + 1 + j by omega]
    exact List.mem_cons_of_mem _ this
  | [], _, _, _, e => by simp at e
theorem am_one {h : Hp_} : ∀ {vs : List Value} {es : List Av}, am h vs es → es.all (fun e => Nat.beq (ac e) 1) = true → ∀ v ∈ vs, v.category = 1
  | [], [], _, _, v, hv => (nomatch hv)
  | w :: vs, e :: es, m, c, v, hv => by
    rw [List.all_cons, Bool.and_eq_true] at c
    rcases List.mem_cons.mp hv with z | z
    · rw [z]
      have := ac_cat m.1
      rw [ac_noG] at this
      exact this.trans (Nat.eq_of_beq_eq_true c.1)
    · exact am_one m.2 c.2 v z
  | [], _ :: _, m, _, _, _ => m.elim
  | _ :: _, [], m, _, _, _ => m.elim
theorem lm_lmn {h : Hp_} : ∀ {vs : List Value} {es : List Av} {i : Nat}, am h vs es → lmn h (lv_args i vs) (la_args i es)
  | [], [], _, _ => trivial
  | v :: vs, e :: es, i, m => by
    have c := ac_cat m.1
    rw [ac_noG] at c
    show lmn h (lv_args i (v :: vs)) ((i, noG e) :: la_args (i + ac e) es)
    simp only [lv_args]
    rw [← c, cat_nx]
    refine ⟨rfl, ?_, lm_lmn m.2⟩
    have b := m.1
    unfold bn at b ⊢
    have e2 : noG (noG e) = noG e := by cases e <;> rfl
    rw [e2]; exact b
  | [], _ :: _, _, m => m.elim
  | _ :: _, [], _, m => m.elim
def chkB (code : List (Nat × Fx)) (es : List Av) (pre : Hf) (ty tn : Tr) (n : Nat) : Bool := tyok es.reverse ty.1 && tyok es.reverse tn.1 && es.reverse.all (fun e => Nat.beq (ac e) 1) && wk code [] none n 0 (gz (la_args 0 es.reverse), [], (pre, [], []))
theorem Hb_of {es : List Av} {pre : Hf} {ty tn : Tr} {n : Nat} (hX : ∀ ad A s, mX M ad A s) (hy : plainName (mY M).cls = true) (hv : (es.reverse.map ac).sum ≤ mN M) (hS : ∀ (g : Nat → Int) h0 us, (∀ j x, us[j]? = some (Value.int x) → g j = x.toInt) → (∀ q ∈ ty.1, ∃ x, us[q.1]? = some (Value.int x)) → (∀ q ∈ tn.1, ∃ x, us[q.1]? = some (Value.int x)) → Alg g [] h0 M (Kb h0 us ty tn) code) (e : chkB code es pre ty tn n = true) : Hb M es pre ty tn := by
  intro vs h ma I hp
  unfold chkB at e
  simp only [Bool.and_eq_true] at e
  obtain ⟨⟨⟨e1, e2⟩, e3⟩, e4⟩ := e
  have mr := am_rev ma
  have one := am_one mr e3
  refine Ct.of hX hy (by rw [am_cat mr]; exact hv) ?_
  have hu : ∀ j x, vs.reverse[j]? = some (Value.int x) → gof (lv_args 0 vs.reverse) j = x.toInt := fun j x hj => by
    have := args_at (i := 0) one hj
    rw [Nat.zero_add] at this
    exact gof_mem (args_rise _ _) this
  exact wkg_ok (Alg_ok (hS (gof (lv_args 0 vs.reverse)) h vs.reverse hu (tyok_am mr e1) (tyok_am mr e2))) n 0 _ e4 _ _ _ ⟨lm_gz (fun j x hx _ => gof_mem (args_rise _ _) hx) (lm_lmn mr), trivial, ⟨hp, fun _ z => (nomatch z), fun _ z => (nomatch z)⟩, I, Fr.rf _ _, args_rise _ _⟩
end WALKB
section ZX
variable {ws : List Nat} {h0 : Hp_} {M : Mc_} {K : Option Value → Hp_ → Prop} {pc : Nat}
theorem z_callSB {M' : Mc_} {es : List Av} {pre : Hf} {ty tn : Tr} {idx n : Nat} (hC : Hb M' es pre ty tn) (hd : decode (mC M) pc = .ok (.invokestatic idx, 3)) (hm : cS_ M' n) (hlk : Cond.methodLink (mY M).cls idx (mY M') ∈ lw_g) (hn : es.length = n) (hz : rz_ M' M) {nx : Nat} (hn : pc + 3 = nx) : Sd ws h0 M K pc (x_callC es pre ty tn nx) := by
  subst hn
  exact
  sd_callSB hC (fun lv rest h vs K' hl hc C k => aw_callS hd hm.1 hm.2 hlk (hl.trans hn) hz.1 hc ⟨by rw [hz.2.1]; exact Nat.zero_le _, by rw [hz.2.2.1]; exact Nat.zero_le _⟩ hz.2.2.2 C (fun v h' kv => by rw [hz.2.1, hz.2.2.1]; exact k v h' kv))
theorem z_callSNB {M' : Mc_} {es : List Av} {pre : Hf} {ty tn : Tr} {idx n : Nat} (hC : Hb M' es pre ty tn) (hd : decode (mC M) pc = .ok (.invokestatic idx, 3)) (hm : cS_ M' n) (hlk : ((mY M).cls, idx, mY M') ∈ h_nest) (hn : es.length = n) (hz : rz_ M' M) {nx : Nat} (hn : pc + 3 = nx) : Sd ws h0 M K pc (x_callC es pre ty tn nx) := by
  subst hn
  exact
  sd_callSB hC (fun lv rest h vs K' hl hc C k => aw_callSN hd hm.1 hm.2 hlk (hl.trans hn) hz.1 hc ⟨by rw [hz.2.1]; exact Nat.zero_le _, by rw [hz.2.2.1]; exact Nat.zero_le _⟩ hz.2.2.2 C (fun v h' kv => by rw [hz.2.1, hz.2.2.1]; exact k v h' kv))
theorem z_callVB {M' : Mc_} {es es' : List Av} {pre : Hf} {ty tn : Tr} {idx n m ci N : Nat} {T : u_T} (he : es = es' ++ [.inr m]) (ht : thok m ci N = true) (hC : Hb M' es pre ty tn) (hd : decode (mC M) pc = .ok (.invokevirtual idx, 3)) (hm : cV_ M' n) (hkc : kc_ ci (mY M').cls T N) (hlk : Cond.methodLink (mY M).cls idx (mY M') ∈ lw_g) (hn : es'.length = n) (hz : rz_ M' M) {nx : Nat} (hn : pc + 3 = nx) : Sd ws h0 M K pc (x_callC es pre ty tn nx) := by
  subst hn
  exact
  sd_callVB he ht hC (fun lv rest h vs a K' hl hs hc C k => aw_callV hd hm.1 hkc hs hm.2.1 hm.2.2 hlk (hl.trans hn) hz.1 hc ⟨by rw [hz.2.1]; exact Nat.zero_le _, by rw [hz.2.2.1]; exact Nat.zero_le _⟩ hz.2.2.2 C (fun v h' kv => by rw [hz.2.1, hz.2.2.1]; exact k v h' kv))
end ZX
end
section
theorem mw_min : Cond.code Lib.Math.min.name Lib.Math.min.code 2 (some .int) ∈ lw_g := tw_552
theorem mw_max : Cond.code Lib.Math.max.name Lib.Math.max.code 2 (some .int) ∈ lw_g := tw_790
theorem aw_mmin {M : Mc_} {kc ks pc : Nat} {lv : List (Nat × Value)} {rest : List Value} {h : Hp_} {K : Option Value → Hp_ → Prop} {idx : Nat} {x y : Int32} (hd : decode (mC M) pc = .ok (.invokestatic idx, 3)) (hlk : Cond.methodLink (mY M).cls idx Lib.Math.min.name ∈ lw_g) (hfr : 1 ≤ (mR M).frames) (hlo : (rest.map (fun v => v.category)).sum + 13 ≤ (mR M).locals) (hk : kc ≤ (mR M).cells ∧ ks ≤ (mR M).slots) (k : AW M kc ks (pc + 3) lv (.int (if y < x then y else x) :: rest) h K) : AW M kc ks pc lv (.int y :: .int x :: rest) h K := by
  intro l p e s m args below meth c dC dI cy A ad0 adV ad dom0 dom H locs ls hf hX hT hE hW hS hl ho hs
  exact va_mmin hf.1 hf.2.1 (hf.2.2.1.trans hl.1.symm) hf.2.2.2.2.2.1 (hf.2.2.2.2.2.2.2.1 _ hlk) (hf.2.2.2.2.2.2.2.1 _ tw_551) (hf.2.2.2.2.2.2.2.1 _ tw_14) (hf.2.2.2.2.2.2.2.1 _ mw_min) hfr (by rw [cat_cv]; exact hlo) hk.1 hk.2 hd (k l p e s m args below meth c dC dI cy A ad0 adV ad dom0 dom H locs ls hf hX hT hE hW hS hl ho (ok_c ok_i (ok_t (ok_t hs))))
theorem aw_mmax {M : Mc_} {kc ks pc : Nat} {lv : List (Nat × Value)} {rest : List Value} {h : Hp_} {K : Option Value → Hp_ → Prop} {idx : Nat} {x y : Int32} (hd : decode (mC M) pc = .ok (.invokestatic idx, 3)) (hlk : Cond.methodLink (mY M).cls idx Lib.Math.max.name ∈ lw_g) (hfr : 1 ≤ (mR M).frames) (hlo : (rest.map (fun v => v.category)).sum + 13 ≤ (mR M).locals) (hk : kc ≤ (mR M).cells ∧ ks ≤ (mR M).slots) (k : AW M kc ks (pc + 3) lv (.int (if x < y then y else x) :: rest) h K) : AW M kc ks pc lv (.int y :: .int x :: rest) h K := by
  intro l p e s m args below meth c dC dI cy A ad0 adV ad dom0 dom H locs ls hf hX hT hE hW hS hl ho hs
  exact va_mmax hf.1 hf.2.1 (hf.2.2.1.trans hl.1.symm) hf.2.2.2.2.2.1 (hf.2.2.2.2.2.2.2.1 _ hlk) (hf.2.2.2.2.2.2.2.1 _ tw_789) (hf.2.2.2.2.2.2.2.1 _ tw_14) (hf.2.2.2.2.2.2.2.1 _ mw_max) hfr (by rw [cat_cv]; exact hlo) hk.1 hk.2 hd (k l p e s m args below meth c dC dI cy A ad0 adV ad dom0 dom H locs ls hf hX hT hE hW hS hl ho (ok_c ok_i (ok_t (ok_t hs))))
section ZM
variable {ws : List Nat} {h0 : Hp_} {M : Mc_} {K : Option Value → Hp_ → Prop} {pc : Nat}
def x_binC (o : Rg → Rg → Rg) (n : Nat) : Fx := fun a => match a.2.1 with
  | .inl (rb, _, _) :: .inl (ra, _, _) :: st => bif Nat.ble ((st.map ac).sum) 8 then some [(n, a.1, avi (o ra rb) :: st, a.2.2)] else none
  | _ => none
theorem sd_binC {f : Int32 → Int32 → Int32} {o : Rg → Rg → Rg} {n : Nat} (ok : opok f o) (rule : ∀ lv st h x y, (st.map (fun v : Value => v.category)).sum ≤ 8 → AW M 0 0 n lv (.int (f x y) :: st) h K → AW M 0 0 pc lv (.int y :: .int x :: st) h K) : Sd ws h0 M K pc (x_binC o n) := by
  intro g a out e lv st h G k
  obtain ⟨la, sa, hf⟩ := a
  unfold x_binC at e
  split at e
  · rename_i rb sb gb ra s2 ga sa' q
    have q : sa = .inl (rb, sb, gb) :: .inl (ra, s2, ga) :: sa' := q
    subst q
    cases z : Nat.ble ((sa'.map ac).sum) 8 with
    | false => rw [z] at e; cases e
    | true =>
      rw [z] at e
      have e := (Option.some.inj e).symm
      subst e
      obtain ⟨v, w, t, es, ⟨y, ey, hy, _⟩, _, ⟨x, ex, hx, _⟩, _, m⟩ := sm2 G.2.1
      subst es ey ex
      exact rule lv t h x y (by rw [sm_cat m]; exact Nat.ble_eq.mp z) (k _ List.mem_cons_self _ _ _ ⟨G.1, ⟨bm_i (ok x y ra rb hx hy) _, sl_0, m⟩, G.2.2⟩)
  · cases e
def gup (q : Nat × Int) : Nat × Int := (2 * (q.1 / 2) + 1, q.2)
theorem gq_up {g : Nat → Int} {x y : Int32} {q : Nat × Int} (h : gq g x q) (l : x.toInt ≤ y.toInt) : gq g y (gup q) := by
  have h1 := h.1
  refine ⟨?_, fun z => ?_⟩
  · show g ((2 * (q.1 / 2) + 1) / 2) + q.2 ≤ _
    rw [show (2 * (q.1 / 2) + 1) / 2 = q.1 / 2 by omega]
    omega
  · exact absurd z (by show ¬ (2 * (q.1 / 2) + 1) % 2 = 0; omega)
/-- the larger of two: not below the first -/
def x_max (n : Nat) : Fx := fun a => match a.2.1 with
  | .inl (rb, _, _) :: .inl (ra, _, ga) :: st => bif Nat.ble ((st.map ac).sum) 8 then some [(n, a.1, .inl (o_max ra rb, (0, 0), ga.map gup) :: st, a.2.2)] else none
  | _ => none
theorem sd_max {n : Nat} (rule : ∀ lv st h x y, (st.map (fun v : Value => v.category)).sum ≤ 8 → AW M 0 0 n lv (.int (if x < y then y else x) :: st) h K → AW M 0 0 pc lv (.int y :: .int x :: st) h K) : Sd ws h0 M K pc (x_max n) := by
  intro g a out e lv st h G k
  obtain ⟨la, sa, hf⟩ := a
  unfold x_max at e
  split at e
  · rename_i rb sb gb ra s2 ga sa' q
    have q : sa = .inl (rb, sb, gb) :: .inl (ra, s2, ga) :: sa' := q
    subst q
    cases z : Nat.ble ((sa'.map ac).sum) 8 with
    | false => rw [z] at e; cases e
    | true =>
      rw [z] at e
      have e := (Option.some.inj e).symm
      subst e
      obtain ⟨v, w, t, es, ⟨y, ey, hy, _⟩, _, ⟨x, ex, hx, hg⟩, _, m⟩ := sm2 G.2.1
      subst es ey ex
      refine rule lv t h x y (by rw [sm_cat m]; exact Nat.ble_eq.mp z) (k _ List.mem_cons_self _ _ _ ⟨G.1, ⟨⟨_, rfl, ok_max x y ra rb hx hy, fun p hp => ?_⟩, sl_0, m⟩, G.2.2⟩)
      cases ga with
      | none => cases hp
      | some o =>
        have hp : some (gup o) = some p := hp
        have hp := Option.some.inj hp
        rw [← hp]
        refine gq_up (hg o rfl) ?_
        split
        · rename_i c; exact Int.le_of_lt (Int32.lt_iff_toInt_lt.mp c)
        · exact Int.le_refl _
  · cases e
theorem z_min {idx : Nat} (hd : decode (mC M) pc = .ok (.invokestatic idx, 3)) (hlk : Cond.methodLink (mY M).cls idx Lib.Math.min.name ∈ lw_g) (hfr : 1 ≤ (mR M).frames) (hlo : 100 ≤ (mR M).locals) {nx : Nat} (hn : pc + 3 = nx) : Sd ws h0 M K pc (x_binC o_min nx) := by
  subst hn
  exact sd_binC ok_min (fun _ _ _ _ _ hs k => aw_mmin hd hlk hfr (by omega) ⟨Nat.zero_le _, Nat.zero_le _⟩ k)
theorem z_max {idx : Nat} (hd : decode (mC M) pc = .ok (.invokestatic idx, 3)) (hlk : Cond.methodLink (mY M).cls idx Lib.Math.max.name ∈ lw_g) (hfr : 1 ≤ (mR M).frames) (hlo : 100 ≤ (mR M).locals) {nx : Nat} (hn : pc + 3 = nx) : Sd ws h0 M K pc (x_max nx) := by
  subst hn
  exact sd_max (fun _ _ _ _ _ hs k => aw_mmax hd hlk hfr (by omega) ⟨Nat.zero_le _, Nat.zero_le _⟩ k)
end ZM
end
section
/-! methods whose answer tells what fields hold: one of several cases -/
abbrev Alt : Type := List (Av × Hf)
def Kd (ws : List Nat) (h0 : Hp_) (al : Alt) (v : Option Value) (h : Hp_) : Prop := Iv h ∧ Fr ws h0 h ∧ ∃ q ∈ al, hm h q.2 ∧ rtm h v (some q.1)
abbrev Ctd : Type := List Av × Hf × Alt × List Nat
def Hd (M : Mc_) (c : Ctd) : Prop := ∀ vs h, am h vs c.1 → Iv h → hm h c.2.1 → Ct M vs.reverse h (Kd c.2.2.2 h c.2.2.1)
section SDD
variable {ws : List Nat} {h0 : Hp_} {M : Mc_} {K : Option Value → Hp_ → Prop} {pc : Nat}
def x_calld (ws : List Nat) (c : Ctd) (n : Nat) : Fx := fun a => match pop c.1 a.2.1 with
  | some rest => bif wsub c.2.2.2 ws && hmc a.2.2.1 c.2.1 && Nat.ble ((rest.map ac).sum) 8 then some (c.2.2.1.map (fun q => (n, (a.1, noG q.1 :: rest.map (kav kfl), kcl ([], [], none, q.2, c.2.2.2) a.2.2)))) else none
  | none => none
theorem calld_on {g : Nat → Int} {la : List (Nat × Av)} {hf : Hx} {c : Ctd} {r : List Av} {lv : List (Nat × Value)} {rest : List Value} {h h1 : Hp_} {v : Option Value} {n : Nat} (hl : lm g h lv la) (hs : sm g h lv rest r) (hh : hx g lv h hf) (I : Fr ws h0 h) (hr : lv_rise lv = true) (hw : wsub c.2.2.2 ws = true) (q : Kd c.2.2.2 h c.2.2.1 v h1)
    (kx : ∀ o ∈ c.2.2.1.map (fun q => (n, ((la, noG q.1 :: r.map (kav kfl), kcl ([], [], none, q.2, c.2.2.2) hf) : Ab))), ∀ lv' st' h', Gm g ws h0 o.2 lv' st' h' → AW M 0 0 o.1 lv' st' h' K) : AW M 0 0 n lv (v.toList ++ rest) h1 K := by
  obtain ⟨I1, F1, o, ho, hp, hv⟩ := q
  refine kx _ (List.mem_map.mpr ⟨o, ho, rfl⟩) _ _ _ ?_
  have w := call_on (c := ([], [], some o.1, o.2, c.2.2.2)) hl hs hh I hr hw ⟨I1, F1, hp, hv⟩
  exact w
theorem sd_calldS {M' : Mc_} {c : Ctd} {n : Nat} (hC : Hd M' c) (rule : ∀ lv rest h (vs : List Value) K', vs.length = c.1.length → (rest.map (fun v : Value => v.category)).sum ≤ 8 → Ct M' vs h K' → (∀ v h', K' v h' → AW M 0 0 n lv (v.toList ++ rest) h' K) → AW M 0 0 pc lv (vs.reverse ++ rest) h K) : Sd ws h0 M K pc (x_calld ws c n) := by
  intro g a out e lv st h G kx
  obtain ⟨la, sa, hf⟩ := a
  unfold x_calld at e
  split at e
  · rename_i r q
    cases z : wsub c.2.2.2 ws && hmc hf.1 c.2.1 && Nat.ble ((r.map ac).sum) 8 with
    | false => rw [z] at e; cases e
    | true =>
      rw [z] at e
      have e := (Option.some.inj e).symm
      subst e
      simp only [Bool.and_eq_true, Nat.ble_eq] at z
      obtain ⟨⟨z1, z2⟩, z3⟩ := z
      obtain ⟨vs, rest, es, ma, ms⟩ := pop_ok G.2.1 q
      subst es
      have w := rule lv rest h vs.reverse _ (by rw [List.length_reverse]; exact am_len ma) (by rw [sm_cat ms]; exact z3) (hC vs h ma G.2.2.2.1 (hmc_ok G.2.2.2.1 G.2.2.1.1 z2)) (fun v h' kv => calld_on G.1 ms G.2.2.1 G.2.2.2.2.1 G.2.2.2.2.2 z1 kv kx)
      rw [List.reverse_reverse] at w
      exact w
  · cases e
theorem sd_calldV {M' : Mc_} {c : Ctd} {n m ci N : Nat} {es : List Av} (he : c.1 = es ++ [.inr m]) (ht : thok m ci N = true) (hC : Hd M' c) (rule : ∀ lv rest h (vs : List Value) a K', vs.length = es.length → h_sh h a = some (ci + 10, N) → (rest.map (fun v : Value => v.category)).sum ≤ 8 → Ct M' (.ref a :: vs) h K' → (∀ v h', K' v h' → AW M 0 0 n lv (v.toList ++ rest) h' K) → AW M 0 0 pc lv (vs.reverse ++ .ref a :: rest) h K) : Sd ws h0 M K pc (x_calld ws c n) := by
  intro g a out e lv st h G kx
  obtain ⟨la, sa, hf⟩ := a
  unfold x_calld at e
  split at e
  · rename_i r q
    cases z : wsub c.2.2.2 ws && hmc hf.1 c.2.1 && Nat.ble ((r.map ac).sum) 8 with
    | false => rw [z] at e; cases e
    | true =>
      rw [z] at e
      have e := (Option.some.inj e).symm
      subst e
      simp only [Bool.and_eq_true, Nat.ble_eq] at z
      obtain ⟨⟨z1, z2⟩, z3⟩ := z
      obtain ⟨vs, rest, es2, ma, ms⟩ := pop_ok G.2.1 q
      subst es2
      have ma' := ma
      rw [he] at ma'
      obtain ⟨us, v0, e1, mu, b⟩ := am_snoc ma'
      obtain ⟨a0, ea, hsa⟩ := thok_ok G.2.2.2.1 ht b
      subst ea e1
      have C := hC _ h ma G.2.2.2.1 (hmc_ok G.2.2.2.1 G.2.2.1.1 z2)
      rw [List.reverse_append, List.reverse_singleton, List.singleton_append] at C
      have w := rule lv rest h us.reverse a0 _ (by rw [List.length_reverse]; exact am_len mu) hsa (by rw [sm_cat ms]; exact z3) C (fun v h' kv => calld_on G.1 ms G.2.2.1 G.2.2.2.2.1 G.2.2.2.2.2 z1 kv kx)
      rw [List.reverse_reverse] at w
      rw [List.append_assoc, List.singleton_append]
      exact w
  · cases e
def x_retd (nr : Rg) (al : Alt) : Fx := fun a => match a.2.1 with
  | [.inl (r, s, g)] => bif al.any (fun q => asub (.inl (r, s, g)) q.1 && hmc a.2.2.1 q.2) && rsub r nr then some [] else none
  | _ => none
theorem sd_retd {nr : Rg} {al : Alt} (rule : ∀ lv h x, rin x.toInt nr → Kd ws h0 al (some (.int x)) h → AW M 0 0 pc lv [.int x] h (Kd ws h0 al)) : Sd ws h0 M (Kd ws h0 al) pc (x_retd nr al) := by
  intro g a out e lv st h G kx
  obtain ⟨la, sa, hf⟩ := a
  unfold x_retd at e
  split at e
  · rename_i r s g1 q
    have q : sa = [.inl (r, s, g1)] := q
    subst q
    cases z : al.any (fun q => asub (.inl (r, s, g1)) q.1 && hmc hf.1 q.2) && rsub r nr with
    | false =>
      have e : (bif al.any (fun q => asub (.inl (r, s, g1)) q.1 && hmc hf.1 q.2) && rsub r nr then some [] else none) = some out := e
      rw [z] at e; cases e
    | true =>
      rw [Bool.and_eq_true] at z
      obtain ⟨o, ho, z1⟩ := List.any_eq_true.mp z.1
      rw [Bool.and_eq_true] at z1
      obtain ⟨v, t, es, b, _, m⟩ := sm1 G.2.1
      have b' := b
      obtain ⟨x, ex, hx, _⟩ := b'
      cases t with
      | cons _ _ => exact m.elim
      | nil =>
        subst es ex
        exact rule lv h x (rsub_in z.2 hx) ⟨G.2.2.2.1, G.2.2.2.2.1, o, ho, hmc_ok G.2.2.2.1 G.2.2.1.1 z1.2, _, rfl, asub_ok z1.1 b⟩
  · cases e
theorem z_iretd {al : Alt} (hr : mT M = some .int) (hd : decode (mC M) pc = .ok (.ireturn, 1)) : Sd ws h0 M (Kd ws h0 al) pc (x_retd rtop al) := sd_retd (fun _ _ _ _ k => aw_iret hr hd ⟨Nat.zero_le _, Nat.zero_le _⟩ k)
theorem z_zretd {al : Alt} (hr : mT M = some .boolean) (hd : decode (mC M) pc = .ok (.ireturn, 1)) : Sd ws h0 M (Kd ws h0 al) pc (x_retd (0, 1) al) := sd_retd (fun _ _ _ hx k => aw_zret hr (nf_zr hx).1 hd ⟨Nat.zero_le _, Nat.zero_le _⟩ k)
theorem z_calldS {M' : Mc_} {c : Ctd} {idx n : Nat} (hC : Hd M' c) (hd : decode (mC M) pc = .ok (.invokestatic idx, 3)) (hm : cS_ M' n) (hlk : Cond.methodLink (mY M).cls idx (mY M') ∈ lw_g) (hn : c.1.length = n) (hz : rz_ M' M) {nx : Nat} (hnx : pc + 3 = nx) : Sd ws h0 M K pc (x_calld ws c nx) := by
  subst hnx
  exact sd_calldS hC (fun lv rest h vs K' hl hc C k => aw_callS hd hm.1 hm.2 hlk (hl.trans hn) hz.1 hc ⟨by rw [hz.2.1]; exact Nat.zero_le _, by rw [hz.2.2.1]; exact Nat.zero_le _⟩ hz.2.2.2 C (fun v h' kv => by rw [hz.2.1, hz.2.2.1]; exact k v h' kv))
theorem z_calldV {M' : Mc_} {c : Ctd} {idx n m ci N : Nat} {es : List Av} {T : u_T} (he : c.1 = es ++ [.inr m]) (ht : thok m ci N = true) (hC : Hd M' c) (hd : decode (mC M) pc = .ok (.invokevirtual idx, 3)) (hm : cV_ M' n) (hkc : kc_ ci (mY M').cls T N) (hlk : Cond.methodLink (mY M).cls idx (mY M') ∈ lw_g) (hn : es.length = n) (hz : rz_ M' M) {nx : Nat} (hnx : pc + 3 = nx) : Sd ws h0 M K pc (x_calld ws c nx) := by
  subst hnx
  exact sd_calldV he ht hC (fun lv rest h vs a K' hl hs hc C k => aw_callV hd hm.1 hkc hs hm.2.1 hm.2.2 hlk (hl.trans hn) hz.1 hc ⟨by rw [hz.2.1]; exact Nat.zero_le _, by rw [hz.2.2.1]; exact Nat.zero_le _⟩ hz.2.2.2 C (fun v h' kv => by rw [hz.2.1, hz.2.2.1]; exact k v h' kv))
end SDD
def chkD (code : List (Nat × Fx)) (cuts : List Cut) (c : Ctd) (n : Nat) : Bool := cuts.all (wc code cuts n) && wk code cuts none n 0 (la_args 0 c.1.reverse, [], (c.2.1, [], []))
theorem Hd_of {M : Mc_} {code : List (Nat × Fx)} {cuts : List Cut} {c : Ctd} {n : Nat} (hX : ∀ ad A s, mX M ad A s) (hy : plainName (mY M).cls = true) (hv : (c.1.reverse.map ac).sum ≤ mN M) (hS : ∀ h0, ∀ q ∈ code, Sd c.2.2.2 h0 M (Kd c.2.2.2 h0 c.2.2.1) q.1 q.2) (e : chkD code cuts c n = true) : Hd M c := by
  intro vs h ma I hp
  unfold chkD at e
  rw [Bool.and_eq_true] at e
  have mr := am_rev ma
  refine Ct.of hX hy (by rw [am_cat mr]; exact hv) ?_
  exact wk_ok (g := fun _ => 0) (P := none) (lv0 := []) (hh := h) (fun _ z => (nomatch z)) (hS h) (fun c' hc' lv st h' G _ => cut_ok n (hS h) e.1 _ c' hc' lv st h' G rfl) n 0 _ e.2 _ _ _ ⟨lm_args mr, trivial, ⟨hp, fun _ z => (nomatch z), fun _ z => (nomatch z)⟩, I, Fr.rf _ _, args_rise _ _⟩
end
section
/-! texts -/
section SDR
variable {ws : List Nat} {h0 : Hp_} {M : Mc_} {K : Option Value → Hp_ → Prop} {pc : Nat}
theorem aw_ldcT {kc ks : Nat} {lv : List (Nat × Value)} {st : List Value} {h : Hp_} {row n i q : Nat} {tx : String} (hd : decode (mC M) pc = .ok (.ldc i, 2)) (hr : h_strs[row]? = some ((mY M).cls, i, tx, n)) (hq : 1000 + n = q) (k : AW M kc ks (pc + 2) lv (.ref q :: st) h K) : AW M kc ks pc lv st h K := by
  intro l p e s m args below meth c dC dI cy A ad0 adV ad dom0 dom H locs ls hf hX hT hE hW hS hl ho hs
  subst hq
  exact va_ldcS hf.1 hf.2.1 hf.2.2.2.2.2.1 (hT.2 _ (List.mem_of_getElem? hr)) hd (k l p e s m args below meth c dC dI cy A ad0 adV ad dom0 dom H locs ls hf hX hT hE hW hS hl ho (ok_c (fun z w => by cases w; exact Or.inr (Nat.le_add_right _ _)) hs))
theorem z_ldcT {row n i : Nat} {tx : String} (hd : decode (mC M) pc = .ok (.ldc i, 2)) (hr : h_strs[row]? = some ((mY M).cls, i, tx, n)) (hn : n < 4) {nx : Nat} (hnx : pc + 2 = nx) : Sd ws h0 M K pc (x_pushR 4 nx) := by
  subst hnx
  exact sd_pushR (.ref (1000 + n)) (fun _ => ⟨n, hn, rfl⟩) (fun _ _ _ k => aw_ldcT hd hr rfl k)
def x_getT (n : Nat) : Fx := fun a => match a.2.1 with
  | .inr 21 :: st => some [(n, a.1, .inr 4 :: st, a.2.2)]
  | _ => none
theorem sd_getT {n : Nat} (rule : ∀ lv st h b, Wf h → h_r h 11 4 = some b → AW M 0 0 n lv (.ref b :: st) h K → AW M 0 0 pc lv (.ref 11 :: st) h K) : Sd ws h0 M K pc (x_getT n) := by
  intro g a out e lv st h G kx
  obtain ⟨la, sa, hf⟩ := a
  unfold x_getT at e
  split at e
  · rename_i sa' q
    have q : sa = .inr 21 :: sa' := q
    subst q
    have e := (Option.some.inj e).symm
    subst e
    obtain ⟨v, t, es, ev, _, m⟩ := sm1 G.2.1
    have ev : v = .ref 11 := ev
    subst es ev
    obtain ⟨i, hi, hr⟩ := G.2.2.2.1.2.2.2.1
    exact rule lv t h _ G.2.2.2.1.1 hr (kx _ List.mem_cons_self _ _ _ ⟨G.1, ⟨⟨i, hi, rfl⟩, trivial, m⟩, G.2.2⟩)
  · cases e
theorem z_getT {idx : Nat} (hlk : Cond.fieldLink (mY M).cls idx (TX8 4).1 (TX8 4).2.1 (TX8 4).2.2.1 ∈ lw_g) (hd : decode (mC M) pc = .ok (.getfield idx, 3)) {nx : Nat} (hnx : pc + 3 = nx) : Sd ws h0 M K pc (x_getT nx) := by
  subst hnx
  exact sd_getT (fun _ _ _ _ w hr k => aw_getr (k0 := 4) kc_8 (ws_11 w) (Nat.le_of_ble_eq_true rfl) hlk hd rfl hr k)
def x_putT (ws : List Nat) (n : Nat) : Fx := fun a => match a.2.1 with
  | .inr 4 :: .inr 21 :: st => bif inw ws 11 4 then some [(n, a.1, st, a.2.2)] else none
  | _ => none
theorem Wf_rm4 {h : Hp_} {x : Option Nat} (w : Wf h) : Wf (h_rm h 11 4 x) := by
  refine ⟨w.1, fun q hq => ?_⟩
  have c : rfL.all (fun q => !(Nat.beq q.1 11 && Nat.beq q.2.1 4)) = true := by decide +kernel
  have z := List.all_eq_true.mp c q hq
  rw [Bool.not_eq_true'] at z
  have n : ¬ (q.1 = 11 ∧ q.2.1 = 4) := fun y => by rw [y.1, y.2] at z; exact absurd z (by decide)
  rw [h_r_rm, if_neg n]
  exact w.2 q hq
theorem sd_putT {n : Nat} (rule : ∀ lv st h b, Wf h → AW M 0 0 n lv st (h_rm h 11 4 (some b)) K → AW M 0 0 pc lv (.ref b :: .ref 11 :: st) h K) : Sd ws h0 M K pc (x_putT ws n) := by
  intro g a out e lv st h G kx
  obtain ⟨la, sa, hf⟩ := a
  unfold x_putT at e
  split at e
  · rename_i sa' q
    have q : sa = .inr 4 :: .inr 21 :: sa' := q
    subst q
    cases z : inw ws 11 4 with
    | false =>
      have e : (bif inw ws 11 4 then some [(n, la, sa', hf)] else none) = some out := e
      rw [z] at e; cases e
    | true =>
      have e : (bif inw ws 11 4 then some [(n, la, sa', hf)] else none) = some out := e
      rw [z] at e
      have e := (Option.some.inj e).symm
      subst e
      obtain ⟨v, w, t, es, ⟨i, hi, ex⟩, _, ev, _, m⟩ := sm2 G.2.1
      have ev : w = .ref 11 := ev
      subst es ev ex
      refine rule lv t h _ G.2.2.2.1.1 (kx _ List.mem_cons_self _ _ _ ⟨lm_sh (h := h) (h' := h_rm h 11 4 (some (1000 + i))) rfl G.1, ?_, G.2.2.1, ?_, ?_, G.2.2.2.2.2⟩)
      · have m' := sm_kav (f := fun _ => false) (h := h) (h' := h_rm h 11 4 (some (1000 + i))) rfl (fun _ _ _ z => z) m
        have e : kav (fun _ => false) = id := by funext a; unfold kav; split <;> rfl
        rw [e, List.map_id] at m'
        exact m'
      · obtain ⟨I1, I2, I3, _, ⟨c, N, c1, c2, c3, c4⟩, I6⟩ := G.2.2.2.1
        refine ⟨Wf_rm4 I1, I2, fun k => ?_, ⟨i, hi, ?_⟩, ⟨c, N, ?_, c2, c3, c4⟩, Jv_same (h := h) (fun _ _ _ => rfl) rfl (by rw [h_r_rm, if_neg (fun z => absurd z.1 (by decide))]) I6⟩
        · rw [h_r_rm, if_neg (fun z => absurd z.1 (by decide))]
          exact I3 k
        · rw [h_r_rm, if_pos ⟨rfl, rfl⟩]
        · rw [h_r_rm, if_neg (fun z => absurd z.1 (by decide))]
          exact c1
      · refine ⟨G.2.2.2.2.1.1, fun b k hb => ⟨(G.2.2.2.2.1.2 b k hb).1, (G.2.2.2.2.1.2 b k hb).2.1, ?_⟩⟩
        have n : ¬ (b = 11 ∧ k = 4) := fun y => by rw [y.1, y.2, z] at hb; cases hb
        rw [h_r_rm, if_neg n]
        exact (G.2.2.2.2.1.2 b k hb).2.2
  · cases e
theorem z_putT {idx : Nat} (hlk : Cond.fieldLink (mY M).cls idx (TX8 4).1 (TX8 4).2.1 (TX8 4).2.2.1 ∈ lw_g) (hd : decode (mC M) pc = .ok (.putfield idx, 3)) {nx : Nat} (hnx : pc + 3 = nx) : Sd ws h0 M K pc (x_putT ws nx) := by
  subst hnx
  exact sd_putT (fun _ _ _ _ w k => aw_putr (k0 := 4) kc_8 (ws_11 w) (Nat.le_of_ble_eq_true rfl) hlk hd rfl rfl k)
end SDR
end
section
/-! pieces by hand: the minute's entry of the history; a good told -/
section HANDS
variable {ws : List Nat} {h0 : Hp_} {K : Option Value → Hp_ → Prop}
def x_hist : Fx := fun a => match lk 0 a.1, lk 2 a.1 with
  | some (.inr 10), some (.inl (r, _, _)) => bif ile 0 r.1 then some [(30, a.1, .inr 0 :: a.2.1, a.2.2), (26, a)] else none
  | _, _ => none
theorem on_lt32 {N : Nat} (h : N ≤ 20000) : (Int32.ofNat N).toInt = (N : Int) := Int32.toInt_ofNat_of_lt (by omega)
theorem z_hist (n : Nat) : Sd ws h0 (m_X11_placeSign (n + 0) 0 0) K 8 x_hist := by
  intro g a out e lv st h G kx
  unfold x_hist at e
  split at e
  · rename_i r s gh q0 q2
    cases z : ile 0 r.1 with
    | false => rw [z] at e; cases e
    | true =>
      rw [z] at e
      have e := (Option.some.inj e).symm
      subst e
      have z := ile_iff.mp z
      obtain ⟨j0, v0, hj0, ev0⟩ := lm_lk G.1 q0
      have ev0 : v0 = .ref 0 := ev0
      subst ev0
      obtain ⟨j2, v2, hj2, x, ex, hx, _⟩ := lm_lk G.1 q2
      subst ex
      obtain ⟨c, N, c1, c2, c3, c4⟩ := G.2.2.2.1.2.2.2.2.1
      have w := G.2.2.2.1.1
      have x0 := hx.1
      have eN := on_lt32 c3
      refine aw_iload_n (i := 2) rfl d_X11_placeSign_8 j2 hj2 ?_
      refine aw_aload_n (i := 0) rfl d_X11_placeSign_9 j0 hj0 ?_
      refine aw_getr (k0 := 15) kc_11 (ws_0 w) (Nat.le_of_ble_eq_true rfl) tw_502 d_X11_placeSign_10 rfl c1 ?_
      refine aw_alen (v := Int32.ofNat N) c2 (Nat.le_of_ble_eq_true rfl) rfl d_X11_placeSign_13 ?_
      refine aw_icmp_ge (tgt := 26) d_X11_placeSign_14 rfl (fun _ => ?_) (fun d => ?_)
      · exact kx _ (List.mem_cons_of_mem _ List.mem_cons_self) _ _ _ G
      · have d := q_nle d
        refine aw_aload_n (i := 0) rfl d_X11_placeSign_17 j0 hj0 ?_
        refine aw_getr (k0 := 15) kc_11 (ws_0 w) (Nat.le_of_ble_eq_true rfl) tw_502 d_X11_placeSign_18 rfl c1 ?_
        refine aw_iload_n (i := 2) rfl d_X11_placeSign_21 j2 hj2 ?_
        refine aw_lald c2 ?_ d_X11_placeSign_22 ?_
        · have b : (x.toNatClampNeg : Int) = x.toInt := by
            show ((x.toInt.toNat : Nat) : Int) = _
            omega
          have a0 : (0 : Int32).toInt = 0 := rfl
          rintro (y | y)
          · have y := q_lt.mp y
            omega
          · omega
        · refine aw_goto (tgt := 30) d_X11_placeSign_23 rfl ?_
          exact kx _ List.mem_cons_self _ _ _ (G.push (av := .inr 0) ⟨_, rfl⟩ trivial)
  · cases e
theorem put_has (i : Nat) (v : Value) : ∀ lv : List (Nat × Value), (i, v) ∈ lv_put i v lv
  | [] => List.mem_cons_self
  | q :: t => by
    unfold lv_put
    by_cases c : q.1 = i
    · rw [if_pos c]; exact List.mem_cons_self
    · rw [if_neg c]
      by_cases d : i < q.1
      · rw [if_pos d]; exact List.mem_cons_self
      · rw [if_neg d]; exact List.mem_cons_of_mem _ (put_has i v t)
/-- a good: how many there are, in place 3, when there is room -/
def x_many (k : Nat) : Fx := fun a => match lk 0 a.1, a.2.1 with
  | some (.inr 29), [] => some [(24, la_put 3 (avi (0, 7)) (a.1.filter (fun p => ff 3 1 p.1 (ac p.2))), [], (((19, k), (0, 7)) :: (kef 3 a.2.2).1, (kef 3 a.2.2).2)), (22, la_put 3 (avi (8, 8)) (a.1.filter (fun p => ff 3 1 p.1 (ac p.2))), [], kef 3 a.2.2)]
  | _, _ => none
theorem many_on {n : Nat} {g : Nat → Int} {a : Ab} {out : List (Nat × Ab)} {k : Nat} (hk : k = 2 ∨ k = 3) (e : x_many k a = some out) {lv : List (Nat × Value)} {st : List Value} {h : Hp_} (G : Gm g ws h0 a lv st h)
    (kx : ∀ o ∈ out, ∀ lv' st' h', Gm g ws h0 o.2 lv' st' h' → AW (m_X3_add (n + 0) 0 0) 0 0 o.1 lv' st' h' K) : AW (m_X3_add (n + 0) 0 0) 0 0 15 lv (.int (h_i h 19 k) :: st) h K := by
  obtain ⟨la, sa, hf⟩ := a
  unfold x_many at e
  split at e
  · rename_i q0 q1
    have q1 : sa = [] := q1
    subst q1
    have e := (Option.some.inj e).symm
    subst e
    cases st with
    | cons _ _ => exact G.2.1.elim
    | nil =>
      have I := G.2.2.2.1
      have hv : rin (h_i h 19 k).toInt (0, 8) := by
        have := I.2.1 19 k
        rcases hk with z | z <;> subst z
        · have e : tf 19 2 = (0, 8) := by decide +kernel
          rw [e] at this; exact this
        · have e : tf 19 3 = (0, 8) := by decide +kernel
          rw [e] at this; exact this
      have v1 : 0 ≤ (h_i h 19 k).toInt := hv.1
      have v2 : (h_i h 19 k).toInt ≤ 8 := hv.2
      have t8 : (8 : Int32).toInt = 8 := rfl
      refine aw_fil (fun q => ff 3 1 q.1 q.2.category) ?_
      refine aw_istore_n (i := 3) rfl _ d_X3_add_15 (Nat.le_of_ble_eq_true rfl) (by rw [rise_fil G.2.2.2.2.2, fit_fil]; rfl) rfl ?_
      have P := fun av (b : bm g h (.int (h_i h 19 k)) av) => Gm.put (i := 3) (w := 1) (av := av) G b
      have mem : (3, Value.int (h_i h 19 k)) ∈ lv_put 3 (.int (h_i h 19 k)) (lv.filter (fun q => ff 3 1 q.1 q.2.category)) := put_has _ _ _
      obtain ⟨j, hj⟩ := List.getElem?_of_mem mem
      refine aw_iload_n (i := 3) rfl d_X3_add_16 j hj ?_
      refine aw_bipush d_X3_add_17 ib_8 ?_
      refine aw_icmp_lt (tgt := 24) d_X3_add_19 rfl (fun c => ?_) (fun c => ?_)
      · have c := q_lt.mp c
        have G' := P (avi (0, 7)) (bm_i ⟨v1, by show _ ≤ (7 : Int); omega⟩ _)
        refine kx _ List.mem_cons_self _ _ _ ⟨G'.1, G'.2.1, ⟨fun q hq => ?_, G'.2.2.1.2⟩, G'.2.2.2⟩
        rcases List.mem_cons.mp hq with y | y
        · rw [y]; exact ⟨v1, by show (h_i h 19 k).toInt ≤ 7; omega⟩
        · exact G'.2.2.1.1 q y
      · have c := q_nlt c
        exact kx _ (List.mem_cons_of_mem _ List.mem_cons_self) _ _ _ (P (avi (8, 8)) (bm_i ⟨by show (8 : Int) ≤ _; omega, by show _ ≤ (8 : Int); omega⟩ _))
  · cases e
theorem z_many4 (n : Nat) : Sd ws h0 (m_X3_add (n + 0) 0 0) K 4 (x_many 2) := by
  intro g a out e lv st h G kx
  have e' := e
  unfold x_many at e'
  split at e'
  · rename_i q0 q1
    obtain ⟨j0, v0, hj0, ev0⟩ := lm_lk G.1 q0
    have ev0 : v0 = .ref 19 := ev0
    subst ev0
    refine aw_aload_n (i := 0) rfl d_X3_add_4 j0 hj0 ?_
    refine aw_geti (k0 := 2) kc_3 (ws_19 G.2.2.2.1.1) (Nat.le_of_ble_eq_true rfl) tw_323 d_X3_add_5 rfl ?_
    refine aw_goto (tgt := 15) d_X3_add_8 rfl ?_
    exact many_on (Or.inl rfl) e G kx
  · cases e'
theorem z_many11 (n : Nat) : Sd ws h0 (m_X3_add (n + 0) 0 0) K 11 (x_many 3) := by
  intro g a out e lv st h G kx
  have e' := e
  unfold x_many at e'
  split at e'
  · rename_i q0 q1
    obtain ⟨j0, v0, hj0, ev0⟩ := lm_lk G.1 q0
    have ev0 : v0 = .ref 19 := ev0
    subst ev0
    refine aw_aload_n (i := 0) rfl d_X3_add_11 j0 hj0 ?_
    refine aw_geti (k0 := 3) kc_3 (ws_19 G.2.2.2.1.1) (Nat.le_of_ble_eq_true rfl) tw_325 d_X3_add_12 rfl ?_
    exact many_on (Or.inr rfl) e G kx
  · cases e'
end HANDS
end
section
/-! System.arraycopy between int rows -/
theorem tw_nat : Cond.native arraycopyName ∈ lw_g := lw_c5 54 (by decide +kernel) (by decide +kernel)
section COPY
variable {ws : List Nat} {h0 : Hp_} {M : Mc_} {K : Option Value → Hp_ → Prop} {pc : Nat}
theorem aw_copyi {lv : List (Nat × Value)} {rest : List Value} {h : Hp_} {a0 a n0 n1 idx : Nat} {sp dp n : Int32} (hs0 : h_sh h a0 = some (0, n0)) (hs1 : h_sh h a = some (0, n1)) (h1 : ¬ sp < 0) (h2 : ¬ dp < 0) (h3 : ¬ n < 0) (h4 : sp.toNatClampNeg + n.toNatClampNeg ≤ n0) (h5 : dp.toNatClampNeg + n.toNatClampNeg ≤ n1)
    (hlk : Cond.methodLink (mY M).cls idx arraycopyName ∈ lw_g) (hfr : 1 ≤ (mR M).frames) (hlo : (rest.map (fun v => v.category)).sum + (nativeFrameWords "java/lang/System" "arraycopy" 5 + 11) ≤ (mR M).locals) (hd : decode (mC M) pc = .ok (.invokestatic idx, 3))
    (k : AW M 0 0 (pc + 3) lv rest (h_iw h a (va_cpy (h_i h a0) (h_i h a) sp.toNatClampNeg dp.toNatClampNeg n.toNatClampNeg)) K) : AW M 0 0 pc lv (.int n :: .int dp :: .ref a :: .int sp :: .ref a0 :: rest) h K := by
  intro l p e s m args below meth c dC dI cy A ad0 adV ad dom0 dom H locs ls hf hX hT hE hW hS hl ho hs
  obtain ⟨q0, hq0, hw0⟩ := h_W_get (cy := cy) (ad := ad) (h := h) (wd_in hW hs0)
  rw [h_ce_arr hs0 (by decide)] at hw0
  obtain ⟨q1, hq1, hw1⟩ := h_W_get (cy := cy) (ad := ad) (h := h) (wd_in hW hs1)
  rw [h_ce_arr hs1 (by decide)] at hw1
  refine va_copyi hf.1 hf.2.1 (hf.2.2.1.trans hl.1.symm) hf.2.2.2.2.2.1 (hf.2.2.2.2.2.2.2.1 _ hlk) (hf.2.2.2.2.2.2.2.1 _ tw_nat) (hf.2.2.2.2.2.2.2.1 _ tw_1013) (hf.2.2.2.2.2.2.2.1 _ tw_21) hf.2.2.2.2.2.2.2.2.1.1 hW.2.1 hW.2.2 hS q0 q1 0 0 hw0 hw1 rfl rfl rfl h1 h2 h3 h4 h5 (fun _ _ => rfl) hfr (by rw [cat_cv]; exact hlo) hd (fun H1 locs1 g1 g2 hS1 => ?_)
  exact k l p e s m args below meth c dC dI cy A ad0 adV ad dom0 dom H1 locs1 ls hf hX hT hE (wd_i hW hq1 (ce_iw hs1 (by decide)) g1 g2) hS1 hl ho (ok_t (ok_t (ok_t (ok_t (ok_t hs)))))
/-- a stretch of a row laid into another -/
def x_acopy (ws : List Nat) (n : Nat) : Fx := fun a => match a.2.1 with
  | .inl (rn, _, _) :: .inl (rd, _, _) :: .inr (c1 + 10) :: .inl (rs, _, _) :: .inr (c0 + 10) :: st => (match shq c0, shq c1, tfa c0, tfa c1 with
    | some p0, some p1, some r0, some r1 => bif Nat.beq p0.1 0 && Nat.beq p1.1 0 && ile 0 rn.1 && ile 0 rd.1 && ile 0 rs.1 && ile (rs.2 + rn.2) (p0.2 : Int) && ile (rd.2 + rn.2) (p1.2 : Int) && rsub r0 r1 && inw ws c1 999 && !Nat.beq c1 0 && !jr c1 && Nat.ble ((st.map ac).sum) 8 then some [(n, a.1, st.map (kav kfl), kfh (fun q => Nat.beq q.1 c1) c1 a.2.2)] else none
    | _, _, _, _ => none)
  | _ => none
theorem sm5 {g : Nat → Int} {h : Hp_} {lv : List (Nat × Value)} {st : List Value} {p q o u w : Av} {t : List Av} (m : sm g h lv st (p :: q :: o :: u :: w :: t)) : ∃ a b c d e r, st = a :: b :: c :: d :: e :: r ∧ bm g h a p ∧ bm g h b q ∧ bm g h c o ∧ bm g h d u ∧ bm g h e w ∧ sm g h lv r t := by
  match st, m with
  | a :: b :: c :: d :: e :: r, m => exact ⟨a, b, c, d, e, r, rfl, m.1, m.2.2.1, m.2.2.2.2.1, m.2.2.2.2.2.2.1, m.2.2.2.2.2.2.2.2.1, m.2.2.2.2.2.2.2.2.2.2⟩
theorem Iv.iw {h : Hp_} {a : Nat} {f : Nat → Int32} (I : Iv h) (hx : ∀ k, rin (f k).toInt (tf a k)) (hn : a ≠ 0) (hj : jr a = false) : Iv (h_iw h a f) := by
  refine ⟨I.1.iw a f, fun b j => ?_, I.2.2.1, I.2.2.2.1, ?_, Jv_same (h := h) (fun b j hb => ?_) rfl rfl I.2.2.2.2.2⟩
  · rw [h_i_iw]
    split
    · rename_i c; rw [c]; exact hx j
    · exact I.2.1 b j
  · obtain ⟨c, N, e1, e2, e3, e4⟩ := I.2.2.2.2.1
    refine ⟨c, N, e1, e2, e3, ?_⟩
    rw [h_i_iw, if_neg (fun z => hn z.symm)]
    exact e4
  · rw [h_i_iw, if_neg (fun z => by rw [z, jw_jr hn hj] at hb; cases hb)]
theorem Fr.iw {h h1 : Hp_} {a : Nat} {f : Nat → Int32} (F : Fr ws h h1) (ha : inw ws a 999 = true) : Fr ws h (h_iw h1 a f) := by
  refine ⟨F.1, fun b j hb => ⟨?_, (F.2 b j hb).2⟩⟩
  have n : b ≠ a := fun z => by rw [z, inw_row ha j] at hb; cases hb
  rw [← (F.2 b j hb).1, h_i_iw, if_neg n]
theorem Gm.iw {g : Nat → Int} {la : List (Nat × Av)} {sa : List Av} {hf : Hx} {lv : List (Nat × Value)} {st : List Value} {h : Hp_} {a : Nat} {f : Nat → Int32} (G : Gm g ws h0 (la, sa, hf) lv st h) (hxx : ∀ k, rin (f k).toInt (tf a k)) (hn : a ≠ 0) (hj : jr a = false) (ha : inw ws a 999 = true) : Gm g ws h0 (la, sa.map (kav kfl), kfh (fun q => Nat.beq q.1 a) a hf) lv st (h_iw h a f) := by
  refine ⟨lm_sh (h := h) (h' := h_iw h a f) rfl G.1, sm_kav (f := kfl) (h := h) (h' := h_iw h a f) rfl (fun s y hs l => ?_) G.2.1, ⟨fun q hq => ?_, fun q hq => ?_, fun q hq => ?_⟩, G.2.2.2.1.iw hxx hn hj, G.2.2.2.2.1.iw ha, G.2.2.2.2.2⟩
  · refine ⟨l.1, fun z => ?_, fun z => ?_⟩
    · unfold kfl at hs; rw [Nat.ble_eq.mpr z] at hs; cases hs
    · unfold kfl at hs; rw [Nat.ble_eq.mpr (by omega)] at hs; cases hs
  · have w := List.mem_filter.mp hq
    have w2 : q.1.1 ≠ a := fun z => by have t : (!Nat.beq q.1.1 a) = true := w.2; rw [z, Nat.beq_refl] at t; cases t
    rw [h_i_iw, if_neg w2]
    exact G.2.2.1.1 q w.1
  · have w := List.mem_filter.mp hq
    have w2 : q.1.1 ≠ a := fun z => by have := w.2; rw [z, Nat.beq_refl] at this; cases this
    obtain ⟨i, m1, m2⟩ := G.2.2.1.2.1 q w.1
    refine ⟨i, m1, ?_⟩
    rw [h_i_iw, if_neg w2]
    exact m2
  · have w := List.mem_filter.mp hq
    have w2 : q.1.1 ≠ a := fun z => by have t : (!Nat.beq q.1.1 a) = true := w.2; rw [z, Nat.beq_refl] at t; cases t
    rw [h_i_iw, if_neg w2]
    exact G.2.2.1.2.2 q w.1
theorem n_ge {x : Int32} (h : 0 ≤ x.toInt) : ¬ x < 0 := fun z => by
  have := q_lt.mp z
  have e : (0 : Int32).toInt = 0 := rfl
  omega
theorem n_nat {x : Int32} (h : 0 ≤ x.toInt) : (x.toNatClampNeg : Int) = x.toInt := by
  show ((x.toInt.toNat : Nat) : Int) = _
  omega
theorem z_acopy {idx : Nat} (hlk : Cond.methodLink (mY M).cls idx arraycopyName ∈ lw_g) (hfr : 1 ≤ (mR M).frames) (hlo : 100 ≤ (mR M).locals) (hd : decode (mC M) pc = .ok (.invokestatic idx, 3)) {nx : Nat} (hnx : pc + 3 = nx) : Sd ws h0 M K pc (x_acopy ws nx) := by
  subst hnx
  intro g a out e lv st h G kx
  obtain ⟨la, sa, hf⟩ := a
  unfold x_acopy at e
  split at e
  · rename_i rn s1 g1 rd s2 g2 c1 rs s3 g3 c0 sa' q
    have q : sa = .inl (rn, s1, g1) :: .inl (rd, s2, g2) :: .inr (c1 + 10) :: .inl (rs, s3, g3) :: .inr (c0 + 10) :: sa' := q
    subst q
    split at e
    · rename_i p0 p1 r0 r1 w0 w1 w2 w3
      cases z : Nat.beq p0.1 0 && Nat.beq p1.1 0 && ile 0 rn.1 && ile 0 rd.1 && ile 0 rs.1 && ile (rs.2 + rn.2) (p0.2 : Int) && ile (rd.2 + rn.2) (p1.2 : Int) && rsub r0 r1 && inw ws c1 999 && !Nat.beq c1 0 && !jr c1 && Nat.ble ((sa'.map ac).sum) 8 with
      | false => rw [z] at e; cases e
      | true =>
        rw [z] at e
        have e := (Option.some.inj e).symm
        subst e
        simp only [Bool.and_eq_true, ile_iff, Nat.ble_eq] at z
        obtain ⟨⟨⟨⟨⟨⟨⟨⟨⟨⟨⟨y1, y2⟩, y3⟩, y4⟩, y5⟩, y6⟩, y7⟩, y8⟩, y9⟩, y10⟩, y12⟩, y11⟩ := z
        rw [Bool.not_eq_true'] at y12
        have y1 := Nat.eq_of_beq_eq_true y1
        have y2 := Nat.eq_of_beq_eq_true y2
        obtain ⟨v1, v2, v3, v4, v5, t, es, ⟨n, en, hn, _⟩, ⟨d, ed, hdp, _⟩, e3, ⟨sp, esp, hsp, _⟩, e5, m⟩ := sm5 G.2.1
        have e3 : v3 = .ref c1 := e3
        have e5 : v5 = .ref c0 := e5
        subst es en ed e3 esp e5
        have W := G.2.2.2.1.1
        have sh0 : h_sh h c0 = some (0, p0.2) := by rw [W.1 (c0, p0) (lk_mem w0)]; show some p0 = _; rw [← y1]
        have sh1 : h_sh h c1 = some (0, p1.2) := by rw [W.1 (c1, p1) (lk_mem w1)]; show some p1 = _; rw [← y2]
        have a1 := hn.1; have a2 := hn.2; have a3 := hdp.1; have a4 := hdp.2; have a5 := hsp.1; have a6 := hsp.2
        have b1 := n_nat (x := n) (by omega)
        have b2 := n_nat (x := d) (by omega)
        have b3 := n_nat (x := sp) (by omega)
        have c10 : c1 ≠ 0 := fun y => by rw [y] at y10; exact absurd y10 (by decide)
        have nf : nativeFrameWords "java/lang/System" "arraycopy" 5 ≤ 40 := by decide +kernel
        refine aw_copyi sh0 sh1 (n_ge (by omega)) (n_ge (by omega)) (n_ge (by omega)) (by omega) (by omega) hlk hfr (by rw [sm_cat m]; omega) hd (kx _ List.mem_cons_self _ _ _ ?_)
        refine Gm.iw ⟨G.1, m, G.2.2⟩ (fun k => ?_) c10 y12 y9
        unfold va_cpy
        rw [tfa_tf w3]
        split
        · have := G.2.2.2.1.2.1 c0 (sp.toNatClampNeg + (k - d.toNatClampNeg))
          rw [tfa_tf w2] at this
          exact rsub_in y8 this
        · have := G.2.2.2.1.2.1 c1 k
          rw [tfa_tf w3] at this
          exact this
    · cases e
  · cases e
end COPY
end
section
/-! a fair's place in the code of what is wanted still -/
theorem tx_add {x y : Int32} (l : -2147483648 ≤ x.toInt + y.toInt) (u : x.toInt + y.toInt < 2147483648) : (x + y).toInt = x.toInt + y.toInt := by
  rw [Int32.toInt_add, Int.bmod_eq_of_le (by omega) (by omega)]
theorem tx_sub {x y : Int32} (l : -2147483648 ≤ x.toInt - y.toInt) (u : x.toInt - y.toInt < 2147483648) : (x - y).toInt = x.toInt - y.toInt := by
  rw [Int32.toInt_sub, Int.bmod_eq_of_le (by omega) (by omega)]
theorem tx_mul {x y : Int32} (l : -2147483648 ≤ x.toInt * y.toInt) (u : x.toInt * y.toInt < 2147483648) : (x * y).toInt = x.toInt * y.toInt := by
  rw [Int32.toInt_mul, Int.bmod_eq_of_le (by omega) (by omega)]
theorem bits_ge {s y : Int32} (hs : 0 ≤ s.toInt) (h0 : 0 ≤ y.toInt) (h1 : y.toInt ≤ 6) (b : ¬ (s >>> (y &&& 31)) &&& 3 = 0) : ((1 : Int32) <<< (y &&& 31)).toInt ≤ s.toInt ∧ 1 ≤ ((1 : Int32) <<< (y &&& 31)).toInt := by
  have e := nv_shr hs h0 (by omega)
  have s1 := nv_of hs
  have y1 := nv_of h0
  have e1 := nv_shl (x := 1) h0 (by omega)
  have o : nv 1 = 1 := by decide
  rw [o, Nat.one_mul] at e1
  have p : 2 ^ nv y ≤ 2 ^ 6 := Nat.pow_le_pow_right (by omega) (by omega)
  have p0 : 0 < 2 ^ nv y := Nat.two_pow_pos _
  rw [Nat.mod_eq_of_lt (by omega)] at e1
  have r := nv_pos (x := (1 : Int32) <<< (y &&& 31)) (by omega)
  have nz : nv (s >>> (y &&& 31)) ≠ 0 := by
    intro z
    apply b
    have w : s >>> (y &&& 31) = 0 := by
      refine Int32.toInt_inj.mp ?_
      rw [nv_pos (by omega), z]; rfl
    rw [w]; rfl
  rw [e] at nz
  have q : 2 ^ nv y ≤ nv s := by
    rcases Nat.lt_or_ge (nv s) (2 ^ nv y) with z | z
    · exact absurd (Nat.div_eq_of_lt z) nz
    · exact z
  omega
section COST
variable {ws : List Nat} {h0 : Hp_} {K : Option Value → Hp_ → Prop}
def x_cost : Fx := fun a => match lk 0 a.1, lk 1 a.1, lk 2 a.1, lk 3 a.1, lk 4 a.1, a.2.1 with
  | some (.inr 30), some (.inl (r1, _, _)), some (.inl (r2, _, _)), some (.inl (r3, _, _)), some (.inl _), [] => bif rsub r1 (0, 11) && rsub r2 (0, 3) && rsub r3 (0, 255) then some [(28, a), (55, a.1, [avi rtop, avi rtop, avi (1000000000, 1000000000)], a.2.2)] else none
  | _, _, _, _, _, _ => none
theorem z_cost (n : Nat) : Sd ws h0 (m_X6_costWith (n + 1) 0 0) K 12 x_cost := by
  intro g a out e lv st h G kx
  obtain ⟨la, sa, hf⟩ := a
  unfold x_cost at e
  split at e
  · rename_i r1 s1 g1 r2 s2 g2 r3 s3 g3 p4 q0 q1 q2 q3 q4 q5
    have q5 : sa = [] := q5
    subst q5
    cases z : rsub r1 (0, 11) && rsub r2 (0, 3) && rsub r3 (0, 255) with
    | false => rw [z] at e; cases e
    | true =>
      rw [z] at e
      have e := (Option.some.inj e).symm
      subst e
      simp only [Bool.and_eq_true] at z
      obtain ⟨⟨z1, z2⟩, z3⟩ := z
      cases st with
      | cons _ _ => exact G.2.1.elim
      | nil =>
        obtain ⟨j0, v0, hj0, e0⟩ := lm_lk G.1 q0
        have e0 : v0 = .ref 20 := e0
        obtain ⟨j1, v1, hj1, x1, e1, hx1, _⟩ := lm_lk G.1 q1
        obtain ⟨j2, v2, hj2, x2, e2, hx2, _⟩ := lm_lk G.1 q2
        obtain ⟨j3, v3, hj3, x3, e3, hx3, _⟩ := lm_lk G.1 q3
        obtain ⟨j4, v4, hj4, x4, e4, _, _⟩ := lm_lk G.1 q4
        subst e0 e1 e2 e3 e4
        have w := G.2.2.2.1.1
        have a1 := rsub_in z1 hx1
        have a2 := rsub_in z2 hx2
        have a3 := rsub_in z3 hx3
        have b1 : 0 ≤ x1.toInt := a1.1
        have b2 : x1.toInt ≤ 11 := a1.2
        have b3 : 0 ≤ x2.toInt := a2.1
        have b4 : x2.toInt ≤ 3 := a2.2
        have b5 : 0 ≤ x3.toInt := a3.1
        have b6 : x3.toInt ≤ 255 := a3.2
        have t1 : (1 : Int32).toInt = 1 := rfl
        have t2 : (2 : Int32).toInt = 2 := rfl
        have t256 : (256 : Int32).toInt = 256 := rfl
        have ey : (2 * x2).toInt = 2 * x2.toInt := tx_mul (x := 2) (by rw [t2]; omega) (by rw [t2]; omega)
        refine aw_iload_n (i := 3) rfl d_X6_costWith_12 j3 hj3 ?_
        refine aw_iconst d_X6_costWith_13 ic_2 ?_
        refine aw_iload_n (i := 2) rfl d_X6_costWith_14 j2 hj2 ?_
        refine aw_imul d_X6_costWith_15 ?_
        refine aw_ishr d_X6_costWith_16 ?_
        refine aw_iconst d_X6_costWith_17 ic_3 ?_
        refine aw_iand d_X6_costWith_18 ?_
        refine aw_if_eq (tgt := 28) d_X6_costWith_19 rfl (fun _ => ?_) (fun b => ?_)
        · exact kx _ List.mem_cons_self _ _ _ G
        · have bg := bits_ge (s := x3) (y := 2 * x2) b5 (by omega) (by omega) b
          refine aw_iload (i := 4) d_X6_costWith_22 j4 hj4 ?_
          refine aw_iconst d_X6_costWith_24 ic_m1 ?_
          refine aw_icmp_ne (tgt := 31) d_X6_costWith_25 rfl (fun _ => ?_) (fun _ => ?_)
          · refine aw_ldc d_X6_costWith_31 tw_1524 ?_
            refine aw_iload (i := 4) d_X6_costWith_33 j4 hj4 ?_
            refine aw_aload_n (i := 0) rfl d_X6_costWith_35 j0 hj0 ?_
            refine aw_getr (k0 := 18) kc_6 (ws_20 w) (Nat.le_of_ble_eq_true rfl) tw_383 d_X6_costWith_36 rfl (wr_20_18 w) ?_
            refine aw_iload_n (i := 1) rfl d_X6_costWith_39 j1 hj1 ?_
            refine aw_iconst d_X6_costWith_40 ic_1 ?_
            refine aw_iadd d_X6_costWith_41 ?_
            refine aw_sipush d_X6_costWith_42 is_256 ?_
            refine aw_imul d_X6_costWith_45 ?_
            refine aw_iload_n (i := 3) rfl d_X6_costWith_46 j3 hj3 ?_
            refine aw_iadd d_X6_costWith_47 ?_
            refine aw_iconst d_X6_costWith_48 ic_1 ?_
            refine aw_iconst d_X6_costWith_49 ic_2 ?_
            refine aw_iload_n (i := 2) rfl d_X6_costWith_50 j2 hj2 ?_
            refine aw_imul d_X6_costWith_51 ?_
            refine aw_ishl d_X6_costWith_52 ?_
            refine aw_isub d_X6_costWith_53 ?_
            have c1 : (x1 + 1).toInt = x1.toInt + 1 := tx_add (by rw [t1]; omega) (by rw [t1]; omega)
            have c2 : ((x1 + 1) * 256).toInt = (x1.toInt + 1) * 256 := by rw [tx_mul (by rw [t256]; omega) (by rw [t256]; omega), c1, t256]
            have c3 : ((x1 + 1) * 256 + x3).toInt = (x1.toInt + 1) * 256 + x3.toInt := by rw [tx_add (by omega) (by omega), c2]
            have c4 : ((x1 + 1) * 256 + x3 - (1 : Int32) <<< ((2 * x2) &&& 31)).toInt = (x1.toInt + 1) * 256 + x3.toInt - ((1 : Int32) <<< ((2 * x2) &&& 31)).toInt := by rw [tx_sub (by omega) (by omega), c3]
            refine aw_iald (ws_102 w) ?_ d_X6_costWith_54 ?_
            · have b0 := n_nat (x := (x1 + 1) * 256 + x3 - (1 : Int32) <<< ((2 * x2) &&& 31)) (by omega)
              have a0 : (0 : Int32).toInt = 0 := rfl
              rintro (y | y)
              · have y := q_lt.mp y
                omega
              · omega
            · exact kx _ (List.mem_cons_of_mem _ List.mem_cons_self) _ _ _ ⟨G.1, ⟨bm_i (rtop_in _) _, sl_0, bm_i (rtop_in _) _, sl_0, bm_i (i_in (c := 1000000000) (by decide)) _, sl_0, trivial⟩, G.2.2⟩
          · exact kx _ List.mem_cons_self _ _ _ G
  · cases e
end COST
end
section
/-! the class's peek, looked at twice -/
def pq_fresh (h : Hp_) : Prop := (h_i h 11 2).toInt < (h_i h 11 1).toInt ∧ h_i h 31 (h_i h 11 2).toNatClampNeg ≠ 32
def pq_K (h : Hp_) (v : Option Value) (h' : Hp_) : Prop := ∃ r k : Int32, v = some (.int r) ∧ h' = h_im h 11 2 k ∧ rin k.toInt (0, 160) ∧ (r = -1 ∨ (k.toInt < (h_i h 11 1).toInt ∧ r = h_i h 31 k.toNatClampNeg ∧ r ≠ 32)) ∧ (pq_fresh h → k = h_i h 11 2 ∧ r = h_i h 31 (h_i h 11 2).toNatClampNeg)
theorem im_id (h : Hp_) (a k : Nat) : h_im h a k (h_i h a k) = h := by
  have e : upd (h_i h a) k (h_i h a k) = h_i h a := by
    funext j
    show (if j = k then h_i h a k else h_i h a j) = _
    split
    · rename_i c; rw [c]
    · rfl
  have e2 : va_up h.2.1 a (h_i h a) = h.2.1 := by
    funext b
    show (if b = a then h_i h a else h.2.1 b) = _
    split
    · rename_i c; rw [c]; rfl
    · rfl
  show (h.1, va_up h.2.1 a (upd (h_i h a) k (h_i h a k)), h.2.2.1, h.2.2.2) = h
  rw [e, e2]
theorem im_im (h : Hp_) (a k : Nat) (x y : Int32) : h_im (h_im h a k x) a k y = h_im h a k y := by
  have e : va_up (va_up h.2.1 a (upd (h.2.1 a) k x)) a (upd ((va_up h.2.1 a (upd (h.2.1 a) k x)) a) k y) = va_up h.2.1 a (upd (h.2.1 a) k y) := by
    funext b
    show (if b = a then _ else _) = (if b = a then _ else _)
    split
    · funext j
      show (if j = k then y else (va_up h.2.1 a (upd (h.2.1 a) k x)) a j) = (if j = k then y else h.2.1 a j)
      split
      · rfl
      · rename_i c
        show (if a = a then upd (h.2.1 a) k x else h.2.1 a) j = _
        rw [if_pos rfl]
        show (if j = k then x else h.2.1 a j) = _
        rw [if_neg c]
    · rename_i c
      show (if b = a then _ else h.2.1 b) = _
      rw [if_neg c]
  exact congrArg (fun z => (h.1, z, h.2.2.1, h.2.2.2)) e
theorem pq_at {h : Hp_} (I : Iv h) : rin (h_i h 11 2).toInt (0, 160) := by
  have := I.2.1 11 2
  have e : tf 11 2 = (0, 160) := by decide +kernel
  rwa [e] at this
theorem pq_len {h : Hp_} (I : Iv h) : rin (h_i h 11 1).toInt (0, 160) := by
  have := I.2.1 11 1
  have e : tf 11 1 = (0, 160) := by decide +kernel
  rwa [e] at this
theorem pq_byte {h : Hp_} (I : Iv h) (k : Nat) : rin (h_i h 31 k).toInt (0, 255) := by
  have := I.2.1 31 k
  have e : tfa 31 = some (0, 255) := by decide +kernel
  rwa [tfa_tf e] at this
theorem pq_in {h : Hp_} {k : Int32} (I : Iv h) (h0 : 0 ≤ k.toInt) (h1 : k.toInt < (h_i h 11 1).toInt) : vp_in k 160 := by
  have l : (h_i h 11 1).toInt ≤ 160 := (pq_len I).2
  have b0 := n_nat h0
  have a0 : (0 : Int32).toInt = 0 := rfl
  rintro (y | y)
  · have y := q_lt.mp y
    omega
  · omega
theorem pq_iv {h : Hp_} {k : Int32} (I : Iv h) (hk : rin k.toInt (0, 160)) : Iv (h_im h 11 2 k) := by
  have e : tf 11 2 = (0, 160) := by decide +kernel
  exact I.im (by rw [e]; exact hk) (by decide +kernel)
theorem pq_loop (n : Nat) : ∀ (r : Nat) (h : Hp_), Iv h → 160 - (h_i h 11 2).toInt ≤ r → AW (m_X8_peek n 0 0) 0 0 0 [(0, .ref 11)] [] h (pq_K h) := by
  intro r
  induction r with
  | zero =>
    intro h I e
    have w := I.1
    have a1 := pq_at I
    have a2 := pq_len I
    have b1 : 0 ≤ (h_i h 11 2).toInt := a1.1
    have b2 : (h_i h 11 2).toInt ≤ 160 := a1.2
    have b3 : (h_i h 11 1).toInt ≤ 160 := a2.2
    refine aw_aload_n (i := 0) rfl d_X8_peek_0 0 rfl ?_
    refine aw_geti (k0 := 2) kc_8 (ws_11 w) (Nat.le_of_ble_eq_true rfl) tw_62 d_X8_peek_1 rfl ?_
    refine aw_aload_n (i := 0) rfl d_X8_peek_4 0 rfl ?_
    refine aw_geti (k0 := 1) kc_8 (ws_11 w) (Nat.le_of_ble_eq_true rfl) tw_60 d_X8_peek_5 rfl ?_
    refine aw_icmp_ge (tgt := 38) d_X8_peek_8 rfl (fun c => ?_) (fun c => ?_)
    · have c' := q_le.mp c
      refine aw_aload_n (i := 0) rfl d_X8_peek_38 0 rfl ?_
      refine aw_geti (k0 := 2) kc_8 (ws_11 w) (Nat.le_of_ble_eq_true rfl) tw_62 d_X8_peek_39 rfl ?_
      refine aw_aload_n (i := 0) rfl d_X8_peek_42 0 rfl ?_
      refine aw_geti (k0 := 1) kc_8 (ws_11 w) (Nat.le_of_ble_eq_true rfl) tw_60 d_X8_peek_43 rfl ?_
      refine aw_icmp_ge (tgt := 61) d_X8_peek_46 rfl (fun _ => ?_) (fun d => absurd c d)
      refine aw_iconst d_X8_peek_61 ic_m1 ?_
      exact aw_iret rfl d_X8_peek_62 ⟨Nat.zero_le _, Nat.zero_le _⟩ ⟨-1, h_i h 11 2, rfl, (im_id h 11 2).symm, a1, Or.inl rfl, fun f => by have := f.1; omega⟩
    · have := q_nle c
      omega
  | succ r ih =>
    intro h I e
    have w := I.1
    have a1 := pq_at I
    have a2 := pq_len I
    have b1 : 0 ≤ (h_i h 11 2).toInt := a1.1
    have b2 : (h_i h 11 2).toInt ≤ 160 := a1.2
    have b3 : (h_i h 11 1).toInt ≤ 160 := a2.2
    refine aw_aload_n (i := 0) rfl d_X8_peek_0 0 rfl ?_
    refine aw_geti (k0 := 2) kc_8 (ws_11 w) (Nat.le_of_ble_eq_true rfl) tw_62 d_X8_peek_1 rfl ?_
    refine aw_aload_n (i := 0) rfl d_X8_peek_4 0 rfl ?_
    refine aw_geti (k0 := 1) kc_8 (ws_11 w) (Nat.le_of_ble_eq_true rfl) tw_60 d_X8_peek_5 rfl ?_
    refine aw_icmp_ge (tgt := 38) d_X8_peek_8 rfl (fun c => ?_) (fun c => ?_)
    · have c' := q_le.mp c
      refine aw_aload_n (i := 0) rfl d_X8_peek_38 0 rfl ?_
      refine aw_geti (k0 := 2) kc_8 (ws_11 w) (Nat.le_of_ble_eq_true rfl) tw_62 d_X8_peek_39 rfl ?_
      refine aw_aload_n (i := 0) rfl d_X8_peek_42 0 rfl ?_
      refine aw_geti (k0 := 1) kc_8 (ws_11 w) (Nat.le_of_ble_eq_true rfl) tw_60 d_X8_peek_43 rfl ?_
      refine aw_icmp_ge (tgt := 61) d_X8_peek_46 rfl (fun _ => ?_) (fun d => absurd c d)
      refine aw_iconst d_X8_peek_61 ic_m1 ?_
      exact aw_iret rfl d_X8_peek_62 ⟨Nat.zero_le _, Nat.zero_le _⟩ ⟨-1, h_i h 11 2, rfl, (im_id h 11 2).symm, a1, Or.inl rfl, fun f => by have := f.1; omega⟩
    · have c' := q_nle c
      have vi := pq_in (k := h_i h 11 2) I b1 c'
      refine aw_aload_n (i := 0) rfl d_X8_peek_11 0 rfl ?_
      refine aw_getr (k0 := 0) kc_8 (ws_11 w) (Nat.le_of_ble_eq_true rfl) tw_59 d_X8_peek_12 rfl (wr_11_0 w) ?_
      refine aw_aload_n (i := 0) rfl d_X8_peek_15 0 rfl ?_
      refine aw_geti (k0 := 2) kc_8 (ws_11 w) (Nat.le_of_ble_eq_true rfl) tw_62 d_X8_peek_16 rfl ?_
      refine aw_iald (ws_31 w) vi d_X8_peek_19 ?_
      refine aw_bipush d_X8_peek_20 ib_32 ?_
      refine aw_icmp_ne (tgt := 38) d_X8_peek_22 rfl (fun b => ?_) (fun b => ?_)
      · refine aw_aload_n (i := 0) rfl d_X8_peek_38 0 rfl ?_
        refine aw_geti (k0 := 2) kc_8 (ws_11 w) (Nat.le_of_ble_eq_true rfl) tw_62 d_X8_peek_39 rfl ?_
        refine aw_aload_n (i := 0) rfl d_X8_peek_42 0 rfl ?_
        refine aw_geti (k0 := 1) kc_8 (ws_11 w) (Nat.le_of_ble_eq_true rfl) tw_60 d_X8_peek_43 rfl ?_
        refine aw_icmp_ge (tgt := 61) d_X8_peek_46 rfl (fun d => absurd d c) (fun _ => ?_)
        refine aw_aload_n (i := 0) rfl d_X8_peek_49 0 rfl ?_
        refine aw_getr (k0 := 0) kc_8 (ws_11 w) (Nat.le_of_ble_eq_true rfl) tw_59 d_X8_peek_50 rfl (wr_11_0 w) ?_
        refine aw_aload_n (i := 0) rfl d_X8_peek_53 0 rfl ?_
        refine aw_geti (k0 := 2) kc_8 (ws_11 w) (Nat.le_of_ble_eq_true rfl) tw_62 d_X8_peek_54 rfl ?_
        refine aw_iald (ws_31 w) vi d_X8_peek_57 ?_
        refine aw_goto (tgt := 62) d_X8_peek_58 rfl ?_
        exact aw_iret rfl d_X8_peek_62 ⟨Nat.zero_le _, Nat.zero_le _⟩ ⟨_, h_i h 11 2, rfl, (im_id h 11 2).symm, a1, Or.inr ⟨c', rfl, b⟩, fun _ => ⟨rfl, rfl⟩⟩
      · have t1 : (1 : Int32).toInt = 1 := rfl
        have es : (h_i h 11 2 + 1).toInt = (h_i h 11 2).toInt + 1 := tx_add (by rw [t1]; omega) (by rw [t1]; omega)
        refine aw_aload_n (i := 0) rfl d_X8_peek_25 0 rfl ?_
        refine aw_dup d_X8_peek_26 rfl ?_
        refine aw_geti (k0 := 2) kc_8 (ws_11 w) (Nat.le_of_ble_eq_true rfl) tw_62 d_X8_peek_27 rfl ?_
        refine aw_iconst d_X8_peek_30 ic_1 ?_
        refine aw_iadd d_X8_peek_31 ?_
        refine aw_puti (k0 := 2) kc_8 (ws_11 w) (Nat.le_of_ble_eq_true rfl) tw_62 d_X8_peek_32 rfl rfl nf_i ?_
        refine aw_goto (tgt := 0) d_X8_peek_35 rfl ?_
        have I1 : Iv (h_im h 11 2 (h_i h 11 2 + 1)) := pq_iv I ⟨by show (0 : Int) ≤ _; omega, by show _ ≤ (160 : Int); omega⟩
        have e2 : h_i (h_im h 11 2 (h_i h 11 2 + 1)) 11 2 = h_i h 11 2 + 1 := by rw [h_i_im, if_pos ⟨rfl, rfl⟩]
        have e1 : h_i (h_im h 11 2 (h_i h 11 2 + 1)) 11 1 = h_i h 11 1 := by rw [h_i_im, if_neg (fun z => absurd z.2 (by decide))]
        have e31 : ∀ j, h_i (h_im h 11 2 (h_i h 11 2 + 1)) 31 j = h_i h 31 j := fun j => by rw [h_i_im, if_neg (fun z => absurd z.1 (by decide))]
        refine AW.mono (ih _ I1 (by rw [e2, es]; omega)) (fun v h' q => ?_)
        obtain ⟨r', k, q1, q2, q3, q4, _⟩ := q
        rw [im_im] at q2
        rw [e1, e31] at q4
        exact ⟨r', k, q1, q2, q3, q4, fun f => absurd b f.2⟩
theorem pq_ct (n : Nat) {h : Hp_} (I : Iv h) : Ct (m_X8_peek n 0 0) [.ref 11] h (pq_K h) := by
  refine Ct.of (fun _ _ _ => trivial) rfl (Nat.le_of_ble_eq_true rfl) ?_
  exact pq_loop n (160 - (h_i h 11 2).toInt).toNat h I (by omega)
section PK
variable {ws : List Nat} {h0 : Hp_} {K : Option Value → Hp_ → Prop}
/-- a call of peek in readSum -/
theorem aw_pk {n pc : Nat} {lv : List (Nat × Value)} {h : Hp_} (I : Iv h) (hd : decode (mC (m_X8_readSum (n + 1) 0 0)) pc = .ok (.invokevirtual 63, 3)) (k : ∀ v h', pq_K h v h' → AW (m_X8_readSum (n + 1) 0 0) 0 0 (pc + 3) lv (v.toList ++ []) h' K) : AW (m_X8_readSum (n + 1) 0 0) 0 0 pc lv [.ref 11] h K :=
  aw_callV (M' := m_X8_peek n 0 0) (vs := []) (rest := []) hd (cV_X8_peek n 0 0).1 kc_8 (ws_11 I.1) (cV_X8_peek n 0 0).2.1 (cV_X8_peek n 0 0).2.2 tw_685 rfl (rz0 (Nat.le_of_ble_eq_true rfl)).1 (Nat.le_of_ble_eq_true rfl) ⟨Nat.le_refl _, Nat.le_refl _⟩ (fun _ _ _ _ _ _ => trivial) (pq_ct n I) k
def x_pk (ws : List Nat) : Fx := fun a => match lk 0 a.1, a.2.1 with
  | some (.inr 21), [] => bif inw ws 11 2 then some [(84, a.1, [], kfh (fun q => Nat.beq q.1 11 && Nat.beq q.2 2) 11 a.2.2), (46, a.1, [], (((11, 2), (0, 159)) :: (kfh (fun q => Nat.beq q.1 11 && Nat.beq q.2 2) 11 a.2.2).1, (kfh (fun q => Nat.beq q.1 11 && Nat.beq q.2 2) 11 a.2.2).2)), (50, a.1, [], (((11, 2), (0, 159)) :: (kfh (fun q => Nat.beq q.1 11 && Nat.beq q.2 2) 11 a.2.2).1, (kfh (fun q => Nat.beq q.1 11 && Nat.beq q.2 2) 11 a.2.2).2))] else none
  | _, _ => none
theorem z_pk (n : Nat) : Sd ws h0 (m_X8_readSum (n + 1) 0 0) K 19 (x_pk ws) := by
  intro g a out e lv st h G kx
  obtain ⟨la, sa, hf⟩ := a
  unfold x_pk at e
  split at e
  · rename_i q0 q1
    have q1 : sa = [] := q1
    subst q1
    cases z : inw ws 11 2 with
    | false => rw [z] at e; cases e
    | true =>
      rw [z] at e
      have e := (Option.some.inj e).symm
      subst e
      cases st with
      | cons _ _ => exact G.2.1.elim
      | nil =>
        obtain ⟨j0, v0, hj0, e0⟩ := lm_lk G.1 q0
        have e0 : v0 = .ref 11 := e0
        subst e0
        have I := G.2.2.2.1
        have t2 : tf 11 2 = (0, 160) := by decide +kernel
        have GG : ∀ k : Int32, rin k.toInt (0, 160) → Gm g ws h0 (la, [], kfh (fun q => Nat.beq q.1 11 && Nat.beq q.2 2) 11 hf) lv [] (h_im h 11 2 k) := fun k hk =>
          Gm.im (sa := []) G (by rw [t2]; exact hk) (by decide +kernel) z (fun q hq y => by rw [y.1, y.2] at hq; exact absurd hq (by decide))
        have GF : ∀ k : Int32, 0 ≤ k.toInt → k.toInt ≤ 159 → Gm g ws h0 (la, [], (((11, 2), (0, 159)) :: (kfh (fun q => Nat.beq q.1 11 && Nat.beq q.2 2) 11 hf).1, (kfh (fun q => Nat.beq q.1 11 && Nat.beq q.2 2) 11 hf).2)) lv [] (h_im h 11 2 k) := fun k k0 k1 => by
          have G' := GG k ⟨k0, by show _ ≤ (160 : Int); omega⟩
          refine ⟨G'.1, G'.2.1, ⟨fun q hq => ?_, G'.2.2.1.2⟩, G'.2.2.2⟩
          rcases List.mem_cons.mp hq with y | y
          · rw [y]; show rin (h_i (h_im h 11 2 k) 11 2).toInt (0, 159); rw [h_i_im, if_pos ⟨rfl, rfl⟩]; exact ⟨k0, k1⟩
          · exact G'.2.2.1.1 q y
        have n43 : ¬ (-1 : Int32) = 43 := by decide
        have n45 : ¬ (-1 : Int32) = 45 := by decide
        have ll : (h_i h 11 1).toInt ≤ 160 := (pq_len I).2
        -- the second and third look
        have third : ∀ k : Int32, rin k.toInt (0, 160) → k.toInt < (h_i h 11 1).toInt → h_i h 31 k.toNatClampNeg ≠ 32 → AW (m_X8_readSum (n + 1) 0 0) 0 0 37 lv [] (h_im h 11 2 k) K := by
          intro k hk k1 k2
          have k0 : 0 ≤ k.toInt := hk.1
          have I1 := pq_iv I hk
          have e2 : h_i (h_im h 11 2 k) 11 2 = k := by rw [h_i_im, if_pos ⟨rfl, rfl⟩]
          have e1 : h_i (h_im h 11 2 k) 11 1 = h_i h 11 1 := by rw [h_i_im, if_neg (fun z => absurd z.2 (by decide))]
          have e31 : ∀ j, h_i (h_im h 11 2 k) 31 j = h_i h 31 j := fun j => by rw [h_i_im, if_neg (fun z => absurd z.1 (by decide))]
          refine aw_aload_n (i := 0) rfl d_X8_readSum_37 j0 hj0 ?_
          refine aw_pk I1 d_X8_readSum_38 (fun v h' q => ?_)
          obtain ⟨r, k', q1, q2, _, _, q5⟩ := q
          have fr : pq_fresh (h_im h 11 2 k) := ⟨by rw [e2, e1]; exact k1, by rw [e2, e31]; exact k2⟩
          have q6 := (q5 fr).1
          rw [e2] at q6
          rw [q6, im_im] at q2
          subst q1 q2
          refine aw_bipush d_X8_readSum_41 ib_43 ?_
          refine aw_icmp_ne (tgt := 50) d_X8_readSum_43 rfl (fun _ => ?_) (fun _ => ?_)
          · exact kx _ (List.mem_cons_of_mem _ (List.mem_cons_of_mem _ List.mem_cons_self)) _ _ _ (GF k k0 (by omega))
          · exact kx _ (List.mem_cons_of_mem _ List.mem_cons_self) _ _ _ (GF k k0 (by omega))
        refine aw_aload_n (i := 0) rfl d_X8_readSum_19 j0 hj0 ?_
        refine aw_pk I d_X8_readSum_20 (fun v h' q => ?_)
        obtain ⟨r, k, q1, q2, q3, q4, _⟩ := q
        subst q1 q2
        refine aw_bipush d_X8_readSum_23 ib_43 ?_
        refine aw_icmp_eq (tgt := 37) d_X8_readSum_25 rfl (fun c => ?_) (fun c => ?_)
        · rcases q4 with q4 | q4
          · rw [q4] at c; exact absurd c n43
          · exact third k q3 q4.1 (by rw [← q4.2.1]; exact q4.2.2)
        · have I1 := pq_iv I q3
          have e1 : h_i (h_im h 11 2 k) 11 1 = h_i h 11 1 := by rw [h_i_im, if_neg (fun z => absurd z.2 (by decide))]
          have e31 : ∀ j, h_i (h_im h 11 2 k) 31 j = h_i h 31 j := fun j => by rw [h_i_im, if_neg (fun z => absurd z.1 (by decide))]
          refine aw_aload_n (i := 0) rfl d_X8_readSum_28 j0 hj0 ?_
          refine aw_pk I1 d_X8_readSum_29 (fun v h' q => ?_)
          obtain ⟨r', k', p1, p2, p3, p4, _⟩ := q
          rw [im_im] at p2
          rw [e1, e31] at p4
          subst p1 p2
          refine aw_bipush d_X8_readSum_32 ib_45 ?_
          refine aw_icmp_ne (tgt := 84) d_X8_readSum_34 rfl (fun _ => ?_) (fun d => ?_)
          · exact kx _ List.mem_cons_self _ _ _ (GG k' p3)
          · rcases p4 with p4 | p4
            · rw [p4] at d; exact absurd d n45
            · exact third k' p3 p4.1 (by rw [← p4.2.1]; exact p4.2.2)
  · cases e
end PK
end
section
/-! words for the walks -/
abbrev kI (K : Int32 → Hp_ → Prop) : Option Value → Hp_ → Prop := fun v h' => ∃ r, v = some (.int r) ∧ K r h'
abbrev kV (K : Hp_ → Prop) : Option Value → Hp_ → Prop := fun v h' => v = none ∧ K h'
abbrev kL (K : Int64 → Hp_ → Prop) : Option Value → Hp_ → Prop := fun v h' => ∃ r, v = some (.long r) ∧ K r h'
abbrev kR (K : Option Nat → Hp_ → Prop) : Option Value → Hp_ → Prop := fun v h' => ∃ o, v = some (va_rf o) ∧ K o h'
theorem aw_lvp {M : Mc_} {kc ks pc : Nat} {lv : List (Nat × Value)} {st : List Value} {h : Hp_} {K : Option Value → Hp_ → Prop} (ps : List Nat) (lv' : List (Nat × Value)) (hp : ps.filterMap (fun i => lv[i]?) = lv') (k : AW M kc ks pc lv' st h K) : AW M kc ks pc lv st h K := aw_lv lv' (fun q hq => by
  rw [← hp] at hq
  obtain ⟨i, -, hi⟩ := List.mem_filterMap.mp hq
  exact List.mem_of_getElem? hi) k
theorem hi_s (h : Hp_) (a k : Nat) (x : Int32) : h_i (h_im h a k x) a k = x := by rw [h_i_im, if_pos ⟨rfl, rfl⟩]
theorem hl_s (h : Hp_) (a k : Nat) (x : Int64) : h_l (h_lm h a k x) a k = x := by rw [h_l_lm, if_pos ⟨rfl, rfl⟩]
theorem hi_n (h : Hp_) (a k : Nat) (x : Int32) (b j : Nat) (hb : b ≠ a) : h_i (h_im h a k x) b j = h_i h b j := by rw [h_i_im, if_neg (fun z => hb z.1)]
theorem hi_o (h : Hp_) (a k : Nat) (x : Int32) (j : Nat) (hj : j ≠ k) : h_i (h_im h a k x) a j = h_i h a j := by rw [h_i_im, if_neg (fun z => hj z.2)]
theorem hl_n (h : Hp_) (a k : Nat) (x : Int64) (b j : Nat) (hb : b ≠ a) : h_l (h_lm h a k x) b j = h_l h b j := by rw [h_l_lm, if_neg (fun z => hb z.1)]
theorem hl_o (h : Hp_) (a k : Nat) (x : Int64) (j : Nat) (hj : j ≠ k) : h_l (h_lm h a k x) a j = h_l h a j := by rw [h_l_lm, if_neg (fun z => hj z.2)]
theorem aw_vi {M : Mc_} {kc ks pc : Nat} {lv : List (Nat × Value)} {st : List Value} {h : Hp_} {K : Option Value → Hp_ → Prop} {v1 v2 : Int32} (e : v1 = v2) (k : AW M kc ks pc lv (.int v2 :: st) h K) : AW M kc ks pc lv (.int v1 :: st) h K := e ▸ k
theorem aw_vl {M : Mc_} {kc ks pc : Nat} {lv : List (Nat × Value)} {st : List Value} {h : Hp_} {K : Option Value → Hp_ → Prop} {v1 v2 : Int64} (e : v1 = v2) (k : AW M kc ks pc lv (.long v2 :: st) h K) : AW M kc ks pc lv (.long v1 :: st) h K := e ▸ k
theorem nf_z {x : Int32} (h : x = 0 ∨ x = 1) : narrow .boolean (.int x) = .int x ∧ fits .boolean (.int x) = true := by rcases h with h | h <;> subst h <;> exact ⟨rfl, rfl⟩
theorem sw_ne {x w : Int32} (v : Int) (hw : w.toInt = v) (h : ¬ x = w) : x.toInt ≠ v := fun z => h (Int32.toInt_inj.mp (z.trans hw.symm))
theorem aw_tableD {M : Mc_} {kc ks pc : Nat} {lv : List (Nat × Value)} {st : List Value} {h : Hp_} {K : Option Value → Hp_ → Prop} {dflt lo hi : Int} {offs : Array Int} {len : Nat} {x : Int32} {tgt : Nat} (hd : decode (mC M) pc = .ok (.tableswitch dflt lo hi offs, len)) (h1 : x.toInt < lo ∨ hi < x.toInt ∨ offs[(x.toInt - lo).toNat]? = some dflt) (ht : (pc : Int) + dflt = (tgt : Int)) (k : AW M kc ks tgt lv st h K) : AW M kc ks pc lv (.int x :: st) h K := by
  by_cases h2 : x.toInt < lo
  · exact aw_tableOut hd (Or.inl h2) ht k
  · by_cases h3 : hi < x.toInt
    · exact aw_tableOut hd (Or.inr h3) ht k
    · rcases h1 with h1 | h1 | h1
      · exact absurd h1 h2
      · exact absurd h1 h3
      · exact aw_tableIn hd h2 h3 h1 ht k
theorem rr0 {y' y : MethodName} {cc' cc : ByteArray} {nL' nL : Nat} {ret' ret : Option FieldType} {d h' H : Nat} (h1 : h' + 1 ≤ H) (h2 : nL' ≤ 81) : rr_ (fun _ _ _ => True, y', cc', nL', ret', { frames := d + h', cells := 0, slots := 0, locals := 100 * (d + h') }) (fun _ _ _ => True, y, cc, nL, ret, { frames := d + H, cells := 0, slots := 0, locals := 100 * (d + H) }) 0 0 :=
  ⟨⟨(show d + h' + 1 ≤ d + H by omega), (show 8 + (nL' + 11) + 100 * (d + h') ≤ 100 * (d + H) by omega)⟩, Nat.le_refl _, Nat.le_refl _⟩
theorem xs0 {y : MethodName} {cc : ByteArray} {nL : Nat} {ret : Option FieldType} {R : Room} : xs_ (fun _ _ _ => True, y, cc, nL, ret, R) := fun _ _ _ _ _ _ => trivial

theorem t_X12_in (d : Nat) (h : Hp_) (x0 : Int32) (x1 : Int32) (x2 : Int32) (K : Int32 → Hp_ → Prop) (k : (x0 < x1 → K 0 h) ∧ (¬ x0 < x1 → (x2 < x0 → K 0 h) ∧ (¬ x2 < x0 → K 1 h))) : Ci (m_X12_in (d + 0) 0 0) [.int x0, .int x1, .int x2] h K := by
  refine Ct.of (fun _ _ _ => trivial) rfl (Nat.le_of_ble_eq_true rfl) ?_
  show AW (m_X12_in (d + 0) 0 0) 0 0 0 [(0, .int x0), (1, .int x1), (2, .int x2)] [] h (kI K)
  refine aw_iload_n (i := 0) rfl d_X12_in_0 0 rfl ?_
  refine aw_iload_n (i := 1) rfl d_X12_in_1 1 rfl ?_
  refine aw_icmp_lt (tgt := 14) d_X12_in_2 rfl (fun c1 => ?_) (fun c1 => ?_)
  · have k := k.1 c1
    refine aw_iconst (v := 0) d_X12_in_14 ic_0 ?_
    exact aw_zret rfl rfl d_X12_in_15 ⟨Nat.le_refl _, Nat.le_refl _⟩ ⟨_, rfl, k⟩
  · have k := k.2 c1
    refine aw_iload_n (i := 0) rfl d_X12_in_5 0 rfl ?_
    refine aw_iload_n (i := 2) rfl d_X12_in_6 2 rfl ?_
    refine aw_icmp_gt (tgt := 14) d_X12_in_7 rfl (fun c2 => ?_) (fun c2 => ?_)
    · have k := k.1 c2
      refine aw_iconst (v := 0) d_X12_in_14 ic_0 ?_
      exact aw_zret rfl rfl d_X12_in_15 ⟨Nat.le_refl _, Nat.le_refl _⟩ ⟨_, rfl, k⟩
    · have k := k.2 c2
      refine aw_iconst (v := 1) d_X12_in_10 ic_1 ?_
      refine aw_goto (tgt := 15) d_X12_in_11 rfl ?_
      exact aw_zret rfl rfl d_X12_in_15 ⟨Nat.le_refl _, Nat.le_refl _⟩ ⟨_, rfl, k⟩
theorem s_X12_in (d : Nat) (h : Hp_) (x lo hi : Int32) : Ci (m_X12_in (d + 0) 0 0) [.int x, .int lo, .int hi] h (fun r h1 => r = bI (lo ≤ x ∧ x ≤ hi) ∧ h1 = h) := by
  refine t_X12_in d h x lo hi _ ⟨fun c => ⟨?_, rfl⟩, fun c => ⟨fun e => ⟨?_, rfl⟩, fun e => ⟨?_, rfl⟩⟩⟩
  · exact (bI_0.mpr (fun z => absurd c (Int32.not_lt.mpr z.1))).symm
  · exact (bI_0.mpr (fun z => absurd e (Int32.not_lt.mpr z.2))).symm
  · exact (bI_1.mpr ⟨Int32.not_lt.mp c, Int32.not_lt.mp e⟩).symm
theorem t_X11_within (d : Nat) (h : Hp_) (x0 : Int32) (x1 : Int32) (x2 : Int32) (K : Int32 → Hp_ → Prop) (k : (x0 < x1 → K 0 h) ∧ (¬ x0 < x1 → (x2 < x0 → K 0 h) ∧ (¬ x2 < x0 → K 1 h))) : Ci (m_X11_within (d + 0) 0 0) [.int x0, .int x1, .int x2] h K := by
  refine Ct.of (fun _ _ _ => trivial) rfl (Nat.le_of_ble_eq_true rfl) ?_
  show AW (m_X11_within (d + 0) 0 0) 0 0 0 [(0, .int x0), (1, .int x1), (2, .int x2)] [] h (kI K)
  refine aw_iload_n (i := 0) rfl d_X11_within_0 0 rfl ?_
  refine aw_iload_n (i := 1) rfl d_X11_within_1 1 rfl ?_
  refine aw_icmp_lt (tgt := 14) d_X11_within_2 rfl (fun c1 => ?_) (fun c1 => ?_)
  · have k := k.1 c1
    refine aw_iconst (v := 0) d_X11_within_14 ic_0 ?_
    exact aw_zret rfl rfl d_X11_within_15 ⟨Nat.le_refl _, Nat.le_refl _⟩ ⟨_, rfl, k⟩
  · have k := k.2 c1
    refine aw_iload_n (i := 0) rfl d_X11_within_5 0 rfl ?_
    refine aw_iload_n (i := 2) rfl d_X11_within_6 2 rfl ?_
    refine aw_icmp_gt (tgt := 14) d_X11_within_7 rfl (fun c2 => ?_) (fun c2 => ?_)
    · have k := k.1 c2
      refine aw_iconst (v := 0) d_X11_within_14 ic_0 ?_
      exact aw_zret rfl rfl d_X11_within_15 ⟨Nat.le_refl _, Nat.le_refl _⟩ ⟨_, rfl, k⟩
    · have k := k.2 c2
      refine aw_iconst (v := 1) d_X11_within_10 ic_1 ?_
      refine aw_goto (tgt := 15) d_X11_within_11 rfl ?_
      exact aw_zret rfl rfl d_X11_within_15 ⟨Nat.le_refl _, Nat.le_refl _⟩ ⟨_, rfl, k⟩
theorem s_X11_within (d : Nat) (h : Hp_) (x lo hi : Int32) : Ci (m_X11_within (d + 0) 0 0) [.int x, .int lo, .int hi] h (fun r h1 => r = bI (lo ≤ x ∧ x ≤ hi) ∧ h1 = h) := by
  refine t_X11_within d h x lo hi _ ⟨fun c => ⟨?_, rfl⟩, fun c => ⟨fun e => ⟨?_, rfl⟩, fun e => ⟨?_, rfl⟩⟩⟩
  · exact (bI_0.mpr (fun z => absurd c (Int32.not_lt.mpr z.1))).symm
  · exact (bI_0.mpr (fun z => absurd e (Int32.not_lt.mpr z.2))).symm
  · exact (bI_1.mpr ⟨Int32.not_lt.mp c, Int32.not_lt.mp e⟩).symm
theorem t_X12_isPlace (d : Nat) (h : Hp_) (x0 : Int32) (K : Int32 → Hp_ → Prop) (k : K (bI (0 ≤ x0 ∧ x0 ≤ 15)) h) : Ci (m_X12_isPlace (d + 1) 0 0) [.int x0] h K := by
  refine Ct.of (fun _ _ _ => trivial) rfl (Nat.le_of_ble_eq_true rfl) ?_
  show AW (m_X12_isPlace (d + 1) 0 0) 0 0 0 [(0, .int x0)] [] h (kI K)
  refine aw_iload_n (i := 0) rfl d_X12_isPlace_0 0 rfl ?_
  refine aw_iconst (v := 0) d_X12_isPlace_1 ic_0 ?_
  refine aw_bipush (v := 15) d_X12_isPlace_2 ib_15 ?_
  refine aw_Si [.int x0, .int 0, .int 15] [] d_X12_isPlace_4 (cS_X12_in (d + 0) 0 0) tw_2143 rfl (rr0 (Nat.le_of_ble_eq_true rfl) (Nat.le_of_ble_eq_true rfl)) (Nat.le_of_ble_eq_true rfl) xs0 (s_X12_in _ _ x0 0 15) (fun _ _ kk => ?_)
  obtain ⟨e1, e2⟩ := kk
  rw [e1, e2]
  exact aw_zret rfl (bI_nar _) d_X12_isPlace_7 ⟨Nat.le_refl _, Nat.le_refl _⟩ ⟨_, rfl, k⟩
theorem s_X12_isPlace (d : Nat) (h : Hp_) (x : Int32) : Ci (m_X12_isPlace (d + 1) 0 0) [.int x] h (fun r h1 => r = bI (0 ≤ x ∧ x ≤ 15) ∧ h1 = h) := by
  exact t_X12_isPlace d h x _ ⟨rfl, rfl⟩
theorem t_X12_isMan (d : Nat) (h : Hp_) (w : Wf h) (x1 : Int32) (K : Int32 → Hp_ → Prop) (k : K (bI (0 ≤ x1 ∧ x1 ≤ ((h_i h 1 7) - 1))) h) : Ci (m_X12_isMan (d + 1) 0 0) [.ref 1, .int x1] h K := by
  refine Ct.of (fun _ _ _ => trivial) rfl (Nat.le_of_ble_eq_true rfl) ?_
  show AW (m_X12_isMan (d + 1) 0 0) 0 0 0 [(0, .ref 1), (1, .int x1)] [] h (kI K)
  refine aw_iload_n (i := 1) rfl d_X12_isMan_0 1 rfl ?_
  refine aw_iconst (v := 0) d_X12_isMan_1 ic_0 ?_
  refine aw_aload_n (i := 0) rfl d_X12_isMan_2 0 rfl ?_
  refine aw_geti (k0 := 7) kc_12 (ws_1 w) (Nat.le_of_ble_eq_true rfl) tw_1749 d_X12_isMan_3 rfl ?_
  refine aw_iconst (v := 1) d_X12_isMan_6 ic_1 ?_
  refine aw_isub d_X12_isMan_7 ?_
  refine aw_Si [.int x1, .int 0, .int ((h_i h 1 7) - 1)] [] d_X12_isMan_8 (cS_X12_in (d + 0) 0 0) tw_2143 rfl (rr0 (Nat.le_of_ble_eq_true rfl) (Nat.le_of_ble_eq_true rfl)) (Nat.le_of_ble_eq_true rfl) xs0 (s_X12_in _ _ x1 0 ((h_i h 1 7) - 1)) (fun _ _ kk => ?_)
  obtain ⟨e1, e2⟩ := kk
  rw [e1, e2]
  exact aw_zret rfl (bI_nar _) d_X12_isMan_11 ⟨Nat.le_refl _, Nat.le_refl _⟩ ⟨_, rfl, k⟩
theorem s_X12_isMan (d : Nat) (h : Hp_) (w : Wf h) (x : Int32) : Ci (m_X12_isMan (d + 1) 0 0) [.ref 1, .int x] h (fun r h1 => r = bI (0 ≤ x ∧ x ≤ (h_i h 1 7) - 1) ∧ h1 = h) := by
  exact t_X12_isMan d h w x _ ⟨rfl, rfl⟩
theorem t_X12_isKnowing (d : Nat) (h : Hp_) (w : Wf h) (x1 : Int32) (K : Int32 → Hp_ → Prop) (k : K (bI (0 ≤ x1 ∧ x1 ≤ (h_i h 1 0))) h) : Ci (m_X12_isKnowing (d + 1) 0 0) [.ref 1, .int x1] h K := by
  refine Ct.of (fun _ _ _ => trivial) rfl (Nat.le_of_ble_eq_true rfl) ?_
  show AW (m_X12_isKnowing (d + 1) 0 0) 0 0 0 [(0, .ref 1), (1, .int x1)] [] h (kI K)
  refine aw_iload_n (i := 1) rfl d_X12_isKnowing_0 1 rfl ?_
  refine aw_iconst (v := 0) d_X12_isKnowing_1 ic_0 ?_
  refine aw_aload_n (i := 0) rfl d_X12_isKnowing_2 0 rfl ?_
  refine aw_geti (k0 := 0) kc_12 (ws_1 w) (Nat.le_of_ble_eq_true rfl) tw_1742 d_X12_isKnowing_3 rfl ?_
  refine aw_Si [.int x1, .int 0, .int (h_i h 1 0)] [] d_X12_isKnowing_6 (cS_X12_in (d + 0) 0 0) tw_2143 rfl (rr0 (Nat.le_of_ble_eq_true rfl) (Nat.le_of_ble_eq_true rfl)) (Nat.le_of_ble_eq_true rfl) xs0 (s_X12_in _ _ x1 0 (h_i h 1 0)) (fun _ _ kk => ?_)
  obtain ⟨e1, e2⟩ := kk
  rw [e1, e2]
  exact aw_zret rfl (bI_nar _) d_X12_isKnowing_9 ⟨Nat.le_refl _, Nat.le_refl _⟩ ⟨_, rfl, k⟩
theorem s_X12_isKnowing (d : Nat) (h : Hp_) (w : Wf h) (x : Int32) : Ci (m_X12_isKnowing (d + 1) 0 0) [.ref 1, .int x] h (fun r h1 => r = bI (0 ≤ x ∧ x ≤ (h_i h 1 0)) ∧ h1 = h) := by
  exact t_X12_isKnowing d h w x _ ⟨rfl, rfl⟩
theorem t_X12_isCase (d : Nat) (h : Hp_) (w : Wf h) (x1 : Int32) (K : Int32 → Hp_ → Prop) (k : K (bI (0 ≤ x1 ∧ x1 ≤ ((h_i h 1 96) - 1))) h) : Ci (m_X12_isCase (d + 1) 0 0) [.ref 1, .int x1] h K := by
  refine Ct.of (fun _ _ _ => trivial) rfl (Nat.le_of_ble_eq_true rfl) ?_
  show AW (m_X12_isCase (d + 1) 0 0) 0 0 0 [(0, .ref 1), (1, .int x1)] [] h (kI K)
  refine aw_iload_n (i := 1) rfl d_X12_isCase_0 1 rfl ?_
  refine aw_iconst (v := 0) d_X12_isCase_1 ic_0 ?_
  refine aw_aload_n (i := 0) rfl d_X12_isCase_2 0 rfl ?_
  refine aw_geti (k0 := 96) kc_12 (ws_1 w) (Nat.le_of_ble_eq_true rfl) tw_1838 d_X12_isCase_3 rfl ?_
  refine aw_iconst (v := 1) d_X12_isCase_6 ic_1 ?_
  refine aw_isub d_X12_isCase_7 ?_
  refine aw_Si [.int x1, .int 0, .int ((h_i h 1 96) - 1)] [] d_X12_isCase_8 (cS_X12_in (d + 0) 0 0) tw_2143 rfl (rr0 (Nat.le_of_ble_eq_true rfl) (Nat.le_of_ble_eq_true rfl)) (Nat.le_of_ble_eq_true rfl) xs0 (s_X12_in _ _ x1 0 ((h_i h 1 96) - 1)) (fun _ _ kk => ?_)
  obtain ⟨e1, e2⟩ := kk
  rw [e1, e2]
  exact aw_zret rfl (bI_nar _) d_X12_isCase_11 ⟨Nat.le_refl _, Nat.le_refl _⟩ ⟨_, rfl, k⟩
theorem s_X12_isCase (d : Nat) (h : Hp_) (w : Wf h) (x : Int32) : Ci (m_X12_isCase (d + 1) 0 0) [.ref 1, .int x] h (fun r h1 => r = bI (0 ≤ x ∧ x ≤ (h_i h 1 96) - 1) ∧ h1 = h) := by
  exact t_X12_isCase d h w x _ ⟨rfl, rfl⟩
theorem t_X12_isLost (d : Nat) (h : Hp_) (w : Wf h) (x1 : Int32) (K : Int32 → Hp_ → Prop) (k : K (bI (0 ≤ x1 ∧ x1 ≤ ((h_i h 1 101) - 1))) h) : Ci (m_X12_isLost (d + 1) 0 0) [.ref 1, .int x1] h K := by
  refine Ct.of (fun _ _ _ => trivial) rfl (Nat.le_of_ble_eq_true rfl) ?_
  show AW (m_X12_isLost (d + 1) 0 0) 0 0 0 [(0, .ref 1), (1, .int x1)] [] h (kI K)
  refine aw_iload_n (i := 1) rfl d_X12_isLost_0 1 rfl ?_
  refine aw_iconst (v := 0) d_X12_isLost_1 ic_0 ?_
  refine aw_aload_n (i := 0) rfl d_X12_isLost_2 0 rfl ?_
  refine aw_geti (k0 := 101) kc_12 (ws_1 w) (Nat.le_of_ble_eq_true rfl) tw_1843 d_X12_isLost_3 rfl ?_
  refine aw_iconst (v := 1) d_X12_isLost_6 ic_1 ?_
  refine aw_isub d_X12_isLost_7 ?_
  refine aw_Si [.int x1, .int 0, .int ((h_i h 1 101) - 1)] [] d_X12_isLost_8 (cS_X12_in (d + 0) 0 0) tw_2143 rfl (rr0 (Nat.le_of_ble_eq_true rfl) (Nat.le_of_ble_eq_true rfl)) (Nat.le_of_ble_eq_true rfl) xs0 (s_X12_in _ _ x1 0 ((h_i h 1 101) - 1)) (fun _ _ kk => ?_)
  obtain ⟨e1, e2⟩ := kk
  rw [e1, e2]
  exact aw_zret rfl (bI_nar _) d_X12_isLost_11 ⟨Nat.le_refl _, Nat.le_refl _⟩ ⟨_, rfl, k⟩
theorem s_X12_isLost (d : Nat) (h : Hp_) (w : Wf h) (x : Int32) : Ci (m_X12_isLost (d + 1) 0 0) [.ref 1, .int x] h (fun r h1 => r = bI (0 ≤ x ∧ x ≤ (h_i h 1 101) - 1) ∧ h1 = h) := by
  exact t_X12_isLost d h w x _ ⟨rfl, rfl⟩
theorem t_X11_isPlace (d : Nat) (h : Hp_) (x0 : Int32) (K : Int32 → Hp_ → Prop) (k : (x0 < 0 → K 0 h) ∧ (¬ x0 < 0 → (16 ≤ x0 → K 0 h) ∧ (¬ 16 ≤ x0 → K 1 h))) : Ci (m_X11_isPlace (d + 0) 0 0) [.int x0] h K := by
  refine Ct.of (fun _ _ _ => trivial) rfl (Nat.le_of_ble_eq_true rfl) ?_
  show AW (m_X11_isPlace (d + 0) 0 0) 0 0 0 [(0, .int x0)] [] h (kI K)
  refine aw_iload_n (i := 0) rfl d_X11_isPlace_0 0 rfl ?_
  refine aw_if_lt (tgt := 14) d_X11_isPlace_1 rfl (fun c1 => ?_) (fun c1 => ?_)
  · have k := k.1 c1
    refine aw_iconst (v := 0) d_X11_isPlace_14 ic_0 ?_
    exact aw_zret rfl rfl d_X11_isPlace_15 ⟨Nat.le_refl _, Nat.le_refl _⟩ ⟨_, rfl, k⟩
  · have k := k.2 c1
    refine aw_iload_n (i := 0) rfl d_X11_isPlace_4 0 rfl ?_
    refine aw_bipush (v := 16) d_X11_isPlace_5 ib_16 ?_
    refine aw_icmp_ge (tgt := 14) d_X11_isPlace_7 rfl (fun c2 => ?_) (fun c2 => ?_)
    · have k := k.1 c2
      refine aw_iconst (v := 0) d_X11_isPlace_14 ic_0 ?_
      exact aw_zret rfl rfl d_X11_isPlace_15 ⟨Nat.le_refl _, Nat.le_refl _⟩ ⟨_, rfl, k⟩
    · have k := k.2 c2
      refine aw_iconst (v := 1) d_X11_isPlace_10 ic_1 ?_
      refine aw_goto (tgt := 15) d_X11_isPlace_11 rfl ?_
      exact aw_zret rfl rfl d_X11_isPlace_15 ⟨Nat.le_refl _, Nat.le_refl _⟩ ⟨_, rfl, k⟩
theorem s_X11_isPlace (d : Nat) (h : Hp_) (x : Int32) : Ci (m_X11_isPlace (d + 0) 0 0) [.int x] h (fun r h1 => r = bI (0 ≤ x ∧ x < 16) ∧ h1 = h) := by
  refine t_X11_isPlace d h x _ ⟨fun c => ⟨?_, rfl⟩, fun c => ⟨fun e => ⟨?_, rfl⟩, fun e => ⟨?_, rfl⟩⟩⟩
  · exact (bI_0.mpr (fun z => absurd c (Int32.not_lt.mpr z.1))).symm
  · exact (bI_0.mpr (fun z => absurd z.2 (Int32.not_lt.mpr e))).symm
  · exact (bI_1.mpr ⟨Int32.not_lt.mp c, Int32.not_le.mp e⟩).symm
end
