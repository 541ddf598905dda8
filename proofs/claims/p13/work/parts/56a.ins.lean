/-! the steps by their instructions -/
theorem i_in {v : Int32} {c : Int} (h : v.toInt = c) : rin v.toInt (c, c) := ⟨Int.le_of_eq h.symm, Int.le_of_eq h⟩
section ZZ
variable {ws : List Nat} {h0 : Hp_} {M : Mc_} {K : Option Value → Hp_ → Prop} {pc : Nat}
theorem z_iconst {n : Int} {v : Int32} {c : Int} (hd : decode (mC M) pc = .ok (.iconst n, 1)) (hv : Int32.ofInt n = v) (hc : v.toInt = c) {nx : Nat} (hn : pc + 1 = nx) : Sd ws h0 M K pc (x_push (c, c) nx) := by
  subst hn
  exact sd_push v (i_in hc) (fun _ _ _ k => aw_iconst hd hv k)
theorem z_bipush {n : Int} {v : Int32} {c : Int} (hd : decode (mC M) pc = .ok (.bipush n, 2)) (hv : (Int8.ofInt n).toInt32 = v) (hc : v.toInt = c) {nx : Nat} (hn : pc + 2 = nx) : Sd ws h0 M K pc (x_push (c, c) nx) := by
  subst hn
  exact sd_push v (i_in hc) (fun _ _ _ k => aw_bipush hd hv k)
theorem z_sipush {n : Int} {v : Int32} {c : Int} (hd : decode (mC M) pc = .ok (.sipush n, 3)) (hv : (Int16.ofInt n).toInt32 = v) (hc : v.toInt = c) {nx : Nat} (hn : pc + 3 = nx) : Sd ws h0 M K pc (x_push (c, c) nx) := by
  subst hn
  exact sd_push v (i_in hc) (fun _ _ _ k => aw_sipush hd hv k)
theorem z_ldc {i : Nat} {v : Int32} {c : Int} (hd : decode (mC M) pc = .ok (.ldc i, 2)) (hw : Cond.constant (mY M).cls i v ∈ lw_g) (hc : v.toInt = c) {nx : Nat} (hn : pc + 2 = nx) : Sd ws h0 M K pc (x_push (c, c) nx) := by
  subst hn
  exact sd_push v (i_in hc) (fun _ _ _ k => aw_ldc hd hw k)
theorem z_ldcw {i : Nat} {v : Int32} {c : Int} (hd : decode (mC M) pc = .ok (.ldc_w i, 3)) (hw : Cond.constant (mY M).cls i v ∈ lw_g) (hc : v.toInt = c) {nx : Nat} (hn : pc + 3 = nx) : Sd ws h0 M K pc (x_push (c, c) nx) := by
  subst hn
  exact sd_push v (i_in hc) (fun _ _ _ k => aw_ldcw hd hw k)
theorem z_ldc2 {i : Nat} {v : Int64} (hd : decode (mC M) pc = .ok (.ldc2_w i, 3)) (hw : Cond.constantLong (mY M).cls i v ∈ lw_g) {nx : Nat} (hn : pc + 3 = nx) : Sd ws h0 M K pc (x_pushR 0 nx) := by
  subst hn
  exact sd_pushR (.long v) (fun _ => ⟨v, rfl⟩) (fun _ _ _ k => aw_ldc2 hd hw k)
theorem z_lconst {n : Fin 2} (hd : decode (mC M) pc = .ok (.lconst n, 1)) {nx : Nat} (hn : pc + 1 = nx) : Sd ws h0 M K pc (x_pushR 0 nx) := by
  subst hn
  exact sd_pushR (.long (Int64.ofNat n)) (fun _ => ⟨_, rfl⟩) (fun _ _ _ k => aw_lconst hd rfl k)
theorem z_null (hd : decode (mC M) pc = .ok (.aconst_null, 1)) {nx : Nat} (hn : pc + 1 = nx) : Sd ws h0 M K pc (x_pushR 1 nx) := by
  subst hn
  exact sd_pushR .null (fun _ => rfl) (fun _ _ _ k => aw_null hd k)
theorem z_iload {i : Nat} (hd : decode (mC M) pc = .ok (.iload i, 2)) {nx : Nat} (hn : pc + 2 = nx) : Sd ws h0 M K pc (x_iload i nx) := by
  subst hn
  exact sd_iload (fun _ _ _ j _ hj k => aw_iload hd j hj k)
theorem z_iload_n {z : Fin 4} (hd : decode (mC M) pc = .ok (.iload_n z, 1)) {i : Nat} (hz : (z : Nat) = i) {nx : Nat} (hn : pc + 1 = nx) : Sd ws h0 M K pc (x_iload i nx) := by
  subst hn hz
  exact sd_iload (fun _ _ _ j _ hj k => aw_iload_n rfl hd j hj k)
theorem z_lload {i : Nat} (hd : decode (mC M) pc = .ok (.lload i, 2)) {nx : Nat} (hn : pc + 2 = nx) : Sd ws h0 M K pc (x_lload i nx) := by
  subst hn
  exact sd_lload (fun _ _ _ j _ hj k => aw_lload hd j hj k)
theorem z_lload_n {z : Fin 4} (hd : decode (mC M) pc = .ok (.lload_n z, 1)) {i : Nat} (hz : (z : Nat) = i) {nx : Nat} (hn : pc + 1 = nx) : Sd ws h0 M K pc (x_lload i nx) := by
  subst hn hz
  exact sd_lload (fun _ _ _ j _ hj k => aw_lload_n rfl hd j hj k)
theorem z_aload {i : Nat} (hd : decode (mC M) pc = .ok (.aload i, 2)) {nx : Nat} (hn : pc + 2 = nx) : Sd ws h0 M K pc (x_aload i nx) := by
  subst hn
  exact sd_aload (fun _ _ _ j _ hj k => aw_aload hd j hj k) (fun _ _ _ j hj k => aw_aloadN hd j hj k)
theorem z_aload_n {z : Fin 4} (hd : decode (mC M) pc = .ok (.aload_n z, 1)) {i : Nat} (hz : (z : Nat) = i) {nx : Nat} (hn : pc + 1 = nx) : Sd ws h0 M K pc (x_aload i nx) := by
  subst hn hz
  exact sd_aload (fun _ _ _ j _ hj k => aw_aload_n rfl hd j hj k) (fun _ _ _ j hj k => aw_aload_nN rfl hd j hj k)
theorem z_istore {i : Nat} (hd : decode (mC M) pc = .ok (.istore i, 2)) (hn : i < mN M) {nx : Nat} (hn : pc + 2 = nx) : Sd ws h0 M K pc (x_istore i nx) := by
  subst hn
  exact sd_istore (fun _ _ _ _ hr k => aw_istore _ hd hn hr rfl k)
theorem z_istore_n {z : Fin 4} (hd : decode (mC M) pc = .ok (.istore_n z, 1)) (hn : (z : Nat) < mN M) {i : Nat} (hz : (z : Nat) = i) {nx : Nat} (hn : pc + 1 = nx) : Sd ws h0 M K pc (x_istore i nx) := by
  subst hn hz
  exact sd_istore (fun _ _ _ _ hr k => aw_istore_n rfl _ hd hn hr rfl k)
theorem z_lstore {i : Nat} (hd : decode (mC M) pc = .ok (.lstore i, 2)) (hn : i + 1 < mN M) {nx : Nat} (hn : pc + 2 = nx) : Sd ws h0 M K pc (x_lstore i nx) := by
  subst hn
  exact sd_lstore (fun _ _ _ _ hr k => aw_lstore _ hd hn hr rfl k)
theorem z_lstore_n {z : Fin 4} (hd : decode (mC M) pc = .ok (.lstore_n z, 1)) (hn : (z : Nat) + 1 < mN M) {i : Nat} (hz : (z : Nat) = i) {nx : Nat} (hn : pc + 1 = nx) : Sd ws h0 M K pc (x_lstore i nx) := by
  subst hn hz
  exact sd_lstore (fun _ _ _ _ hr k => aw_lstore_n rfl _ hd hn hr rfl k)
theorem z_astore {i : Nat} (hd : decode (mC M) pc = .ok (.astore i, 2)) (hn : i < mN M) {nx : Nat} (hn : pc + 2 = nx) : Sd ws h0 M K pc (x_astore i nx) := by
  subst hn
  exact sd_astore (fun _ _ _ _ hr k => aw_astore _ hd hn hr rfl k) (fun _ _ _ hr k => aw_astoreN _ hd hn hr rfl k)
theorem z_astore_n {z : Fin 4} (hd : decode (mC M) pc = .ok (.astore_n z, 1)) (hn : (z : Nat) < mN M) {i : Nat} (hz : (z : Nat) = i) {nx : Nat} (hn : pc + 1 = nx) : Sd ws h0 M K pc (x_astore i nx) := by
  subst hn hz
  exact sd_astore (fun _ _ _ _ hr k => aw_astore_n rfl _ hd hn hr rfl k) (fun _ _ _ hr k => aw_astore_nN rfl _ hd hn hr rfl k)
theorem z_iinc {i : Nat} {n c : Int} (hd : decode (mC M) pc = .ok (.iinc i n, 3)) (hc : (Int32.ofInt n).toInt = c) (hn : i < mN M) {nx : Nat} (hn : pc + 3 = nx) : Sd ws h0 M K pc (x_iinc i c nx) := by
  subst hn
  exact sd_iinc hc (fun _ _ _ _ j hj hr k => aw_iinc _ hd j hj rfl hn hr rfl k)
theorem z_iadd (hd : decode (mC M) pc = .ok (.iadd, 1)) {nx : Nat} (hn : pc + 1 = nx) : Sd ws h0 M K pc (x_add nx) := by
  subst hn
  exact sd_add (fun _ _ _ _ _ k => aw_iadd hd k)
theorem z_isub (hd : decode (mC M) pc = .ok (.isub, 1)) {nx : Nat} (hn : pc + 1 = nx) : Sd ws h0 M K pc (x_bin o_sub nx) := by
  subst hn
  exact sd_bin ok_sub (fun _ _ _ _ _ k => aw_isub hd k)
theorem z_imul (hd : decode (mC M) pc = .ok (.imul, 1)) {nx : Nat} (hn : pc + 1 = nx) : Sd ws h0 M K pc (x_bin o_mul nx) := by
  subst hn
  exact sd_bin ok_mul (fun _ _ _ _ _ k => aw_imul hd k)
theorem z_iand (hd : decode (mC M) pc = .ok (.iand, 1)) {nx : Nat} (hn : pc + 1 = nx) : Sd ws h0 M K pc (x_bin o_and nx) := by
  subst hn
  exact sd_bin ok_and (fun _ _ _ _ _ k => aw_iand hd k)
theorem z_ior (hd : decode (mC M) pc = .ok (.ior, 1)) {nx : Nat} (hn : pc + 1 = nx) : Sd ws h0 M K pc (x_bin o_or nx) := by
  subst hn
  exact sd_bin ok_or (fun _ _ _ _ _ k => aw_ior hd k)
theorem z_ixor (hd : decode (mC M) pc = .ok (.ixor, 1)) {nx : Nat} (hn : pc + 1 = nx) : Sd ws h0 M K pc (x_bin o_or nx) := by
  subst hn
  exact sd_bin ok_xor (fun _ _ _ _ _ k => aw_ixor hd k)
theorem z_ishl (hd : decode (mC M) pc = .ok (.ishl, 1)) {nx : Nat} (hn : pc + 1 = nx) : Sd ws h0 M K pc (x_bin o_shl nx) := by
  subst hn
  exact sd_bin ok_shl (fun _ _ _ _ _ k => aw_ishl hd k)
theorem z_ishr (hd : decode (mC M) pc = .ok (.ishr, 1)) {nx : Nat} (hn : pc + 1 = nx) : Sd ws h0 M K pc (x_bin o_shr nx) := by
  subst hn
  exact sd_bin ok_shr (fun _ _ _ _ _ k => aw_ishr hd k)
theorem z_iushr (hd : decode (mC M) pc = .ok (.iushr, 1)) {nx : Nat} (hn : pc + 1 = nx) : Sd ws h0 M K pc (x_bin o_top nx) := by
  subst hn
  exact sd_bin (ok_top _) (fun _ _ _ _ _ k => aw_iushr hd k)
theorem z_idiv (hd : decode (mC M) pc = .ok (.idiv, 1)) {nx : Nat} (hn : pc + 1 = nx) : Sd ws h0 M K pc (x_div o_div nx) := by
  subst hn
  exact sd_div ok_div (fun _ _ _ _ _ hz k => aw_idiv hd hz k)
theorem z_irem (hd : decode (mC M) pc = .ok (.irem, 1)) {nx : Nat} (hn : pc + 1 = nx) : Sd ws h0 M K pc (x_div o_rem nx) := by
  subst hn
  exact sd_div ok_rem (fun _ _ _ _ _ hz k => aw_irem hd hz k)
theorem z_ineg (hd : decode (mC M) pc = .ok (.ineg, 1)) {nx : Nat} (hn : pc + 1 = nx) : Sd ws h0 M K pc (x_un o_neg nx) := by
  subst hn
  exact sd_un ok_neg (fun _ _ _ _ k => aw_ineg hd k)
theorem z_i2b (hd : decode (mC M) pc = .ok (.i2b, 1)) {nx : Nat} (hn : pc + 1 = nx) : Sd ws h0 M K pc (x_un o_i2b nx) := by
  subst hn
  exact sd_un ok_i2b (fun _ _ _ _ k => aw_i2b hd k)
theorem z_i2c (hd : decode (mC M) pc = .ok (.i2c, 1)) {nx : Nat} (hn : pc + 1 = nx) : Sd ws h0 M K pc (x_un o_i2c nx) := by
  subst hn
  exact sd_un ok_i2c (fun _ _ _ _ k => aw_i2c hd k)
theorem z_ladd (hd : decode (mC M) pc = .ok (.ladd, 1)) {nx : Nat} (hn : pc + 1 = nx) : Sd ws h0 M K pc (x_lbin nx) := by
  subst hn
  exact sd_lbin (fun _ _ _ _ _ k => aw_ladd hd k)
theorem z_lsub (hd : decode (mC M) pc = .ok (.lsub, 1)) {nx : Nat} (hn : pc + 1 = nx) : Sd ws h0 M K pc (x_lbin nx) := by
  subst hn
  exact sd_lbin (fun _ _ _ _ _ k => aw_lsub hd k)
theorem z_lmul (hd : decode (mC M) pc = .ok (.lmul, 1)) {nx : Nat} (hn : pc + 1 = nx) : Sd ws h0 M K pc (x_lbin nx) := by
  subst hn
  exact sd_lbin (fun _ _ _ _ _ k => aw_lmul hd k)
theorem z_land (hd : decode (mC M) pc = .ok (.land, 1)) {nx : Nat} (hn : pc + 1 = nx) : Sd ws h0 M K pc (x_lbin nx) := by
  subst hn
  exact sd_lbin (fun _ _ _ _ _ k => aw_land hd k)
theorem z_lor (hd : decode (mC M) pc = .ok (.lor, 1)) {nx : Nat} (hn : pc + 1 = nx) : Sd ws h0 M K pc (x_lbin nx) := by
  subst hn
  exact sd_lbin (fun _ _ _ _ _ k => aw_lor hd k)
theorem z_lxor (hd : decode (mC M) pc = .ok (.lxor, 1)) {nx : Nat} (hn : pc + 1 = nx) : Sd ws h0 M K pc (x_lbin nx) := by
  subst hn
  exact sd_lbin (fun _ _ _ _ _ k => aw_lxor hd k)
theorem z_lshl (hd : decode (mC M) pc = .ok (.lshl, 1)) {nx : Nat} (hn : pc + 1 = nx) : Sd ws h0 M K pc (x_lsh nx) := by
  subst hn
  exact sd_lsh (fun _ _ _ _ _ k => aw_lshl hd k)
theorem z_lshr (hd : decode (mC M) pc = .ok (.lshr, 1)) {nx : Nat} (hn : pc + 1 = nx) : Sd ws h0 M K pc (x_lsh nx) := by
  subst hn
  exact sd_lsh (fun _ _ _ _ _ k => aw_lshr hd k)
theorem z_lcmp (hd : decode (mC M) pc = .ok (.lcmp, 1)) {nx : Nat} (hn : pc + 1 = nx) : Sd ws h0 M K pc (x_lcmp nx) := by
  subst hn
  exact sd_lcmp (fun _ _ _ _ _ k => aw_lcmp hd k)
theorem z_i2l (hd : decode (mC M) pc = .ok (.i2l, 1)) {nx : Nat} (hn : pc + 1 = nx) : Sd ws h0 M K pc (x_i2l nx) := by
  subst hn
  exact sd_i2l (fun _ _ _ _ k => aw_i2l hd k)
theorem z_l2i (hd : decode (mC M) pc = .ok (.l2i, 1)) {nx : Nat} (hn : pc + 1 = nx) : Sd ws h0 M K pc (x_l2i nx) := by
  subst hn
  exact sd_l2i (fun _ _ _ _ k => aw_l2i hd k)
theorem z_dup (hd : decode (mC M) pc = .ok (.dup, 1)) {nx : Nat} (hn : pc + 1 = nx) : Sd ws h0 M K pc (x_dup nx) := by
  subst hn
  exact sd_dup (fun _ _ _ _ hc k => aw_dup hd hc k)
theorem z_pop (hd : decode (mC M) pc = .ok (.pop, 1)) {nx : Nat} (hn : pc + 1 = nx) : Sd ws h0 M K pc (x_pop nx) := by
  subst hn
  exact sd_pop (fun _ _ _ _ hc k => aw_pop hd hc k)
theorem z_dup2 (hd : decode (mC M) pc = .ok (.dup2, 1)) {nx : Nat} (hn : pc + 1 = nx) : Sd ws h0 M K pc (x_dup2 nx) := by
  subst hn
  exact sd_dup2 (fun _ _ _ _ _ hc k => aw_dup2 hd hc k)
theorem z_dup_x1 (hd : decode (mC M) pc = .ok (.dup_x1, 1)) {nx : Nat} (hn : pc + 1 = nx) : Sd ws h0 M K pc (x_dupx1 nx) := by
  subst hn
  exact sd_dupx1 (fun _ _ _ _ _ hc k => aw_dup_x1 hd hc k)
theorem z_goto {off : Int} {t : Nat} (hd : decode (mC M) pc = .ok (.goto off, 3)) (ht : (pc : Int) + off = (t : Int)) : Sd ws h0 M K pc (x_goto t) := sd_goto (fun _ _ _ k => aw_goto hd ht k)
theorem z_ifnull {off : Int} {t : Nat} (hd : decode (mC M) pc = .ok (.ifnull off, 3)) (ht : (pc : Int) + off = (t : Int)) {nx : Nat} (hn : pc + 3 = nx) : Sd ws h0 M K pc (x_null t nx) := by
  subst hn
  exact sd_null (fun _ _ _ k => aw_ifnullN hd ht k) (fun _ _ _ _ k => aw_ifnull hd k)
theorem z_ifnonnull {off : Int} {t : Nat} (hd : decode (mC M) pc = .ok (.ifnonnull off, 3)) (ht : (pc : Int) + off = (t : Int)) {nx : Nat} (hn : pc + 3 = nx) : Sd ws h0 M K pc (x_null nx t) := by
  subst hn
  exact sd_null (fun _ _ _ k => aw_ifnonnullN hd k) (fun _ _ _ _ k => aw_ifnonnull hd ht k)
theorem q_lt {x y : Int32} : x < y ↔ x.toInt < y.toInt := Int32.lt_iff_toInt_lt
theorem q_le {x y : Int32} : x ≤ y ↔ x.toInt ≤ y.toInt := Int32.le_iff_toInt_le
theorem q_eq {x y : Int32} : x = y ↔ x.toInt = y.toInt := Int32.toInt_inj.symm
theorem q_nlt {x y : Int32} (h : ¬ x < y) : y.toInt ≤ x.toInt := by have : ¬ x.toInt < y.toInt := fun z => h (q_lt.mpr z); omega
theorem q_nle {x y : Int32} (h : ¬ x ≤ y) : y.toInt < x.toInt := by have : ¬ x.toInt ≤ y.toInt := fun z => h (q_le.mpr z); omega
theorem z_icmp_lt {off : Int} {t : Nat} (hd : decode (mC M) pc = .ok (.if_icmp .lt off, 3)) (ht : (pc : Int) + off = (t : Int)) {nx : Nat} (hn : pc + 3 = nx) : Sd ws h0 M K pc (x_icmp c_lt c_ge t nx) := by
  subst hn
  exact sd_icmp (P := fun x y => x < y) ok_clt ok_cge (fun _ _ c => q_lt.mp c) (fun _ _ c => q_nlt c) (fun _ _ _ _ _ k1 k2 => aw_icmp_lt hd ht k1 k2)
theorem z_icmp_ge {off : Int} {t : Nat} (hd : decode (mC M) pc = .ok (.if_icmp .ge off, 3)) (ht : (pc : Int) + off = (t : Int)) {nx : Nat} (hn : pc + 3 = nx) : Sd ws h0 M K pc (x_icmp c_ge c_lt t nx) := by
  subst hn
  exact sd_icmp (P := fun x y => y ≤ x) ok_cge ok_clt (fun _ _ c => q_le.mp c) (fun _ _ c => q_nle c) (fun _ _ _ _ _ k1 k2 => aw_icmp_ge hd ht k1 k2)
theorem z_icmp_gt {off : Int} {t : Nat} (hd : decode (mC M) pc = .ok (.if_icmp .gt off, 3)) (ht : (pc : Int) + off = (t : Int)) {nx : Nat} (hn : pc + 3 = nx) : Sd ws h0 M K pc (x_icmp c_gt c_le t nx) := by
  subst hn
  exact sd_icmp (P := fun x y => y < x) ok_cgt ok_cle (fun _ _ c => q_lt.mp c) (fun _ _ c => q_nlt c) (fun _ _ _ _ _ k1 k2 => aw_icmp_gt hd ht k1 k2)
theorem z_icmp_le {off : Int} {t : Nat} (hd : decode (mC M) pc = .ok (.if_icmp .le off, 3)) (ht : (pc : Int) + off = (t : Int)) {nx : Nat} (hn : pc + 3 = nx) : Sd ws h0 M K pc (x_icmp c_le c_gt t nx) := by
  subst hn
  exact sd_icmp (P := fun x y => x ≤ y) ok_cle ok_cgt (fun _ _ c => q_le.mp c) (fun _ _ c => q_nle c) (fun _ _ _ _ _ k1 k2 => aw_icmp_le hd ht k1 k2)
theorem z_icmp_eq {off : Int} {t : Nat} (hd : decode (mC M) pc = .ok (.if_icmp .eq off, 3)) (ht : (pc : Int) + off = (t : Int)) {nx : Nat} (hn : pc + 3 = nx) : Sd ws h0 M K pc (x_icmp c_eq c_ne t nx) := by
  subst hn
  exact sd_icmp (P := fun x y => x = y) ok_ceq ok_cne (fun _ _ c => q_eq.mp c) (fun _ _ c z => c (q_eq.mpr z)) (fun _ _ _ _ _ k1 k2 => aw_icmp_eq hd ht k1 k2)
theorem z_icmp_ne {off : Int} {t : Nat} (hd : decode (mC M) pc = .ok (.if_icmp .ne off, 3)) (ht : (pc : Int) + off = (t : Int)) {nx : Nat} (hn : pc + 3 = nx) : Sd ws h0 M K pc (x_icmp c_ne c_eq t nx) := by
  subst hn
  exact sd_icmp (P := fun x y => ¬ x = y) ok_cne ok_ceq (fun _ _ c z => c (q_eq.mpr z)) (fun _ _ c => q_eq.mp (Decidable.not_not.mp c)) (fun _ _ _ _ _ k1 k2 => aw_icmp_ne hd ht k1 (fun z => k2 (fun w => w z)))
theorem z_if_lt {off : Int} {t : Nat} (hd : decode (mC M) pc = .ok (.ifCond .lt off, 3)) (ht : (pc : Int) + off = (t : Int)) {nx : Nat} (hn : pc + 3 = nx) : Sd ws h0 M K pc (x_if c_lt c_ge t nx) := by
  subst hn
  exact sd_if (P := fun x y => x < y) ok_clt ok_cge (fun _ _ c => q_lt.mp c) (fun _ _ c => q_nlt c) (fun _ _ _ _ k1 k2 => aw_if_lt hd ht k1 k2)
theorem z_if_ge {off : Int} {t : Nat} (hd : decode (mC M) pc = .ok (.ifCond .ge off, 3)) (ht : (pc : Int) + off = (t : Int)) {nx : Nat} (hn : pc + 3 = nx) : Sd ws h0 M K pc (x_if c_ge c_lt t nx) := by
  subst hn
  exact sd_if (P := fun x y => y ≤ x) ok_cge ok_clt (fun _ _ c => q_le.mp c) (fun _ _ c => q_nle c) (fun _ _ _ _ k1 k2 => aw_if_ge hd ht k1 k2)
theorem z_if_gt {off : Int} {t : Nat} (hd : decode (mC M) pc = .ok (.ifCond .gt off, 3)) (ht : (pc : Int) + off = (t : Int)) {nx : Nat} (hn : pc + 3 = nx) : Sd ws h0 M K pc (x_if c_gt c_le t nx) := by
  subst hn
  exact sd_if (P := fun x y => y < x) ok_cgt ok_cle (fun _ _ c => q_lt.mp c) (fun _ _ c => q_nlt c) (fun _ _ _ _ k1 k2 => aw_if_gt hd ht k1 k2)
theorem z_if_le {off : Int} {t : Nat} (hd : decode (mC M) pc = .ok (.ifCond .le off, 3)) (ht : (pc : Int) + off = (t : Int)) {nx : Nat} (hn : pc + 3 = nx) : Sd ws h0 M K pc (x_if c_le c_gt t nx) := by
  subst hn
  exact sd_if (P := fun x y => x ≤ y) ok_cle ok_cgt (fun _ _ c => q_le.mp c) (fun _ _ c => q_nle c) (fun _ _ _ _ k1 k2 => aw_if_le hd ht k1 k2)
theorem z_if_eq {off : Int} {t : Nat} (hd : decode (mC M) pc = .ok (.ifCond .eq off, 3)) (ht : (pc : Int) + off = (t : Int)) {nx : Nat} (hn : pc + 3 = nx) : Sd ws h0 M K pc (x_if c_eq c_ne t nx) := by
  subst hn
  exact sd_if (P := fun x y => x = y) ok_ceq ok_cne (fun _ _ c => q_eq.mp c) (fun _ _ c z => c (q_eq.mpr z)) (fun _ _ _ _ k1 k2 => aw_if_eq hd ht k1 k2)
theorem z_if_ne {off : Int} {t : Nat} (hd : decode (mC M) pc = .ok (.ifCond .ne off, 3)) (ht : (pc : Int) + off = (t : Int)) {nx : Nat} (hn : pc + 3 = nx) : Sd ws h0 M K pc (x_if c_ne c_eq t nx) := by
  subst hn
  exact sd_if (P := fun x y => ¬ x = y) ok_cne ok_ceq (fun _ _ c z => c (q_eq.mpr z)) (fun _ _ c => q_eq.mp (Decidable.not_not.mp c)) (fun _ _ _ _ k1 k2 => aw_if_ne hd ht k1 (fun z => k2 (fun w => w z)))
/-- a table: numbers lo .. and their places -/
def tsl (lo : Int) : List Nat → List (Int × Nat)
  | [] => []
  | t :: l => (lo, t) :: tsl (lo + 1) l
theorem tsl_get {t : Nat} : ∀ {l : List Nat} {lo : Int} {i : Nat}, l[i]? = some t → (lo + i, t) ∈ tsl lo l
  | _ :: _, lo, 0, h => by
    rw [List.getElem?_cons_zero] at h
    rw [Option.some.inj h, show lo + ((0 : Nat) : Int) = lo by omega]
    exact List.mem_cons_self
  | _ :: l, lo, i + 1, h => by
    rw [List.getElem?_cons_succ] at h
    have := tsl_get (lo := lo + 1) h
    rw [show lo + ((i + 1 : Nat) : Int) = lo + 1 + (i : Int) by omega]
    exact List.mem_cons_of_mem _ this
theorem z_table {df lo hi : Int} {offs : Array Int} {len t : Nat} {ts : List Nat} (hd : decode (mC M) pc = .ok (.tableswitch df lo hi offs, len)) (ht : (pc : Int) + df = (t : Int)) (hts : offs.toList.map (fun o => (pc : Int) + o) = ts.map (fun n : Nat => (n : Int))) (hl : hi - lo + 1 = (ts.length : Int)) : Sd ws h0 M K pc (x_switch (tsl lo ts) t) := by
  refine sd_switch (fun lv st h x k1 k2 => ?_)
  by_cases c : x.toInt < lo ∨ hi < x.toInt
  · exact aw_tableOut hd c ht k2
  · have c1 : ¬ x.toInt < lo := fun z => c (Or.inl z)
    have c2 : ¬ hi < x.toInt := fun z => c (Or.inr z)
    have ll : offs.toList.length = ts.length := by
      have := congrArg List.length hts
      rwa [List.length_map, List.length_map] at this
    have il : (x.toInt - lo).toNat < ts.length := by omega
    obtain ⟨tg, htg⟩ : ∃ tg, ts[(x.toInt - lo).toNat]? = some tg := ⟨_, List.getElem?_eq_getElem il⟩
    obtain ⟨off, hoff⟩ : ∃ off, offs.toList[(x.toInt - lo).toNat]? = some off := ⟨_, List.getElem?_eq_getElem (by rw [ll]; exact il)⟩
    have e := congrArg (fun l : List Int => l[(x.toInt - lo).toNat]?) hts
    have e : (offs.toList.map (fun o => (pc : Int) + o))[(x.toInt - lo).toNat]? = (ts.map (fun n : Nat => (n : Int)))[(x.toInt - lo).toNat]? := e
    rw [List.getElem?_map, List.getElem?_map, hoff, htg] at e
    have e : (pc : Int) + off = (tg : Int) := Option.some.inj e
    refine aw_tableIn hd c1 c2 (by rw [← Array.getElem?_toList]; exact hoff) e (k1 _ (tsl_get (lo := lo) htg) ?_)
    show x.toInt = lo + ((x.toInt - lo).toNat : Int)
    omega
theorem lso {df k : Int} : ∀ {l : List (Int × Int)}, (∃ p ∈ l, p.1 = k ∧ Op.lookupswitch.offset l df k = p.2) ∨ Op.lookupswitch.offset l df k = df
  | [] => Or.inr rfl
  | p :: l => by
    have q := Op.lookupswitch.offset_cons p.1 p.2 l df k
    by_cases c : p.1 = k
    · rw [if_pos c] at q
      exact Or.inl ⟨p, List.mem_cons_self, c, q⟩
    · rw [if_neg c] at q
      rcases lso (df := df) (k := k) (l := l) with ⟨o, ho, e1, e2⟩ | e
      · exact Or.inl ⟨o, List.mem_cons_of_mem _ ho, e1, q.trans e2⟩
      · exact Or.inr (q.trans e)
theorem z_lookup {df : Int} {ps : Array (Int × Int)} {len t : Nat} {l : List (Int × Nat)} (hd : decode (mC M) pc = .ok (.lookupswitch df ps, len)) (hp : (ps.toList.zip (ps.toList.drop 1)).all (fun (a, next) => a.1 < next.1) = true) (ht : (pc : Int) + df = (t : Int)) (hts : ps.toList.map (fun o => (o.1, (pc : Int) + o.2)) = l.map (fun q => (q.1, (q.2 : Int)))) : Sd ws h0 M K pc (x_switch l t) := by
  refine sd_switch (fun lv st h x k1 k2 => ?_)
  rcases lso (df := df) (k := x.toInt) (l := ps.toList) with ⟨p, hm, e1, e2⟩ | e
  · have m2 : (p.1, (pc : Int) + p.2) ∈ l.map (fun q => (q.1, (q.2 : Int))) := by rw [← hts]; exact List.mem_map.mpr ⟨p, hm, rfl⟩
    obtain ⟨q, hq, eq⟩ := List.mem_map.mp m2
    have eq := Prod.mk.inj eq
    exact aw_lookup hd hp e2 eq.2.symm (k1 q hq (by rw [eq.1, e1]))
  · exact aw_lookup hd hp e ht k2
end ZZ
