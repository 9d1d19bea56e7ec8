section HP2
variable {TT : List Cond} {cl : List vw_C} {X : XT} {mi : MI} {fr lo : Nat} {D : mF} {P : Option Value → mF → Prop} {PX : String → mF → Prop} {kc ks pc : Nat} {L : List (Nat × Value)} {S : List Value} {sh : sM} {I : mI} {J : mJ} {h : mF}
theorem oi_and (a b : Nat) : Int32.ofInt (a : Int) &&& Int32.ofInt (b : Int) = Int32.ofInt ((a &&& b : Nat) : Int) := by
  rw [oi_nat, oi_nat, oi_nat]
  apply Int32.toBitVec_inj.1
  show BitVec.ofNat 32 a &&& BitVec.ofNat 32 b = BitVec.ofNat 32 (a &&& b)
  apply BitVec.eq_of_getLsbD_eq
  intro i hi
  simp [hi]
theorem oi_or (a b : Nat) : Int32.ofInt (a : Int) ||| Int32.ofInt (b : Int) = Int32.ofInt ((a ||| b : Nat) : Int) := by
  rw [oi_nat, oi_nat, oi_nat]
  apply Int32.toBitVec_inj.1
  show BitVec.ofNat 32 a ||| BitVec.ofNat 32 b = BitVec.ofNat 32 (a ||| b)
  apply BitVec.eq_of_getLsbD_eq
  intro i hi
  simp [hi]
theorem oi_xor (a b : Nat) : Int32.ofInt (a : Int) ^^^ Int32.ofInt (b : Int) = Int32.ofInt ((a ^^^ b : Nat) : Int) := by
  rw [oi_nat, oi_nat, oi_nat]
  apply Int32.toBitVec_inj.1
  show BitVec.ofNat 32 a ^^^ BitVec.ofNat 32 b = BitVec.ofNat 32 (a ^^^ b)
  apply BitVec.eq_of_getLsbD_eq
  intro i hi
  simp [hi]
theorem oi_sc : ∀ n, n < 32 → ((Int32.ofNat n &&& 31).toBitVec.smod 32).toNat = n := by decide +kernel
theorem oi_shl (a : Nat) {s : Nat} (hs : s < 32) : Int32.ofInt (a : Int) <<< (Int32.ofInt (s : Int) &&& 31) = Int32.ofInt ((a * 2 ^ s : Nat) : Int) := by
  rw [oi_nat, oi_nat, oi_nat]
  apply Int32.toBitVec_inj.mp
  rw [Int32.toBitVec_shiftLeft]
  show (BitVec.ofNat 32 a) <<< ((Int32.ofNat s &&& 31).toBitVec.smod 32).toNat = BitVec.ofNat 32 (a * 2 ^ s)
  rw [oi_sc s hs]
  apply BitVec.eq_of_toNat_eq
  rw [BitVec.toNat_shiftLeft, BitVec.toNat_ofNat, BitVec.toNat_ofNat, Nat.shiftLeft_eq, Nat.mod_mul_mod]
theorem oi_shr {a s : Nat} (ha : a < 2147483648) (hs : s < 32) : Int32.ofInt (a : Int) >>> (Int32.ofInt (s : Int) &&& 31) = Int32.ofInt ((a / 2 ^ s : Nat) : Int) := by
  rw [oi_nat, oi_nat, oi_nat]
  apply Int32.toBitVec_inj.mp
  rw [Int32.toBitVec_shiftRight]
  show (BitVec.ofNat 32 a).sshiftRight ((Int32.ofNat s &&& 31).toBitVec.smod 32).toNat = BitVec.ofNat 32 (a / 2 ^ s)
  rw [oi_sc s hs]
  have hm : (BitVec.ofNat 32 a).msb = false := by
    rw [BitVec.msb_eq_decide, BitVec.toNat_ofNat, Nat.mod_eq_of_lt (by omega)]
    exact decide_eq_false (by omega)
  rw [BitVec.sshiftRight_eq_of_msb_false hm]
  apply BitVec.eq_of_toNat_eq
  have hle : a / 2 ^ s ≤ a := Nat.div_le_self _ _
  rw [BitVec.toNat_ushiftRight, BitVec.toNat_ofNat, BitVec.toNat_ofNat, Nat.shiftRight_eq_div_pow, Nat.mod_eq_of_lt (a := a) (by omega), Nat.mod_eq_of_lt (by omega)]
theorem oi_q {a b : Nat} (ha : a < 2147483648) : -2147483648 ≤ ((a / b : Nat) : Int) ∧ ((a / b : Nat) : Int) < 2147483648 :=
  ⟨Int.le_trans (by decide) (Int.natCast_nonneg (a / b)), Int.lt_of_le_of_lt (Int.ofNat_le.mpr (Nat.div_le_self a b)) (by omega)⟩
theorem oi_rem {a b : Nat} (ha : a < 2147483648) (hb : 0 < b) (hb2 : b < 2147483648) : Int32.ofInt (a : Int) - Int32.ofInt (a : Int) / Int32.ofInt (b : Int) * Int32.ofInt (b : Int) = Int32.ofInt ((a % b : Nat) : Int) := by
  have h1 : Int32.ofInt (a : Int) / Int32.ofInt (b : Int) = Int32.ofInt ((a / b : Nat) : Int) := by
    apply Int32.toInt_inj.mp
    rw [Int32.toInt_div_of_ne_right _ _ (fun q => by
      have := congrArg Int32.toInt q
      rw [oi_t (by omega)] at this
      have h9 : (-1 : Int32).toInt = -1 := by decide
      rw [h9] at this
      omega), oi_t (by omega), oi_t (by omega), oi_t (oi_q ha), Int.tdiv_eq_ediv_of_nonneg (by omega)]
    rfl
  rw [h1, ← Int32.ofInt_mul, ← Int32.ofInt_sub]
  congr 1
  have := Nat.div_add_mod a b
  have e : ((a / b : Nat) : Int) * (b : Int) = ((b * (a / b) : Nat) : Int) := by rw [Nat.mul_comm]; exact (Int.natCast_mul _ _).symm
  rw [e]
  omega
theorem oi_div {a b : Nat} (ha : a < 2147483648) (hb : 0 < b) (hb2 : b < 2147483648) : Int32.ofInt (a : Int) / Int32.ofInt (b : Int) = Int32.ofInt ((a / b : Nat) : Int) := by
  apply Int32.toInt_inj.mp
  rw [Int32.toInt_div_of_ne_right _ _ (fun q => by
    have := congrArg Int32.toInt q
    rw [oi_t (by omega)] at this
    have h9 : (-1 : Int32).toInt = -1 := by decide
    rw [h9] at this
    omega), oi_t (by omega), oi_t (by omega), oi_t (oi_q ha), Int.tdiv_eq_ediv_of_nonneg (by omega)]
  rfl
theorem oi_nz {b : Nat} (hb : 0 < b) (hb2 : b < 2147483648) : ¬ Int32.ofInt (b : Int) = 0 := fun q => by
  have := congrArg Int32.toInt q
  rw [oi_t (by omega)] at this
  have h9 : (0 : Int32).toInt = 0 := by decide
  rw [h9] at this
  omega
/-- the same int, in another form -/
theorem gi_top {a b : Int} (e : a = b) (k : LXf TT cl X mi fr lo D P PX kc ks pc L (.int (Int32.ofInt b) :: S) h) : LXf TT cl X mi fr lo D P PX kc ks pc L (.int (Int32.ofInt a) :: S) h := by rw [e]; exact k
theorem gi_topL {a b : Int64} (e : a = b) (k : LXf TT cl X mi fr lo D P PX kc ks pc L (.long b :: S) h) : LXf TT cl X mi fr lo D P PX kc ks pc L (.long a :: S) h := by rw [e]; exact k
theorem gi_iinc {i : Nat} {n x : Int} {L2 : List (Nat × Value)} (d : decode mi.2.1 pc = .ok (.iinc i n, 3)) (hg : mj_get L i = some (.int (Int32.ofInt x))) (hn : i < mi.2.2.1) (hp : mj_put1 i (.int (Int32.ofInt (x + n))) L = L2) (k : LXf TT cl X mi fr lo D P PX kc ks (pc + 3) L2 S h) : LXf TT cl X mi fr lo D P PX kc ks pc L S h :=
  lf_iinc d hg (Int32.ofInt_add _ _).symm hn hp k
theorem gi_iincN {i x : Nat} {L2 : List (Nat × Value)} (d : decode mi.2.1 pc = .ok (.iinc i 1, 3)) (hg : mj_get L i = some (.int (Int32.ofInt (x : Int)))) (hn : i < mi.2.2.1) (hp : mj_put1 i (.int (Int32.ofInt ((x + 1 : Nat) : Int))) L = L2) (k : LXf TT cl X mi fr lo D P PX kc ks (pc + 3) L2 S h) : LXf TT cl X mi fr lo D P PX kc ks pc L S h :=
  lf_iinc d hg (by rw [Int.natCast_add]; exact (Int32.ofInt_add _ _).symm) hn hp k
theorem gi_iadd {a b : Int} (d : decode mi.2.1 pc = .ok (.iadd, 1)) (k : LXf TT cl X mi fr lo D P PX kc ks (pc + 1) L (.int (Int32.ofInt (a + b)) :: S) h) : LXf TT cl X mi fr lo D P PX kc ks pc L (.int (Int32.ofInt b) :: .int (Int32.ofInt a) :: S) h := by
  refine lf_iadd d ?_
  rw [← Int32.ofInt_add]
  exact k
theorem gi_isub {a b : Int} (d : decode mi.2.1 pc = .ok (.isub, 1)) (k : LXf TT cl X mi fr lo D P PX kc ks (pc + 1) L (.int (Int32.ofInt (a - b)) :: S) h) : LXf TT cl X mi fr lo D P PX kc ks pc L (.int (Int32.ofInt b) :: .int (Int32.ofInt a) :: S) h := by
  refine lf_isub d ?_
  rw [← Int32.ofInt_sub]
  exact k
theorem gi_imul {a b : Int} (d : decode mi.2.1 pc = .ok (.imul, 1)) (k : LXf TT cl X mi fr lo D P PX kc ks (pc + 1) L (.int (Int32.ofInt (a * b)) :: S) h) : LXf TT cl X mi fr lo D P PX kc ks pc L (.int (Int32.ofInt b) :: .int (Int32.ofInt a) :: S) h := by
  refine lf_imul d ?_
  rw [← Int32.ofInt_mul]
  exact k
theorem gi_iaddN {a b : Nat} (d : decode mi.2.1 pc = .ok (.iadd, 1)) (k : LXf TT cl X mi fr lo D P PX kc ks (pc + 1) L (.int (Int32.ofInt ((a + b : Nat) : Int)) :: S) h) : LXf TT cl X mi fr lo D P PX kc ks pc L (.int (Int32.ofInt (b : Int)) :: .int (Int32.ofInt (a : Int)) :: S) h := by
  refine gi_iadd d ?_
  rw [← Int.natCast_add]
  exact k
theorem gi_imulN {a b : Nat} (d : decode mi.2.1 pc = .ok (.imul, 1)) (k : LXf TT cl X mi fr lo D P PX kc ks (pc + 1) L (.int (Int32.ofInt ((a * b : Nat) : Int)) :: S) h) : LXf TT cl X mi fr lo D P PX kc ks pc L (.int (Int32.ofInt (b : Int)) :: .int (Int32.ofInt (a : Int)) :: S) h := by
  refine gi_imul d ?_
  rw [← Int.natCast_mul]
  exact k
theorem gi_isubN {a b : Nat} (d : decode mi.2.1 pc = .ok (.isub, 1)) (hb : b ≤ a) (k : LXf TT cl X mi fr lo D P PX kc ks (pc + 1) L (.int (Int32.ofInt ((a - b : Nat) : Int)) :: S) h) : LXf TT cl X mi fr lo D P PX kc ks pc L (.int (Int32.ofInt (b : Int)) :: .int (Int32.ofInt (a : Int)) :: S) h := by
  refine gi_isub d ?_
  rw [← Int.ofNat_sub hb]
  exact k
theorem gi_iandN {a b : Nat} (d : decode mi.2.1 pc = .ok (.iand, 1)) (k : LXf TT cl X mi fr lo D P PX kc ks (pc + 1) L (.int (Int32.ofInt ((a &&& b : Nat) : Int)) :: S) h) : LXf TT cl X mi fr lo D P PX kc ks pc L (.int (Int32.ofInt (b : Int)) :: .int (Int32.ofInt (a : Int)) :: S) h := by
  refine lf_iand d ?_
  rw [oi_and]
  exact k
theorem gi_iorN {a b : Nat} (d : decode mi.2.1 pc = .ok (.ior, 1)) (k : LXf TT cl X mi fr lo D P PX kc ks (pc + 1) L (.int (Int32.ofInt ((a ||| b : Nat) : Int)) :: S) h) : LXf TT cl X mi fr lo D P PX kc ks pc L (.int (Int32.ofInt (b : Int)) :: .int (Int32.ofInt (a : Int)) :: S) h := by
  refine lf_ior d ?_
  rw [oi_or]
  exact k
theorem gi_ixorN {a b : Nat} (d : decode mi.2.1 pc = .ok (.ixor, 1)) (k : LXf TT cl X mi fr lo D P PX kc ks (pc + 1) L (.int (Int32.ofInt ((a ^^^ b : Nat) : Int)) :: S) h) : LXf TT cl X mi fr lo D P PX kc ks pc L (.int (Int32.ofInt (b : Int)) :: .int (Int32.ofInt (a : Int)) :: S) h := by
  refine lf_ixor d ?_
  rw [oi_xor]
  exact k
theorem gi_ishlN {a s : Nat} (d : decode mi.2.1 pc = .ok (.ishl, 1)) (hs : s < 32) (k : LXf TT cl X mi fr lo D P PX kc ks (pc + 1) L (.int (Int32.ofInt ((a * 2 ^ s : Nat) : Int)) :: S) h) : LXf TT cl X mi fr lo D P PX kc ks pc L (.int (Int32.ofInt (s : Int)) :: .int (Int32.ofInt (a : Int)) :: S) h := by
  refine lf_ishl d ?_
  rw [oi_shl a hs]
  exact k
theorem gi_ishrN {a s : Nat} (d : decode mi.2.1 pc = .ok (.ishr, 1)) (ha : a < 2147483648) (hs : s < 32) (k : LXf TT cl X mi fr lo D P PX kc ks (pc + 1) L (.int (Int32.ofInt ((a / 2 ^ s : Nat) : Int)) :: S) h) : LXf TT cl X mi fr lo D P PX kc ks pc L (.int (Int32.ofInt (s : Int)) :: .int (Int32.ofInt (a : Int)) :: S) h := by
  refine lf_ishr d ?_
  rw [oi_shr ha hs]
  exact k
theorem gi_iremN {a b : Nat} (d : decode mi.2.1 pc = .ok (.irem, 1)) (hr : a < 2147483648 ∧ 0 < b ∧ b < 2147483648) (k : LXf TT cl X mi fr lo D P PX kc ks (pc + 1) L (.int (Int32.ofInt ((a % b : Nat) : Int)) :: S) h) : LXf TT cl X mi fr lo D P PX kc ks pc L (.int (Int32.ofInt (b : Int)) :: .int (Int32.ofInt (a : Int)) :: S) h := by
  refine lf_irem d (oi_nz hr.2.1 hr.2.2) ?_
  rw [oi_rem hr.1 hr.2.1 hr.2.2]
  exact k
theorem gi_idivN {a b : Nat} (d : decode mi.2.1 pc = .ok (.idiv, 1)) (hr : a < 2147483648 ∧ 0 < b ∧ b < 2147483648) (k : LXf TT cl X mi fr lo D P PX kc ks (pc + 1) L (.int (Int32.ofInt ((a / b : Nat) : Int)) :: S) h) : LXf TT cl X mi fr lo D P PX kc ks pc L (.int (Int32.ofInt (b : Int)) :: .int (Int32.ofInt (a : Int)) :: S) h := by
  refine lf_idiv d (oi_nz hr.2.1 hr.2.2) ?_
  rw [oi_div hr.1 hr.2.1 hr.2.2]
  exact k
theorem gi_icmp_eq {a b off : Int} {tgt : Nat} (d : decode mi.2.1 pc = .ok (.if_icmp .eq off, 3)) (ht : (pc : Int) + off = (tgt : Int)) (hr : -2147483648 ≤ a ∧ a < 2147483648 ∧ -2147483648 ≤ b ∧ b < 2147483648) (kt : a = b → LXf TT cl X mi fr lo D P PX kc ks tgt L S h) (kf : ¬ (a = b) → LXf TT cl X mi fr lo D P PX kc ks (pc + 3) L S h) : LXf TT cl X mi fr lo D P PX kc ks pc L (.int (Int32.ofInt b) :: .int (Int32.ofInt a) :: S) h :=
  lf_icmp_eq d ht (fun q => kt ((oi_eq ⟨hr.1, hr.2.1⟩ ⟨hr.2.2.1, hr.2.2.2⟩).mp q)) (fun q => kf (fun e => q ((oi_eq ⟨hr.1, hr.2.1⟩ ⟨hr.2.2.1, hr.2.2.2⟩).mpr e)))
theorem gi_icmp_ne {a b off : Int} {tgt : Nat} (d : decode mi.2.1 pc = .ok (.if_icmp .ne off, 3)) (ht : (pc : Int) + off = (tgt : Int)) (hr : -2147483648 ≤ a ∧ a < 2147483648 ∧ -2147483648 ≤ b ∧ b < 2147483648) (kt : ¬ a = b → LXf TT cl X mi fr lo D P PX kc ks tgt L S h) (kf : a = b → LXf TT cl X mi fr lo D P PX kc ks (pc + 3) L S h) : LXf TT cl X mi fr lo D P PX kc ks pc L (.int (Int32.ofInt b) :: .int (Int32.ofInt a) :: S) h :=
  lf_icmp_ne d ht (fun q => kt (fun e => q (congrArg Int32.ofInt e))) (fun q => kf ((oi_eq ⟨hr.1, hr.2.1⟩ ⟨hr.2.2.1, hr.2.2.2⟩).mp q))
theorem gi_icmp_lt {a b off : Int} {tgt : Nat} (d : decode mi.2.1 pc = .ok (.if_icmp .lt off, 3)) (ht : (pc : Int) + off = (tgt : Int)) (hr : -2147483648 ≤ a ∧ a < 2147483648 ∧ -2147483648 ≤ b ∧ b < 2147483648) (kt : a < b → LXf TT cl X mi fr lo D P PX kc ks tgt L S h) (kf : ¬ (a < b) → LXf TT cl X mi fr lo D P PX kc ks (pc + 3) L S h) : LXf TT cl X mi fr lo D P PX kc ks pc L (.int (Int32.ofInt b) :: .int (Int32.ofInt a) :: S) h :=
  lf_icmp_lt d ht (fun q => kt ((oi_lt ⟨hr.1, hr.2.1⟩ ⟨hr.2.2.1, hr.2.2.2⟩).mp q)) (fun q => kf (fun e => q ((oi_lt ⟨hr.1, hr.2.1⟩ ⟨hr.2.2.1, hr.2.2.2⟩).mpr e)))
theorem gi_icmp_ge {a b off : Int} {tgt : Nat} (d : decode mi.2.1 pc = .ok (.if_icmp .ge off, 3)) (ht : (pc : Int) + off = (tgt : Int)) (hr : -2147483648 ≤ a ∧ a < 2147483648 ∧ -2147483648 ≤ b ∧ b < 2147483648) (kt : b ≤ a → LXf TT cl X mi fr lo D P PX kc ks tgt L S h) (kf : ¬ (b ≤ a) → LXf TT cl X mi fr lo D P PX kc ks (pc + 3) L S h) : LXf TT cl X mi fr lo D P PX kc ks pc L (.int (Int32.ofInt b) :: .int (Int32.ofInt a) :: S) h :=
  lf_icmp_ge d ht (fun q => kt ((oi_le ⟨hr.2.2.1, hr.2.2.2⟩ ⟨hr.1, hr.2.1⟩).mp q)) (fun q => kf (fun e => q ((oi_le ⟨hr.2.2.1, hr.2.2.2⟩ ⟨hr.1, hr.2.1⟩).mpr e)))
theorem gi_icmp_gt {a b off : Int} {tgt : Nat} (d : decode mi.2.1 pc = .ok (.if_icmp .gt off, 3)) (ht : (pc : Int) + off = (tgt : Int)) (hr : -2147483648 ≤ a ∧ a < 2147483648 ∧ -2147483648 ≤ b ∧ b < 2147483648) (kt : b < a → LXf TT cl X mi fr lo D P PX kc ks tgt L S h) (kf : ¬ (b < a) → LXf TT cl X mi fr lo D P PX kc ks (pc + 3) L S h) : LXf TT cl X mi fr lo D P PX kc ks pc L (.int (Int32.ofInt b) :: .int (Int32.ofInt a) :: S) h :=
  lf_icmp_gt d ht (fun q => kt ((oi_lt ⟨hr.2.2.1, hr.2.2.2⟩ ⟨hr.1, hr.2.1⟩).mp q)) (fun q => kf (fun e => q ((oi_lt ⟨hr.2.2.1, hr.2.2.2⟩ ⟨hr.1, hr.2.1⟩).mpr e)))
theorem gi_icmp_le {a b off : Int} {tgt : Nat} (d : decode mi.2.1 pc = .ok (.if_icmp .le off, 3)) (ht : (pc : Int) + off = (tgt : Int)) (hr : -2147483648 ≤ a ∧ a < 2147483648 ∧ -2147483648 ≤ b ∧ b < 2147483648) (kt : a ≤ b → LXf TT cl X mi fr lo D P PX kc ks tgt L S h) (kf : ¬ (a ≤ b) → LXf TT cl X mi fr lo D P PX kc ks (pc + 3) L S h) : LXf TT cl X mi fr lo D P PX kc ks pc L (.int (Int32.ofInt b) :: .int (Int32.ofInt a) :: S) h :=
  lf_icmp_le d ht (fun q => kt ((oi_le ⟨hr.1, hr.2.1⟩ ⟨hr.2.2.1, hr.2.2.2⟩).mp q)) (fun q => kf (fun e => q ((oi_le ⟨hr.1, hr.2.1⟩ ⟨hr.2.2.1, hr.2.2.2⟩).mpr e)))
theorem gi_if_eq {a off : Int} {tgt : Nat} (d : decode mi.2.1 pc = .ok (.ifCond .eq off, 3)) (ht : (pc : Int) + off = (tgt : Int)) (hr : -2147483648 ≤ a ∧ a < 2147483648) (kt : a = 0 → LXf TT cl X mi fr lo D P PX kc ks tgt L S h) (kf : ¬ (a = 0) → LXf TT cl X mi fr lo D P PX kc ks (pc + 3) L S h) : LXf TT cl X mi fr lo D P PX kc ks pc L (.int (Int32.ofInt a) :: S) h :=
  lf_if_eq d ht (fun q => kt ((oi_eq hr (b := 0) (by omega)).mp q)) (fun q => kf (fun e => q ((oi_eq hr (b := 0) (by omega)).mpr e)))
theorem gi_if_ne {a off : Int} {tgt : Nat} (d : decode mi.2.1 pc = .ok (.ifCond .ne off, 3)) (ht : (pc : Int) + off = (tgt : Int)) (hr : -2147483648 ≤ a ∧ a < 2147483648) (kt : ¬ a = 0 → LXf TT cl X mi fr lo D P PX kc ks tgt L S h) (kf : a = 0 → LXf TT cl X mi fr lo D P PX kc ks (pc + 3) L S h) : LXf TT cl X mi fr lo D P PX kc ks pc L (.int (Int32.ofInt a) :: S) h :=
  lf_if_ne d ht (fun q => kt (fun e => q (congrArg Int32.ofInt e))) (fun q => kf ((oi_eq hr (b := 0) (by omega)).mp q))
theorem gi_if_lt {a off : Int} {tgt : Nat} (d : decode mi.2.1 pc = .ok (.ifCond .lt off, 3)) (ht : (pc : Int) + off = (tgt : Int)) (hr : -2147483648 ≤ a ∧ a < 2147483648) (kt : a < 0 → LXf TT cl X mi fr lo D P PX kc ks tgt L S h) (kf : ¬ (a < 0) → LXf TT cl X mi fr lo D P PX kc ks (pc + 3) L S h) : LXf TT cl X mi fr lo D P PX kc ks pc L (.int (Int32.ofInt a) :: S) h :=
  lf_if_lt d ht (fun q => kt ((oi_lt hr (b := 0) (by omega)).mp q)) (fun q => kf (fun e => q ((oi_lt hr (b := 0) (by omega)).mpr e)))
theorem gi_if_ge {a off : Int} {tgt : Nat} (d : decode mi.2.1 pc = .ok (.ifCond .ge off, 3)) (ht : (pc : Int) + off = (tgt : Int)) (hr : -2147483648 ≤ a ∧ a < 2147483648) (kt : 0 ≤ a → LXf TT cl X mi fr lo D P PX kc ks tgt L S h) (kf : ¬ (0 ≤ a) → LXf TT cl X mi fr lo D P PX kc ks (pc + 3) L S h) : LXf TT cl X mi fr lo D P PX kc ks pc L (.int (Int32.ofInt a) :: S) h :=
  lf_if_ge d ht (fun q => kt ((oi_le (a := 0) (by omega) hr).mp q)) (fun q => kf (fun e => q ((oi_le (a := 0) (by omega) hr).mpr e)))
theorem gi_if_gt {a off : Int} {tgt : Nat} (d : decode mi.2.1 pc = .ok (.ifCond .gt off, 3)) (ht : (pc : Int) + off = (tgt : Int)) (hr : -2147483648 ≤ a ∧ a < 2147483648) (kt : 0 < a → LXf TT cl X mi fr lo D P PX kc ks tgt L S h) (kf : ¬ (0 < a) → LXf TT cl X mi fr lo D P PX kc ks (pc + 3) L S h) : LXf TT cl X mi fr lo D P PX kc ks pc L (.int (Int32.ofInt a) :: S) h :=
  lf_if_gt d ht (fun q => kt ((oi_lt (a := 0) (by omega) hr).mp q)) (fun q => kf (fun e => q ((oi_lt (a := 0) (by omega) hr).mpr e)))
theorem gi_if_le {a off : Int} {tgt : Nat} (d : decode mi.2.1 pc = .ok (.ifCond .le off, 3)) (ht : (pc : Int) + off = (tgt : Int)) (hr : -2147483648 ≤ a ∧ a < 2147483648) (kt : a ≤ 0 → LXf TT cl X mi fr lo D P PX kc ks tgt L S h) (kf : ¬ (a ≤ 0) → LXf TT cl X mi fr lo D P PX kc ks (pc + 3) L S h) : LXf TT cl X mi fr lo D P PX kc ks pc L (.int (Int32.ofInt a) :: S) h :=
  lf_if_le d ht (fun q => kt ((oi_le hr (b := 0) (by omega)).mp q)) (fun q => kf (fun e => q ((oi_le hr (b := 0) (by omega)).mpr e)))
theorem gi_iaload {i n : Nat} {j : Int} {f : Nat → Option Nat} (d : decode mi.2.1 pc = .ok (.iaload, 1)) (hs : sh i = some (.inl (.int, n, 0, f))) (hj : 0 ≤ j ∧ j < n ∧ n ≤ 2147483647) (k : LXf TT cl X mi fr lo D P PX kc ks (pc + 1) L (.int (Int32.ofInt (I i j.toNat)) :: S) (hp sh I J)) : LXf TT cl X mi fr lo D P PX kc ks pc L (.int (Int32.ofInt j) :: .ref i :: S) (hp sh I J) := by
  refine lf_iaload d (hp_at hs) (oi_in hj.1 hj.2.1 hj.2.2) ?_
  rw [oi_n (by omega)]
  exact k
theorem gi_ialoadN {i n j : Nat} {f : Nat → Option Nat} (d : decode mi.2.1 pc = .ok (.iaload, 1)) (hs : sh i = some (.inl (.int, n, 0, f))) (hj : j < n ∧ n ≤ 2147483647) (k : LXf TT cl X mi fr lo D P PX kc ks (pc + 1) L (.int (Int32.ofInt (I i j)) :: S) (hp sh I J)) : LXf TT cl X mi fr lo D P PX kc ks pc L (.int (Int32.ofInt (j : Int)) :: .ref i :: S) (hp sh I J) :=
  gi_iaload d hs (by omega) k
theorem gi_zaload {i n : Nat} {j : Int} {f : Nat → Option Nat} (d : decode mi.2.1 pc = .ok (.baload, 1)) (hs : sh i = some (.inl (.boolean, n, 0, f))) (hj : 0 ≤ j ∧ j < n ∧ n ≤ 2147483647) (k : LXf TT cl X mi fr lo D P PX kc ks (pc + 1) L (.int (Int32.ofInt (I i j.toNat)) :: S) (hp sh I J)) : LXf TT cl X mi fr lo D P PX kc ks pc L (.int (Int32.ofInt j) :: .ref i :: S) (hp sh I J) := by
  refine lf_zaload d (hp_at hs) (oi_in hj.1 hj.2.1 hj.2.2) ?_
  rw [oi_n (by omega)]
  exact k
theorem gi_zaloadN {i n j : Nat} {f : Nat → Option Nat} (d : decode mi.2.1 pc = .ok (.baload, 1)) (hs : sh i = some (.inl (.boolean, n, 0, f))) (hj : j < n ∧ n ≤ 2147483647) (k : LXf TT cl X mi fr lo D P PX kc ks (pc + 1) L (.int (Int32.ofInt (I i j)) :: S) (hp sh I J)) : LXf TT cl X mi fr lo D P PX kc ks pc L (.int (Int32.ofInt (j : Int)) :: .ref i :: S) (hp sh I J) :=
  gi_zaload d hs (by omega) k
theorem gi_caload {i n : Nat} {j : Int} {f : Nat → Option Nat} (d : decode mi.2.1 pc = .ok (.caload, 1)) (hs : sh i = some (.inl (.char, n, 0, f))) (hj : 0 ≤ j ∧ j < n ∧ n ≤ 2147483647) (k : LXf TT cl X mi fr lo D P PX kc ks (pc + 1) L (.int (Int32.ofInt (I i j.toNat)) :: S) (hp sh I J)) : LXf TT cl X mi fr lo D P PX kc ks pc L (.int (Int32.ofInt j) :: .ref i :: S) (hp sh I J) := by
  refine lf_caload d (hp_at hs) (oi_in hj.1 hj.2.1 hj.2.2) ?_
  rw [oi_n (by omega)]
  exact k
theorem gi_caloadN {i n j : Nat} {f : Nat → Option Nat} (d : decode mi.2.1 pc = .ok (.caload, 1)) (hs : sh i = some (.inl (.char, n, 0, f))) (hj : j < n ∧ n ≤ 2147483647) (k : LXf TT cl X mi fr lo D P PX kc ks (pc + 1) L (.int (Int32.ofInt (I i j)) :: S) (hp sh I J)) : LXf TT cl X mi fr lo D P PX kc ks pc L (.int (Int32.ofInt (j : Int)) :: .ref i :: S) (hp sh I J) :=
  gi_caload d hs (by omega) k
theorem gi_laload {i n : Nat} {j : Int} {f : Nat → Option Nat} (d : decode mi.2.1 pc = .ok (.laload, 1)) (hs : sh i = some (.inl (.long, n, 1, f))) (hj : 0 ≤ j ∧ j < n ∧ n ≤ 2147483647) (k : LXf TT cl X mi fr lo D P PX kc ks (pc + 1) L (.long (J i j.toNat) :: S) (hp sh I J)) : LXf TT cl X mi fr lo D P PX kc ks pc L (.int (Int32.ofInt j) :: .ref i :: S) (hp sh I J) := by
  refine lf_laload d (hp_at hs) (oi_in hj.1 hj.2.1 hj.2.2) ?_
  rw [oi_n (by omega)]
  exact k
theorem gi_laloadN {i n j : Nat} {f : Nat → Option Nat} (d : decode mi.2.1 pc = .ok (.laload, 1)) (hs : sh i = some (.inl (.long, n, 1, f))) (hj : j < n ∧ n ≤ 2147483647) (k : LXf TT cl X mi fr lo D P PX kc ks (pc + 1) L (.long (J i j) :: S) (hp sh I J)) : LXf TT cl X mi fr lo D P PX kc ks pc L (.int (Int32.ofInt (j : Int)) :: .ref i :: S) (hp sh I J) :=
  gi_laload d hs (by omega) k
theorem ar_upd {I : mI} {i k : Nat} {x : Int} : upd (fun b => Int32.ofInt (I i b)) k (Int32.ofInt x) = fun b => Int32.ofInt (ipt I i k x i b) := by
  funext b
  unfold upd
  rw [ipt_s]
  split <;> rfl
theorem ar_updL {J : mJ} {i k : Nat} {x : Int64} : vp_updL (J i) k x = jpt J i k x i := by
  funext b
  unfold vp_updL
  rw [jpt_s]
theorem oi_z {x : Int} (h : x = 0 ∨ x = 1) : vp_nar .boolean (Int32.ofInt x) = Int32.ofInt x := by
  rcases h with rfl | rfl <;> decide
theorem oi_c {x : Int} (h : 0 ≤ x ∧ x < 65536) : vp_nar .char (Int32.ofInt x) = Int32.ofInt x := by
  obtain ⟨k, rfl⟩ := Int.eq_ofNat_of_zero_le h.1
  have hk : k < 65536 := by omega
  rw [oi_nat]
  show ((Int32.ofNat k).toUInt32 % 65536).toInt32 = Int32.ofNat k
  apply Int32.toBitVec_inj.mp
  apply BitVec.eq_of_toNat_eq
  show ((Int32.ofNat k).toUInt32 % 65536).toNat = (BitVec.ofNat 32 k).toNat
  rw [UInt32.toNat_mod]
  show (BitVec.ofNat 32 k).toNat % 65536 = (BitVec.ofNat 32 k).toNat
  rw [BitVec.toNat_ofNat, Nat.mod_eq_of_lt (a := k) (by omega), Nat.mod_eq_of_lt hk]
theorem gi_iastore {i n : Nat} {j : Int} {x : Int} {f : Nat → Option Nat} (d : decode mi.2.1 pc = .ok (.iastore, 1)) (hs : sh i = some (.inl (.int, n, 0, f))) (hj : 0 ≤ j ∧ j < n ∧ n ≤ 2147483647)  (k : LXf TT cl X mi fr lo D P PX kc ks (pc + 1) L S (hp sh (ipt I i j.toNat x) J)) : LXf TT cl X mi fr lo D P PX kc ks pc L (.int (Int32.ofInt x) :: .int (Int32.ofInt j) :: .ref i :: S) (hp sh I J) := by
  refine lf_iastore d (hp_at hs) (oi_in hj.1 hj.2.1 hj.2.2) ?_
  rw [oi_n (by omega), ar_upd]
  have e := hp_ipt (J := J) (k := j.toNat) (x := x) (I := I) hs
  rw [← e] at k
  exact k
theorem gi_iastoreN {i n : Nat} {j : Nat} {x : Int} {f : Nat → Option Nat} (d : decode mi.2.1 pc = .ok (.iastore, 1)) (hs : sh i = some (.inl (.int, n, 0, f))) (hj : j < n ∧ n ≤ 2147483647)  (k : LXf TT cl X mi fr lo D P PX kc ks (pc + 1) L S (hp sh (ipt I i j x) J)) : LXf TT cl X mi fr lo D P PX kc ks pc L (.int (Int32.ofInt x) :: .int (Int32.ofInt (j : Int)) :: .ref i :: S) (hp sh I J) := by
  exact gi_iastore d hs (by omega) k
theorem gi_zastore {i n : Nat} {j : Int} {x : Int} {f : Nat → Option Nat} (d : decode mi.2.1 pc = .ok (.bastore, 1)) (hs : sh i = some (.inl (.boolean, n, 0, f))) (hj : 0 ≤ j ∧ j < n ∧ n ≤ 2147483647) (hx : x = 0 ∨ x = 1) (k : LXf TT cl X mi fr lo D P PX kc ks (pc + 1) L S (hp sh (ipt I i j.toNat x) J)) : LXf TT cl X mi fr lo D P PX kc ks pc L (.int (Int32.ofInt x) :: .int (Int32.ofInt j) :: .ref i :: S) (hp sh I J) := by
  refine lf_zastore d (hp_at hs) (oi_in hj.1 hj.2.1 hj.2.2) ?_
  rw [oi_z hx]
  rw [oi_n (by omega), ar_upd]
  have e := hp_ipt (J := J) (k := j.toNat) (x := x) (I := I) hs
  rw [← e] at k
  exact k
theorem gi_zastoreN {i n : Nat} {j : Nat} {x : Int} {f : Nat → Option Nat} (d : decode mi.2.1 pc = .ok (.bastore, 1)) (hs : sh i = some (.inl (.boolean, n, 0, f))) (hj : j < n ∧ n ≤ 2147483647) (hx : x = 0 ∨ x = 1) (k : LXf TT cl X mi fr lo D P PX kc ks (pc + 1) L S (hp sh (ipt I i j x) J)) : LXf TT cl X mi fr lo D P PX kc ks pc L (.int (Int32.ofInt x) :: .int (Int32.ofInt (j : Int)) :: .ref i :: S) (hp sh I J) := by
  exact gi_zastore d hs (by omega) hx k
theorem gi_castore {i n : Nat} {j : Int} {x : Int} {f : Nat → Option Nat} (d : decode mi.2.1 pc = .ok (.castore, 1)) (hs : sh i = some (.inl (.char, n, 0, f))) (hj : 0 ≤ j ∧ j < n ∧ n ≤ 2147483647) (hx : 0 ≤ x ∧ x < 65536) (k : LXf TT cl X mi fr lo D P PX kc ks (pc + 1) L S (hp sh (ipt I i j.toNat x) J)) : LXf TT cl X mi fr lo D P PX kc ks pc L (.int (Int32.ofInt x) :: .int (Int32.ofInt j) :: .ref i :: S) (hp sh I J) := by
  refine lf_castore d (hp_at hs) (oi_in hj.1 hj.2.1 hj.2.2) ?_
  rw [oi_c hx]
  rw [oi_n (by omega), ar_upd]
  have e := hp_ipt (J := J) (k := j.toNat) (x := x) (I := I) hs
  rw [← e] at k
  exact k
theorem gi_castoreN {i n : Nat} {j : Nat} {x : Int} {f : Nat → Option Nat} (d : decode mi.2.1 pc = .ok (.castore, 1)) (hs : sh i = some (.inl (.char, n, 0, f))) (hj : j < n ∧ n ≤ 2147483647) (hx : 0 ≤ x ∧ x < 65536) (k : LXf TT cl X mi fr lo D P PX kc ks (pc + 1) L S (hp sh (ipt I i j x) J)) : LXf TT cl X mi fr lo D P PX kc ks pc L (.int (Int32.ofInt x) :: .int (Int32.ofInt (j : Int)) :: .ref i :: S) (hp sh I J) := by
  exact gi_castore d hs (by omega) hx k
theorem gi_lastore {i n : Nat} {j : Int} {x : Int64} {f : Nat → Option Nat} (d : decode mi.2.1 pc = .ok (.lastore, 1)) (hs : sh i = some (.inl (.long, n, 1, f))) (hj : 0 ≤ j ∧ j < n ∧ n ≤ 2147483647) (k : LXf TT cl X mi fr lo D P PX kc ks (pc + 1) L S (hp sh I (jpt J i j.toNat x))) : LXf TT cl X mi fr lo D P PX kc ks pc L (.long x :: .int (Int32.ofInt j) :: .ref i :: S) (hp sh I J) := by
  refine lf_lastore d (hp_at hs) (oi_in hj.1 hj.2.1 hj.2.2) ?_
  rw [oi_n (by omega), ar_updL]
  have e := hp_jpt (J := J) (k := j.toNat) (x := x) (I := I) hs
  rw [← e] at k
  exact k
theorem gi_lastoreN {i n : Nat} {j : Nat} {x : Int64} {f : Nat → Option Nat} (d : decode mi.2.1 pc = .ok (.lastore, 1)) (hs : sh i = some (.inl (.long, n, 1, f))) (hj : j < n ∧ n ≤ 2147483647) (k : LXf TT cl X mi fr lo D P PX kc ks (pc + 1) L S (hp sh I (jpt J i j x))) : LXf TT cl X mi fr lo D P PX kc ks pc L (.long x :: .int (Int32.ofInt (j : Int)) :: .ref i :: S) (hp sh I J) := by
  exact gi_lastore d hs (by omega) k
theorem gi_len {i n kd : Nat} {ty : FieldType} {f : Nat → Option Nat} (d : decode mi.2.1 pc = .ok (.arraylength, 1)) (hs : sh i = some (.inl (ty, n, kd, f))) (k : LXf TT cl X mi fr lo D P PX kc ks (pc + 1) L (.int (Int32.ofInt (n : Int)) :: S) (hp sh I J)) : LXf TT cl X mi fr lo D P PX kc ks pc L (.ref i :: S) (hp sh I J) := by
  rw [oi_nat] at k
  have h1 := hp_at (I := I) (J := J) hs
  match kd, h1 with
  | 0, h1 => exact lf_arraylength d h1 k
  | 1, h1 => exact lf_arraylength d h1 k
  | m + 2, h1 => exact lf_arraylength d h1 k
theorem gi_aald {i n kd j : Nat} {ty : FieldType} {f : Nat → Option Nat} (d : decode mi.2.1 pc = .ok (.aaload, 1)) (hty : ty.isReference = true) (hs : sh i = some (.inl (ty, n, kd + 2, f))) (hj : j < n ∧ n ≤ 2147483647) {r : Nat} (hr : f j = some r) (k : LXf TT cl X mi fr lo D P PX kc ks (pc + 1) L (.ref r :: S) (hp sh I J)) : LXf TT cl X mi fr lo D P PX kc ks pc L (.int (Int32.ofInt (j : Int)) :: .ref i :: S) (hp sh I J) := by
  refine lf_aald hty d (hp_at (I := I) (J := J) hs) (oi_in (by omega) (by omega) hj.2) ?_
  rw [oi_n (by omega), Int.toNat_natCast, hr]
  exact k
theorem gi_new_int {m q kc ks : Nat} (d : decode mi.2.1 pc = .ok (.newarray .int, 2)) (ht : Cond.arrayClass .int ∈ TT) (hm : m ≤ 67108864) (hq : sh q = none) (k : LXf TT cl X mi fr lo D P PX kc ks (pc + 2) L (.ref q :: S) (hp (spt sh q (.inl (.int, m, 0, fun _ => none))) (izr I q) (jzr J q))) : LXf TT cl X mi fr lo D P PX (kc + 1) (ks + m) pc L (.int (Int32.ofInt (m : Int)) :: S) (hp sh I J) := by
  refine lf_newarray_int d ht (fun q9 => ?_) ((oi_n (by omega)).trans (Int.toNat_natCast m)) hm (hp_no hq) ?_
  · have := (oi_lt (a := (m : Int)) (b := 0) (by omega) (by omega)).mp q9
    omega
  · have e : mset (hp sh I J) q (sden (izr I q) (jzr J q) q (.inl (.int, m, 0, fun _ => none))) = _ := hp_new (s := .inl (.int, m, 0, fun _ => none))
    have e1 : sden (izr I q) (jzr J q) q (.inl (.int, m, 0, fun _ => none)) = .inl (.int, m, .inl (fun _ => 0)) := by
      show Sum.inl (_, m, Sum.inl (fun k => Int32.ofInt (izr I q q k))) = _
      congr
      funext b
      rw [izr_s]; rfl
    rw [e1] at e
    rw [e]
    exact k
theorem gi_new_boolean {m q kc ks : Nat} (d : decode mi.2.1 pc = .ok (.newarray .boolean, 2)) (ht : Cond.arrayClass .boolean ∈ TT) (hm : m ≤ 67108864) (hq : sh q = none) (k : LXf TT cl X mi fr lo D P PX kc ks (pc + 2) L (.ref q :: S) (hp (spt sh q (.inl (.boolean, m, 0, fun _ => none))) (izr I q) (jzr J q))) : LXf TT cl X mi fr lo D P PX (kc + 1) (ks + m) pc L (.int (Int32.ofInt (m : Int)) :: S) (hp sh I J) := by
  refine lf_newarray_boolean d ht (fun q9 => ?_) ((oi_n (by omega)).trans (Int.toNat_natCast m)) hm (hp_no hq) ?_
  · have := (oi_lt (a := (m : Int)) (b := 0) (by omega) (by omega)).mp q9
    omega
  · have e : mset (hp sh I J) q (sden (izr I q) (jzr J q) q (.inl (.boolean, m, 0, fun _ => none))) = _ := hp_new (s := .inl (.boolean, m, 0, fun _ => none))
    have e1 : sden (izr I q) (jzr J q) q (.inl (.boolean, m, 0, fun _ => none)) = .inl (.boolean, m, .inl (fun _ => 0)) := by
      show Sum.inl (_, m, Sum.inl (fun k => Int32.ofInt (izr I q q k))) = _
      congr
      funext b
      rw [izr_s]; rfl
    rw [e1] at e
    rw [e]
    exact k
theorem gi_new_char {m q kc ks : Nat} (d : decode mi.2.1 pc = .ok (.newarray .char, 2)) (ht : Cond.arrayClass .char ∈ TT) (hm : m ≤ 67108864) (hq : sh q = none) (k : LXf TT cl X mi fr lo D P PX kc ks (pc + 2) L (.ref q :: S) (hp (spt sh q (.inl (.char, m, 0, fun _ => none))) (izr I q) (jzr J q))) : LXf TT cl X mi fr lo D P PX (kc + 1) (ks + m) pc L (.int (Int32.ofInt (m : Int)) :: S) (hp sh I J) := by
  refine lf_newarray_char d ht (fun q9 => ?_) ((oi_n (by omega)).trans (Int.toNat_natCast m)) hm (hp_no hq) ?_
  · have := (oi_lt (a := (m : Int)) (b := 0) (by omega) (by omega)).mp q9
    omega
  · have e : mset (hp sh I J) q (sden (izr I q) (jzr J q) q (.inl (.char, m, 0, fun _ => none))) = _ := hp_new (s := .inl (.char, m, 0, fun _ => none))
    have e1 : sden (izr I q) (jzr J q) q (.inl (.char, m, 0, fun _ => none)) = .inl (.char, m, .inl (fun _ => 0)) := by
      show Sum.inl (_, m, Sum.inl (fun k => Int32.ofInt (izr I q q k))) = _
      congr
      funext b
      rw [izr_s]; rfl
    rw [e1] at e
    rw [e]
    exact k
theorem gi_new_long {m q kc ks : Nat} (d : decode mi.2.1 pc = .ok (.newarray .long, 2)) (ht : Cond.arrayClass .long ∈ TT) (hm : m ≤ 67108864) (hq : sh q = none) (k : LXf TT cl X mi fr lo D P PX kc ks (pc + 2) L (.ref q :: S) (hp (spt sh q (.inl (.long, m, 1, fun _ => none))) (izr I q) (jzr J q))) : LXf TT cl X mi fr lo D P PX (kc + 1) (ks + m) pc L (.int (Int32.ofInt (m : Int)) :: S) (hp sh I J) := by
  refine lf_newarray_long d ht (fun q9 => ?_) ((oi_n (by omega)).trans (Int.toNat_natCast m)) hm (hp_no hq) ?_
  · have := (oi_lt (a := (m : Int)) (b := 0) (by omega) (by omega)).mp q9
    omega
  · have e : mset (hp sh I J) q (sden (izr I q) (jzr J q) q (.inl (.long, m, 1, fun _ => none))) = _ := hp_new (s := .inl (.long, m, 1, fun _ => none))
    have e1 : sden (izr I q) (jzr J q) q (.inl (.long, m, 1, fun _ => none)) = .inl (.long, m, .inr (.inl (fun _ => 0))) := by
      show Sum.inl (_, m, Sum.inr (Sum.inl (jzr J q q))) = _
      congr
      funext b
      rw [jzr_s]
    rw [e1] at e
    rw [e]
    exact k
theorem lf_get {i ci k : Nat} {fs : List Value} {v : Value} (hk : kGet TT cl X mi pc ci k) (hM : h i = some (.inr (ci, fs))) (hv : fs[k]? = some v) (kk : LXf TT cl X mi fr lo D P PX kc ks (pc + 3) L (v :: S) h) : LXf TT cl X mi fr lo D P PX kc ks pc L (.ref i :: S) h := by
  intro π0 π M hR hL hS hA hI
  exact hk fr lo _ _ kc ks _ _ M (π i) (fs.map (rnV π)) (rnV π v) (hR.1 _ _ hM) (by rw [List.getElem?_map, hv]; rfl) (kk π0 π M hR hL (mcS_cons.mpr ⟨hR.2.2 _ _ hM v (List.mem_of_getElem? hv), (mcS_cons.mp hS).2⟩) hA hI)
theorem lf_put {i ci k : Nat} {fs : List Value} {v : Value} {ty : FieldType} (hk : kPut TT cl X mi pc ci k ty) (hM : h i = some (.inr (ci, fs))) (hlt : k < fs.length) (hn : narrow ty v = v) (hfi : mj_fits ty v = true)
    (kk : LXf TT cl X mi fr lo D P PX kc ks (pc + 3) L S (mset h i (.inr (ci, fs.set k v)))) : LXf TT cl X mi fr lo D P PX kc ks pc L (v :: .ref i :: S) h := by
  intro π0 π M hR hL hS hA hI
  have hS2 := (mcS_cons.mp (mcS_cons.mp hS).2).2
  have g := kk π0 π _ (rep_set hR hM (mc_fset (hR.2.2 _ _ hM) (mcS_cons.mp hS).1)) (mcL_set hL) (mcS_set hS2) hA (mIn_set hI)
  refine hk fr lo _ _ kc ks _ _ M (π i) (fs.map (rnV π)) (rnV π v) (hR.1 _ _ hM) (by rw [List.length_map]; exact hlt) (rnV_narrow hn) (rnV_fits.trans hfi) ?_
  rw [← List.map_set]
  exact g
theorem lf_kpush {len : Nat} {v : Value} (hk : kPush TT cl X mi pc len v) (hv : ∀ π, rnV π v = v) (hm : mcV h v) (kk : LXf TT cl X mi fr lo D P PX kc ks (pc + len) L (v :: S) h) : LXf TT cl X mi fr lo D P PX kc ks pc L S h := by
  intro π0 π M hR hL hS hA hI
  have g := kk π0 π M hR hL (mcS_cons.mpr ⟨hm, hS⟩) hA hI
  refine hk fr lo _ _ kc ks _ _ M ?_
  have e : rnS π (v :: S) = v :: rnS π S := by show rnV π v :: _ = _; rw [hv]; rfl
  rw [e] at g
  exact g
theorem gi_pushi {len : Nat} {v : Int32} (hk : kPush TT cl X mi pc len (.int v)) (kk : LXf TT cl X mi fr lo D P PX kc ks (pc + len) L (.int v :: S) h) : LXf TT cl X mi fr lo D P PX kc ks pc L S h := lf_kpush hk (fun _ => rfl) trivial kk
theorem gi_pushl {len : Nat} {v : Int64} (hk : kPush TT cl X mi pc len (.long v)) (kk : LXf TT cl X mi fr lo D P PX kc ks (pc + len) L (.long v :: S) h) : LXf TT cl X mi fr lo D P PX kc ks pc L S h := lf_kpush hk (fun _ => rfl) trivial kk
theorem gi_pushs {len k : Nat} (hk : kPush TT cl X mi pc len (.retAddr k)) (kk : LXf TT cl X mi fr lo D P PX kc ks (pc + len) L (.retAddr k :: S) h) : LXf TT cl X mi fr lo D P PX kc ks pc L S h := lf_kpush hk (fun _ => rfl) trivial kk
theorem gi_geti {i ci k : Nat} {fs : List Value} {z : Int32} (hk : kGet TT cl X mi pc ci k) (hs : sh i = some (.inr (ci, fs))) (hv : fs[k]? = some (.int z)) (kk : LXf TT cl X mi fr lo D P PX kc ks (pc + 3) L (.int (Int32.ofInt (I i k)) :: S) (hp sh I J)) : LXf TT cl X mi fr lo D P PX kc ks pc L (.ref i :: S) (hp sh I J) := lf_get hk (hp_at hs) (fs_at hv) kk
theorem gi_getl {i ci k : Nat} {fs : List Value} {z : Int64} (hk : kGet TT cl X mi pc ci k) (hs : sh i = some (.inr (ci, fs))) (hv : fs[k]? = some (.long z)) (kk : LXf TT cl X mi fr lo D P PX kc ks (pc + 3) L (.long (J i k) :: S) (hp sh I J)) : LXf TT cl X mi fr lo D P PX kc ks pc L (.ref i :: S) (hp sh I J) := lf_get hk (hp_at hs) (fs_at hv) kk
theorem gi_getr {i ci k j : Nat} {fs : List Value} (hk : kGet TT cl X mi pc ci k) (hs : sh i = some (.inr (ci, fs))) (hv : fs[k]? = some (.ref j)) (kk : LXf TT cl X mi fr lo D P PX kc ks (pc + 3) L (.ref j :: S) (hp sh I J)) : LXf TT cl X mi fr lo D P PX kc ks pc L (.ref i :: S) (hp sh I J) := lf_get hk (hp_at hs) (fs_at hv) kk
theorem gi_getn {i ci k : Nat} {fs : List Value} (hk : kGet TT cl X mi pc ci k) (hs : sh i = some (.inr (ci, fs))) (hv : fs[k]? = some .null) (kk : LXf TT cl X mi fr lo D P PX kc ks (pc + 3) L (.null :: S) (hp sh I J)) : LXf TT cl X mi fr lo D P PX kc ks pc L (.ref i :: S) (hp sh I J) := lf_get hk (hp_at hs) (fs_at hv) kk
theorem fs_lt {i : Nat} {fs : List Value} {k : Nat} {v : Value} (hv : fs[k]? = some v) : k < (fs.mapIdx (fv I J i)).length := by rw [List.length_mapIdx]; exact (List.getElem?_eq_some_iff.mp hv).1
theorem gi_puti {i ci k : Nat} {fs : List Value} {z : Int32} {x : Int} (hk : kPut TT cl X mi pc ci k .int) (hs : sh i = some (.inr (ci, fs))) (hv : fs[k]? = some (.int z)) (kk : LXf TT cl X mi fr lo D P PX kc ks (pc + 3) L S (hp sh (ipt I i k x) J)) : LXf TT cl X mi fr lo D P PX kc ks pc L (.int (Int32.ofInt x) :: .ref i :: S) (hp sh I J) := by
  refine lf_put hk (hp_at hs) (fs_lt hv) rfl rfl ?_
  rw [fs_seti hv]
  have e := hp_ipt (J := J) (k := k) (x := x) (I := I) hs
  rw [← e] at kk
  exact kk
theorem gi_putz {i ci k : Nat} {fs : List Value} {z : Int32} {x : Int} (hk : kPut TT cl X mi pc ci k .boolean) (hs : sh i = some (.inr (ci, fs))) (hv : fs[k]? = some (.int z)) (hx : x = 0 ∨ x = 1) (kk : LXf TT cl X mi fr lo D P PX kc ks (pc + 3) L S (hp sh (ipt I i k x) J)) : LXf TT cl X mi fr lo D P PX kc ks pc L (.int (Int32.ofInt x) :: .ref i :: S) (hp sh I J) := by
  refine lf_put hk (hp_at hs) (fs_lt hv) (by rcases hx with rfl | rfl <;> rfl) (by rcases hx with rfl | rfl <;> decide) ?_
  rw [fs_seti hv]
  have e := hp_ipt (J := J) (k := k) (x := x) (I := I) hs
  rw [← e] at kk
  exact kk
theorem gi_putl {i ci k : Nat} {fs : List Value} {z : Int64} {x : Int64} (hk : kPut TT cl X mi pc ci k .long) (hs : sh i = some (.inr (ci, fs))) (hv : fs[k]? = some (.long z)) (kk : LXf TT cl X mi fr lo D P PX kc ks (pc + 3) L S (hp sh I (jpt J i k x))) : LXf TT cl X mi fr lo D P PX kc ks pc L (.long x :: .ref i :: S) (hp sh I J) := by
  refine lf_put hk (hp_at hs) (fs_lt hv) rfl rfl ?_
  rw [fs_setl hv]
  have e := hp_jpt (J := J) (k := k) (x := x) (I := I) hs
  rw [← e] at kk
  exact kk
theorem gi_putr {i ci k : Nat} {fs : List Value} {ty : FieldType} {v u : Value} (hk : kPut TT cl X mi pc ci k ty) (hs : sh i = some (.inr (ci, fs))) (hv : fs[k]? = some u) (hr : mj_isr v = true) (hn : narrow ty v = v) (hf : mj_fits ty v = true) (kk : LXf TT cl X mi fr lo D P PX kc ks (pc + 3) L S (hp (spt sh i (.inr (ci, fs.set k v))) I J)) : LXf TT cl X mi fr lo D P PX kc ks pc L (v :: .ref i :: S) (hp sh I J) := by
  refine lf_put hk (hp_at hs) (fs_lt hv) hn hf ?_
  rw [fs_setr hr]
  have e : mset (hp sh I J) i (sden I J i (.inr (ci, fs.set k v))) = _ := hp_spt
  rw [← e] at kk
  exact kk
theorem gi_new {ci N q : Nat} {fs : List Value} {kc ks : Nat} (hk : kNew TT cl X mi pc ci N fs) (hp9 : fs.all mj_pl = true) (h0 : ∀ v ∈ fs, v = .int 0 ∨ v = .long 0 ∨ v = .null) (hq : sh q = none)
    (kk : LXf TT cl X mi fr lo D P PX kc ks (pc + 3) L (.ref q :: S) (hp (spt sh q (.inr (ci, fs))) (izr I q) (jzr J q))) : LXf TT cl X mi fr lo D P PX (kc + 1) (ks + N) pc L S (hp sh I J) := by
  intro π0 π M hR hL hS hA hI
  have hpl : ∀ v ∈ fs, mj_pl v = true := List.all_eq_true.mp hp9
  have hc : mcE (hp sh I J) (.inr (ci, fs)) := fun v hv => by
    have := hpl v hv
    cases v with
    | ref i => cases this
    | _ => trivial
  have e1 : fs.map (rnV π) = fs := by
    have : fs.map (rnV π) = fs.map id := List.map_congr_left (fun v hv => by
      have := hpl v hv
      cases v with
      | ref i => cases this
      | _ => rfl)
    rw [this, List.map_id]
  have e2 : fs.mapIdx (fv (izr I q) (jzr J q) q) = fs := by
    refine List.ext_getElem? (fun j => ?_)
    rw [List.getElem?_mapIdx]
    cases hj : fs[j]? with
    | none => rfl
    | some v =>
      show some _ = some _
      rcases h0 v (List.mem_of_getElem? hj) with rfl | rfl | rfl
      · show some (Value.int (Int32.ofInt (izr I q q j))) = _; rw [izr_s]; rfl
      · show some (Value.long (jzr J q q j)) = _; rw [jzr_s]
      · rfl
  have e3 : mset (hp sh I J) q (sden (izr I q) (jzr J q) q (.inr (ci, fs))) = _ := hp_new (s := .inr (ci, fs))
  rw [show sden (izr I q) (jzr J q) q (.inr (ci, fs)) = .inr (ci, fs) from by show Sum.inr (ci, fs.mapIdx _) = _; rw [e2]] at e3
  rw [← e3] at kk
  have g := lf_alloc (hp_no hq) hc kk hR hL hS hA hI
  rw [show rnE π (.inr (ci, fs)) = .inr (ci, fs) from by show Sum.inr (ci, fs.map (rnV π)) = _; rw [e1]] at g
  exact hk fr lo _ _ kc ks _ _ M g
end HP2
