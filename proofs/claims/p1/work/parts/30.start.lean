section ST2
/-- what the law's start gives to every method: 1 the script, 2 the rows of HIGH_HALVES, 3 the empty row of ArrayList -/
def XX (L9 : Nat) (xs : Nat → Int32) : XT := fun A sp U H =>
  vx_Zq Bundle.tN "UNASSIGNED_STACK" Bundle.steD A U H ∧ vx_Zq Bundle.tN "SUPPRESSED_SENTINEL" Bundle.listD A U H ∧
  va_Z "java/util/ArrayList" "DEFAULTCAPACITY_EMPTY_ELEMENTDATA" "[Ljava/lang/Object;" (.ref (sp 3)) A U H ∧ va_T (.object "java/lang/Object") (sp 3) 0 (fun _ => .null) A U H ∧
  va_Z "Miterhouse" "HIGH_HALVES" "[J" (.ref (sp 2)) A U H ∧ va_T .long (sp 2) 6 (fun j => .long (hhv j)) A U H ∧
  va_X (sp 1) L9 xs U H ∧ sp 1 < H.size ∧ ¬ A (sp 1) ∧
  va_Fw "java/util/ArrayList$Itr" ⟨"java/util/Iterator", "hasNext", "()Z"⟩ ⟨"java/util/ArrayList$Itr", "hasNext", "()Z"⟩ U ∧
  (∀ q ∈ ncs, va_Nc q.1 q.2 U) ∧ (∀ q ∈ strs, ∃ a, vk_R q.1 q.2.1 q.2.2 a U)
theorem XX_ok {L9 : Nat} {xs : Nat → Int32} : mj_XOK (XX L9 xs) := by
  refine ⟨?_, ?_, ?_, ?_⟩
  · intro A sp U H H1 h hs hk
    obtain ⟨h1, h2, h3, h4, h5, h6, h7, h8, h9, h10, h11, h12⟩ := h
    exact ⟨h1.kept hk, h2.kept hk, h3.kept hk, h4.kept hk, h5.kept hk, h6.kept hk, h7.kept (hk _ h8 h9), Nat.lt_of_lt_of_le h8 hs, h9, h10, h11, h12⟩
  · intro A B sp U H hBA h
    obtain ⟨h1, h2, h3, h4, h5, h6, h7, h8, h9, h10, h11, h12⟩ := h
    exact ⟨h1.narrow hBA, h2.narrow hBA, h3.narrow hBA, h4.narrow hBA, h5.narrow hBA, h6.narrow hBA, h7, h8, fun q => h9 (hBA _ q), h10, h11, h12⟩
  · intro A sp U T H hW h
    obtain ⟨h1, h2, h3, h4, h5, h6, h7, h8, h9, h10, h11, h12⟩ := h
    have hv := hW.alike
    exact ⟨h1.moved hv, h2.moved hv, h3.moved hv, h4.moved hv, h5.moved hv, h6.moved hv, h7.moved hv, h8, h9, h10.moved ⟨by decide, by decide⟩ hv, fun q hq => (h11 q hq).moved hv, fun q hq => by obtain ⟨a, ha⟩ := h12 q hq; exact ⟨a, ha.warm hW⟩⟩
  · intro A sp U T H hvm h
    obtain ⟨h1, h2, h3, h4, h5, h6, h7, h8, h9, h10, h11, h12⟩ := h
    have hv : U.vm.Alike T.vm := by rw [hvm]; exact Vm.Alike.refl U.vm
    exact ⟨h1.moved hv, h2.moved hv, h3.moved hv, h4.moved hv, h5.moved hv, h6.moved hv, h7.moved hv, h8, h9, h10.moved ⟨by decide, by decide⟩ hv, fun q hq => (h11 q hq).moved hv, fun q hq => by obtain ⟨a, ha⟩ := h12 q hq; exact ⟨a, ha.same hvm⟩⟩
/-- the symbols: the script's ints, the char, the number of the call, the length, what is computed of them, the words of bits -/
def rho0 (L9 : Nat) (xs : Nat → Int32) : Nat → Int32 := fun k => match k with
  | 6 => ((xs 2).toUInt32 % 65536).toInt32
  | 7 => xs 0 &&& 63
  | 8 => Int32.ofNat L9
  | 11 => xs 1 - 1
  | 12 => 1 <<< (xs 1 &&& 31)
  | 13 => 1 <<< (xs 1 &&& 31) - 1
  | 14 => 1 <<< (xs 2 &&& 31)
  | 15 => 1 <<< (xs 2 &&& 31) - 1
  | k => xs k
def t9of (xs : Nat → Int32) : Nat := (xs 2).toUInt32.toNat % 65536
def rho (L9 : Nat) (xs : Nat → Int32) : Nat → Int32 := fun k => cond (Nat.ble lbase k) (evK (t9of xs) k) (rho0 L9 xs k)
theorem rho_lr {L9 : Nat} {xs : Nat → Int32} : lrho (rho L9 xs) (t9of xs) := by
  intro k hk
  show cond (Nat.ble lbase k) (evK (t9of xs) k) (rho0 L9 xs k) = _
  rw [Nat.ble_eq_true_of_le hk]
  exact cond_true _ _
theorem rho_dv {L9 : Nat} {xs : Nat → Int32} : sDV (rho L9 xs) sdv := by
  intro op a b k h
  unfold sdv at h
  split at h <;> first
    | exact lop_ok rho_lr h
    | (obtain ⟨h1, h2⟩ := cond_some h; cases h2; cases of_decide_eq_true h1; exact ⟨_, _, rfl, rfl, rfl⟩)
    | (cases h; exact ⟨_, _, rfl, rfl, rfl⟩)
    | cases h
theorem i32_and63 (x : Int32) : 0 ≤ (x &&& 63).toInt ∧ (x &&& 63).toInt ≤ 63 := by
  have h1 : (x &&& 63).toBitVec = x.toBitVec &&& 63#32 := rfl
  have h2 : (x.toBitVec &&& 63#32).toNat ≤ 63 := by
    rw [BitVec.toNat_and]
    exact Nat.and_le_right
  have h3 : (x &&& 63).toInt = ((x.toBitVec &&& 63#32).toNat : Int) := by
    show (x &&& 63).toBitVec.toInt = _
    rw [h1]
    exact BitVec.toInt_eq_toNat_of_lt (by omega)
  rw [h3]
  omega
theorem i32_char (x : Int32) : 0 ≤ ((x.toUInt32 % 65536).toInt32).toInt ∧ ((x.toUInt32 % 65536).toInt32).toInt ≤ 65535 := by
  have h2 : (x.toUInt32 % 65536).toBitVec.toNat ≤ 65535 := by
    show (x.toUInt32 % 65536).toNat ≤ 65535
    rw [UInt32.toNat_mod]
    have := Nat.mod_lt x.toUInt32.toNat (y := 65536) (by decide)
    show x.toUInt32.toNat % 65536 ≤ 65535
    omega
  have h3 : ((x.toUInt32 % 65536).toInt32).toInt = ((x.toUInt32 % 65536).toBitVec.toNat : Int) := by
    show (x.toUInt32 % 65536).toBitVec.toInt = _
    exact BitVec.toInt_eq_toNat_of_lt (by omega)
  rw [h3]
  omega
theorem rho_sat {L9 : Nat} {xs : Nat → Int32} {op len : sB} (h7 : sIn op (xs 0 &&& 63).toInt) (h8 : sIn len (Int32.ofNat L9).toInt) : sSat (rho L9 xs) (sG0 op len) := by
  intro k b hk
  match k, hk with
  | 0, hk => cases hk; exact i32_full _
  | 1, hk => cases hk; exact i32_full _
  | 2, hk => cases hk; exact i32_full _
  | 3, hk => cases hk; exact i32_full _
  | 4, hk => cases hk; exact i32_full _
  | 5, hk => cases hk; exact i32_full _
  | 6, hk => cases hk; exact ⟨(i32_char _).1, (i32_char _).2, fun e he => by cases he⟩
  | 7, hk => cases hk; exact h7
  | 8, hk => cases hk; exact h8
  | 9, hk => cases hk; exact i32_full _
  | 10, hk => cases hk; exact i32_full _
  | 11, hk => cases hk; exact i32_full _
  | 12, hk => cases hk; exact i32_full _
  | 13, hk => cases hk; exact i32_full _
  | 14, hk => cases hk; exact i32_full _
  | 15, hk => cases hk; exact i32_full _
  | n + 16, hk => cases hk
theorem ofNat6 {L9 : Nat} (h : L9 ≤ 6) : (Int32.ofNat L9).toInt = (L9 : Int) := by
  match L9, h with
  | 0, _ => rfl
  | 1, _ => rfl
  | 2, _ => rfl
  | 3, _ => rfl
  | 4, _ => rfl
  | 5, _ => rfl
  | 6, _ => rfl
  | n + 7, h => omega
theorem XX_len2 {L9 : Nat} {xs ys : Nat → Int32} : kLen TT cl6 (XX L9 xs) (rho L9 ys) slen := by
  intro k v hk mi fr lo P PX kc ks pc L S M d kk
  unfold slen at hk
  split at hk
  · cases hk; exact lx_xlen (k := 1) d (by decide) (fun A sp U H h => ⟨h.2.2.2.2.2.2.1, h.2.2.2.2.2.2.2.2.1⟩) kk
  · cases hk; exact lx_sarraylength (k := 2) (N := 6) (f := fun j => .long (hhv j)) d (by decide) (fun A sp U H h => h.2.2.2.2.2.1) kk
  · cases hk; exact lx_sarraylength (k := 3) (N := 0) (f := fun _ => .null) d (by decide) (fun A sp U H h => h.2.2.2.1) kk
  · cases hk
theorem XX_scr2 {L9 : Nat} {xs ys : Nat → Int32} (h : L9 ≤ 6) (hy : ∀ j : Nat, j < 6 → ys j = xs j) : kScr (XX L9 xs) (rho L9 ys) := by
  refine ⟨L9, xs, fun A sp U H h => ⟨h.2.2.2.2.2.2.1, h.2.2.2.2.2.2.2.2.1⟩, h, ofNat6 h, fun j hj => ?_⟩
  match j, hj with
  | 0, _ => exact hy 0 (by decide)
  | 1, _ => exact hy 1 (by decide)
  | 2, _ => exact hy 2 (by decide)
  | 3, _ => exact hy 3 (by decide)
  | 4, _ => exact hy 4 (by decide)
  | 5, _ => exact hy 5 (by decide)
  | n + 6, h => omega
theorem hx_all {L9 : Nat} {xs ys : Nat → Int32} (hL : L9 ≤ 6) (hy : ∀ j : Nat, j < 6 → ys j = xs j) : HX (XX L9 xs) (rho L9 ys) (t9of ys) :=
  ⟨XX_ok, fun _ _ _ _ h => ⟨h.1, h.2.1⟩, fun _ _ _ _ h => h.2.2.1, fun _ _ _ _ h => h.2.2.2.2.2.2.2.2.2.1, fun q hq _ _ _ _ h => h.2.2.2.2.2.2.2.2.2.2.1 q hq, fun q hq _ _ _ _ h => h.2.2.2.2.2.2.2.2.2.2.2 q hq, XX_len2, XX_scr2 hL hy, rho_dv, mul_ok, fun _ _ _ _ h => h.2.2.2.2.1, fun _ _ _ _ h => h.2.2.2.2.2.1, rho_lr, rfl⟩
/-- the loop of areSame -/
theorem same9 {L9 : Nat} {xs : Nat → Int32} (hL : L9 ≤ 6) : opOK TT cl6 (XX L9 xs) mis en (rho L9 xs) 199 29 oSame := by
  refine same_ok (hx_all hL (fun _ _ => rfl)) (fun x y => ?_) (fun pc d => same_k d)
  refine ⟨rho L9 (fun k => if k = 16 then x else if k = 17 then y else xs k), ?_, rfl, rfl, rfl⟩
  have h := hx_all (xs := xs) (ys := fun k => if k = 16 then x else if k = 17 then y else xs k) hL (fun j hj => by
    show (if j = 16 then x else if j = 17 then y else xs j) = xs j
    rw [if_neg (by omega), if_neg (by omega)])
  exact h
theorem law_lx {X : XT} {ρ : Nat → Int32} {t9 : Nat} (h : HX X ρ t9) (k9 : opOK TT cl6 X mis en ρ 199 29 oSame) {n d : Nat} {op len : sB} (hr : srun n d op len = true) (hs : sSat ρ (sG0 op len)) :
    ∃ kc ks, kc ≤ 600006 ∧ ks ≤ 7302064 ∧ LX TT cl6 X (mis 94) (40 + d) (1000 + 200 * d) (fun v _ => v = some (.int 1)) (fun _ _ => False) kc ks 0 [(0, .retAddr 1)] [] [] := by
  unfold srun at hr
  split at hr
  · rename_i r hr1
    simp only [Bool.and_eq_true] at hr
    obtain ⟨⟨h1, h2⟩, h3⟩ := hr
    refine ⟨r.2.1, r.2.2, Nat.le_of_ble_eq_true h2, Nat.le_of_ble_eq_true h3, fx_ok (rows_ok h k9) n d 94 _ 0 _ _ _ r hr1 hs _ _ (fun lf hlf _ => ?_)⟩
    have h4 := List.all_eq_true.mp h1 lf hlf
    unfold sret1 at h4
    split at h4
    · rename_i x hx
      unfold slf
      rw [hx]
      show some (Value.int x) = _
      rw [of_decide_eq_true h4]
    · cases h4
  · cases hr
end ST2
