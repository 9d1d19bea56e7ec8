section ST1
variable {X : XT} {L9 : Nat} {xs : Nat → Int32} {sh : sM} {I : mI} {J : mJ}

variable {D : mF} {P : Option Value → mF → Prop} {PX : String → mF → Prop} {kc ks : Nat}

/-- lines that are unlike where it counts -/
def dbit (J : mJ) (w a b : Nat) (inv : Bool) (i : Nat) : Bool := ((lb (J 26 (a * w + i / 64)) (i % 64) ^^ lb (J 26 (b * w + i / 64)) (i % 64)) ^^ inv) && kbit J i
/-- a node of the tree that is a leaf -/
def lfb (J : mJ) (w a b : Nat) (inv : Bool) (m : Nat) : Bool :=
  (lb (J 28 (a * w + m / 64)) (m % 64) && lb (J (if inv then 27 else 28) (b * w + m / 64)) (m % 64) || lb (J 27 (a * w + m / 64)) (m % 64) && lb (J (if inv then 28 else 27) (b * w + m / 64)) (m % 64)) || lb (J 30 (m / 64)) (m % 64)
def FDq (J : mJ) (w a b : Nat) (inv : Bool) (r : Int) : Prop := (r = -1 ∧ ∀ i, i < 64 * w → dbit J w a b inv i = false) ∨ ∃ i : Nat, i < 64 * w ∧ r = (i : Int) ∧ dbit J w a b inv i = true ∧ ∀ j, j < i → dbit J w a b inv j = false
def unl (J : mJ) (w a b : Nat) (inv : Bool) (u : Nat) : Int64 := ((J 26 (a * w + u) ^^^ J 26 (b * w + u)) ^^^ (if inv then Int64.ofInt (-1) else Int64.ofNat ((0 : Fin 2) : Nat))) &&& J 29 u
theorem tn_bit {inv : Bool} {i : Nat} (h : i < 64) : lb (if inv then Int64.ofInt (-1) else Int64.ofNat ((0 : Fin 2) : Nat)) i = inv := by
  cases inv
  · exact lb_0 i
  · exact lb_m1 i h
theorem unl_bit {w a b u i : Nat} {inv : Bool} (h : i < 64) : lb (unl J w a b inv u) i = dbit J w a b inv (64 * u + i) := by
  unfold unl dbit kbit
  rw [lb_and, lb_xor, lb_xor, tn_bit h, show (64 * u + i) / 64 = u by omega, show (64 * u + i) % 64 = i by omega]
theorem l0_e : (Int64.ofNat ((0 : Fin 2) : Nat)) = 0 := rfl
theorem lg_cmp0 {x : Int64} : lg_cmp x (Int64.ofNat ((0 : Fin 2) : Nat)) = 0 ↔ x = 0 := by
  rw [l0_e]
  unfold lg_cmp
  by_cases q2 : x = 0
  · subst q2
    exact ⟨fun _ => rfl, fun _ => by decide⟩
  · rw [if_neg q2]
    refine ⟨fun e => ?_, fun e => absurd e q2⟩
    split at e
    · exact absurd e (by decide)
    · exact absurd e (by decide)
theorem s_fd_l0 (hx : HX X L9 xs) (hS : clS sh) {n w s : Nat} (hV : clV sh n w) (hn2 : n ≤ 80) (hs : I 15 1 = s) (hw : I 15 2 = w) (hsw : (s ≤ 6 ∧ w = 1) ∨ (s = 7 ∧ w = 2)) {a b : Nat} (ha : a < n) (hb : b < n) {r : Int} (hr : FDq J w a b false r) (hret : P (some (.int (Int32.ofInt (r)))) (hp sh I J)) : ∀ c u : Nat, u + c = w → (∀ i, i < 64 * u → dbit J w a b false i = false) → LXf TT cl6 X mi_S_firstDifference (40 + 3) (1000 + 200 * 3) D P PX kc ks 16 [(6, .int (Int32.ofInt ((u : Nat) : Int))), (4, .long (if false then Int64.ofInt (-1) else Int64.ofNat ((0 : Fin 2) : Nat))), (0, .ref 17), (1, .int (Int32.ofInt ((a : Nat) : Int))), (2, .int (Int32.ofInt ((b : Nat) : Int))), (3, .int (Int32.ofInt ((0 : Nat) : Int)))] [] (hp sh I J) := by
  have hw2 : w ≤ 2 := by omega
  intro c
  induction c with
  | zero =>
    intro u hu hi
    obtain rfl : u = w := by omega
    have hr1 : r = -1 := by
      rcases hr with ⟨e, -⟩ | ⟨i, h1, -, h2, -⟩
      · exact e
      · rw [hi i h1] at h2; cases h2
    subst hr1
    refine lf_iload d_S_firstDifference_16 rfl ?_
    refine lf_aload_n d_S_firstDifference_18 rfl rfl rfl ?_
    refine gi_getr s_S_firstDifference_19 (c_17 hS) rfl ?_
    refine gi_geti s_S_firstDifference_22 (c_15 hV) rfl ?_
    refine gi_top hw ?_
    refine gi_icmp_ge d_S_firstDifference_25 (tgt := 89) (by decide) (by omega) (fun hb25 => ?_) (fun hb25 => False.elim (by omega))
    refine lf_iconst d_S_firstDifference_89 (v := Int32.ofInt (-1)) rfl ?_
    exact lf_ireturn d_S_firstDifference_90 rfl rfl hret
  | succ c ih =>
    intro u hu hi
    refine lf_iload d_S_firstDifference_16 rfl ?_
    refine lf_aload_n d_S_firstDifference_18 rfl rfl rfl ?_
    refine gi_getr s_S_firstDifference_19 (c_17 hS) rfl ?_
    refine gi_geti s_S_firstDifference_22 (c_15 hV) rfl ?_
    refine gi_top hw ?_
    refine gi_icmp_ge d_S_firstDifference_25 (tgt := 89) (by decide) (by omega) (fun hb25 => False.elim (by omega)) (fun hb25 => ?_)
    refine lf_aload_n d_S_firstDifference_28 rfl rfl rfl ?_
    refine gi_getr s_S_firstDifference_29 (c_17 hS) rfl ?_
    refine lf_iload_n d_S_firstDifference_32 rfl rfl ?_
    refine lf_iload d_S_firstDifference_33 rfl ?_
    refine gw_callP s_S_firstDifference_35 (v_heldWord hx hV hn2 hw2 hw (by omega) (by omega)) (S := []) rfl rfl (gcR_2 (c_15 hV)) (by decide) (by decide +kernel) (Nat.le_of_ble_eq_true rfl) ?_
    refine lf_aload_n d_S_firstDifference_38 rfl rfl rfl ?_
    refine gi_getr s_S_firstDifference_39 (c_17 hS) rfl ?_
    refine lf_iload_n d_S_firstDifference_42 rfl rfl ?_
    refine lf_iload d_S_firstDifference_43 rfl ?_
    refine gw_callP s_S_firstDifference_45 (v_heldWord hx hV hn2 hw2 hw (by omega) (by omega)) (S := [_]) rfl rfl (gcR_2 (c_15 hV)) (by decide) (by decide +kernel) (Nat.le_of_ble_eq_true rfl) ?_
    refine lf_lxor d_S_firstDifference_48 ?_
    refine lf_lload d_S_firstDifference_49 rfl ?_
    refine lf_lxor d_S_firstDifference_51 ?_
    refine lf_aload_n d_S_firstDifference_52 rfl rfl rfl ?_
    refine gi_getr s_S_firstDifference_53 (c_17 hS) rfl ?_
    refine lf_iload d_S_firstDifference_56 rfl ?_
    refine gw_callP s_S_firstDifference_58 (v_keptWord hx hV hw2 (by omega)) (S := [_]) rfl rfl (gcR_2 (c_15 hV)) (by decide) (by decide +kernel) (Nat.le_of_ble_eq_true rfl) ?_
    refine lf_land d_S_firstDifference_61 ?_
    refine lf_lstore d_S_firstDifference_62 (by decide +kernel) (L2 := [(7, _), (6, _), (4, _), (0, _), (1, _), (2, _), (3, _)]) rfl ?_
    refine lf_lload d_S_firstDifference_64 rfl ?_
    refine lf_lconst d_S_firstDifference_66 rfl ?_
    refine lf_lcmp d_S_firstDifference_67 ?_
    refine lf_if_eq d_S_firstDifference_68 (tgt := 83) (by decide) (fun hb68 => ?_) (fun hb68 => ?_)
    · refine gi_iincN d_S_firstDifference_83 rfl (by decide +kernel) (L2 := [(6, _), (7, _), (4, _), (0, _), (1, _), (2, _), (3, _)]) rfl ?_
      refine lf_goto d_S_firstDifference_86 (tgt := 16) (by decide) ?_
      refine lf_sub [0, 2, 3, 4, 5, 6] rfl ?_
      have hz : unl J w a b false u = 0 := lg_cmp0.mp hb68
      refine ih (u + 1) (by omega) (fun i hi2 => ?_)
      rcases Nat.lt_or_ge i (64 * u) with q | q
      · exact hi i q
      · have e := unl_bit (J := J) (w := w) (a := a) (b := b) (u := u) (i := i - 64 * u) (inv := false) (by omega)
        rw [show 64 * u + (i - 64 * u) = i by omega, hz, lb_0] at e
        exact e.symm
    · refine lf_bipush d_S_firstDifference_71 (v := Int32.ofInt ((64 : Nat) : Int)) (by decide +kernel) ?_
      refine lf_iload d_S_firstDifference_73 rfl ?_
      refine gi_imulN (a := 64) (b := u) d_S_firstDifference_75 ?_
      refine lf_lload d_S_firstDifference_76 rfl ?_
      refine gw_callP s_S_firstDifference_78 (m_lowestBit hx) (S := [_]) rfl rfl gcR_4 (by decide) (by decide +kernel) (Nat.le_of_ble_eq_true rfl) ?_
      refine gi_iaddN (a := (64 * u)) (b := (cb (lb _) 64)) d_S_firstDifference_81 ?_
      have hz : ¬ unl J w a b false u = 0 := fun e => hb68 (lg_cmp0.mpr e)
      obtain ⟨t, h1, h2, h3, h4⟩ := low_bit hz
      have hr1 : r = ((64 * u + t : Nat) : Int) := by
        rw [unl_bit h1] at h2
        rcases hr with ⟨e, g⟩ | ⟨i, g1, g2, g3, g4⟩
        · rw [g _ (by omega)] at h2; cases h2
        · rw [g2]
          have e : i = 64 * u + t := by
            rcases Nat.lt_trichotomy i (64 * u + t) with q | q | q
            · exfalso
              rcases Nat.lt_or_ge i (64 * u) with q2 | q2
              · rw [hi i q2] at g3; cases g3
              · have := h3 (i - 64 * u) (by omega)
                rw [unl_bit (by omega), show 64 * u + (i - 64 * u) = i by omega, g3] at this
                cases this
            · exact q
            · exfalso
              rw [g4 _ q] at h2; cases h2
          rw [e]
      refine gi_top (b := r) ?_ ?_
      · rw [hr1]
        exact congrArg (fun z : Nat => ((64 * u + z : Nat) : Int)) h4
      · exact lf_ireturn d_S_firstDifference_82 rfl rfl hret
theorem s_firstDifference0 (hx : HX X L9 xs) (hS : clS sh) {n w s : Nat} (hV : clV sh n w) (hn2 : n ≤ 80) (hs : I 15 1 = s) (hw : I 15 2 = w) (hsw : (s ≤ 6 ∧ w = 1) ∨ (s = 7 ∧ w = 2)) {a b : Nat} (ha : a < n) (hb : b < n) {r : Int} (hr : FDq J w a b false r) : EVp TT cl6 X mi_S_firstDifference 3 [.ref 17, .int (Int32.ofInt ((a : Nat) : Int)), .int (Int32.ofInt ((b : Nat) : Int)), .int (Int32.ofInt ((0 : Nat) : Int))] sh I J (.int (Int32.ofInt (r))) := by
  refine gw_enter (hx_ok hx) (by decide +kernel) (Nat.le_of_ble_eq_true rfl) (L := [(0, _), (1, _), (2, _), (3, _)]) rfl ?_
  refine lf_iload_n d_S_firstDifference_0 rfl rfl ?_
  refine gi_if_eq d_S_firstDifference_1 (tgt := 10) (by decide) (by omega) (fun hb1 => ?_) (fun hb1 => False.elim (by omega))
  refine lf_lconst d_S_firstDifference_10 rfl ?_
  refine lf_lstore d_S_firstDifference_11 (by decide +kernel) (L2 := [(4, _), (0, _), (1, _), (2, _), (3, _)]) rfl ?_
  refine lf_iconst d_S_firstDifference_13 (v := Int32.ofInt ((0 : Nat) : Int)) rfl ?_
  refine lf_istore d_S_firstDifference_14 (by decide +kernel) (L2 := [(6, _), (4, _), (0, _), (1, _), (2, _), (3, _)]) rfl ?_
  exact s_fd_l0 hx hS hV hn2 hs hw hsw ha hb hr ⟨_, _, _, rfl, rfl, rfl, rfl, rfl⟩ w 0 (by omega) (fun i hi => absurd hi (Nat.not_lt_zero i))
theorem s_fd_l1 (hx : HX X L9 xs) (hS : clS sh) {n w s : Nat} (hV : clV sh n w) (hn2 : n ≤ 80) (hs : I 15 1 = s) (hw : I 15 2 = w) (hsw : (s ≤ 6 ∧ w = 1) ∨ (s = 7 ∧ w = 2)) {a b : Nat} (ha : a < n) (hb : b < n) {r : Int} (hr : FDq J w a b true r) (hret : P (some (.int (Int32.ofInt (r)))) (hp sh I J)) : ∀ c u : Nat, u + c = w → (∀ i, i < 64 * u → dbit J w a b true i = false) → LXf TT cl6 X mi_S_firstDifference (40 + 3) (1000 + 200 * 3) D P PX kc ks 16 [(6, .int (Int32.ofInt ((u : Nat) : Int))), (4, .long (if true then Int64.ofInt (-1) else Int64.ofNat ((0 : Fin 2) : Nat))), (0, .ref 17), (1, .int (Int32.ofInt ((a : Nat) : Int))), (2, .int (Int32.ofInt ((b : Nat) : Int))), (3, .int (Int32.ofInt ((1 : Nat) : Int)))] [] (hp sh I J) := by
  have hw2 : w ≤ 2 := by omega
  intro c
  induction c with
  | zero =>
    intro u hu hi
    obtain rfl : u = w := by omega
    have hr1 : r = -1 := by
      rcases hr with ⟨e, -⟩ | ⟨i, h1, -, h2, -⟩
      · exact e
      · rw [hi i h1] at h2; cases h2
    subst hr1
    refine lf_iload d_S_firstDifference_16 rfl ?_
    refine lf_aload_n d_S_firstDifference_18 rfl rfl rfl ?_
    refine gi_getr s_S_firstDifference_19 (c_17 hS) rfl ?_
    refine gi_geti s_S_firstDifference_22 (c_15 hV) rfl ?_
    refine gi_top hw ?_
    refine gi_icmp_ge d_S_firstDifference_25 (tgt := 89) (by decide) (by omega) (fun hb25 => ?_) (fun hb25 => False.elim (by omega))
    refine lf_iconst d_S_firstDifference_89 (v := Int32.ofInt (-1)) rfl ?_
    exact lf_ireturn d_S_firstDifference_90 rfl rfl hret
  | succ c ih =>
    intro u hu hi
    refine lf_iload d_S_firstDifference_16 rfl ?_
    refine lf_aload_n d_S_firstDifference_18 rfl rfl rfl ?_
    refine gi_getr s_S_firstDifference_19 (c_17 hS) rfl ?_
    refine gi_geti s_S_firstDifference_22 (c_15 hV) rfl ?_
    refine gi_top hw ?_
    refine gi_icmp_ge d_S_firstDifference_25 (tgt := 89) (by decide) (by omega) (fun hb25 => False.elim (by omega)) (fun hb25 => ?_)
    refine lf_aload_n d_S_firstDifference_28 rfl rfl rfl ?_
    refine gi_getr s_S_firstDifference_29 (c_17 hS) rfl ?_
    refine lf_iload_n d_S_firstDifference_32 rfl rfl ?_
    refine lf_iload d_S_firstDifference_33 rfl ?_
    refine gw_callP s_S_firstDifference_35 (v_heldWord hx hV hn2 hw2 hw (by omega) (by omega)) (S := []) rfl rfl (gcR_2 (c_15 hV)) (by decide) (by decide +kernel) (Nat.le_of_ble_eq_true rfl) ?_
    refine lf_aload_n d_S_firstDifference_38 rfl rfl rfl ?_
    refine gi_getr s_S_firstDifference_39 (c_17 hS) rfl ?_
    refine lf_iload_n d_S_firstDifference_42 rfl rfl ?_
    refine lf_iload d_S_firstDifference_43 rfl ?_
    refine gw_callP s_S_firstDifference_45 (v_heldWord hx hV hn2 hw2 hw (by omega) (by omega)) (S := [_]) rfl rfl (gcR_2 (c_15 hV)) (by decide) (by decide +kernel) (Nat.le_of_ble_eq_true rfl) ?_
    refine lf_lxor d_S_firstDifference_48 ?_
    refine lf_lload d_S_firstDifference_49 rfl ?_
    refine lf_lxor d_S_firstDifference_51 ?_
    refine lf_aload_n d_S_firstDifference_52 rfl rfl rfl ?_
    refine gi_getr s_S_firstDifference_53 (c_17 hS) rfl ?_
    refine lf_iload d_S_firstDifference_56 rfl ?_
    refine gw_callP s_S_firstDifference_58 (v_keptWord hx hV hw2 (by omega)) (S := [_]) rfl rfl (gcR_2 (c_15 hV)) (by decide) (by decide +kernel) (Nat.le_of_ble_eq_true rfl) ?_
    refine lf_land d_S_firstDifference_61 ?_
    refine lf_lstore d_S_firstDifference_62 (by decide +kernel) (L2 := [(7, _), (6, _), (4, _), (0, _), (1, _), (2, _), (3, _)]) rfl ?_
    refine lf_lload d_S_firstDifference_64 rfl ?_
    refine lf_lconst d_S_firstDifference_66 rfl ?_
    refine lf_lcmp d_S_firstDifference_67 ?_
    refine lf_if_eq d_S_firstDifference_68 (tgt := 83) (by decide) (fun hb68 => ?_) (fun hb68 => ?_)
    · refine gi_iincN d_S_firstDifference_83 rfl (by decide +kernel) (L2 := [(6, _), (7, _), (4, _), (0, _), (1, _), (2, _), (3, _)]) rfl ?_
      refine lf_goto d_S_firstDifference_86 (tgt := 16) (by decide) ?_
      refine lf_sub [0, 2, 3, 4, 5, 6] rfl ?_
      have hz : unl J w a b true u = 0 := lg_cmp0.mp hb68
      refine ih (u + 1) (by omega) (fun i hi2 => ?_)
      rcases Nat.lt_or_ge i (64 * u) with q | q
      · exact hi i q
      · have e := unl_bit (J := J) (w := w) (a := a) (b := b) (u := u) (i := i - 64 * u) (inv := true) (by omega)
        rw [show 64 * u + (i - 64 * u) = i by omega, hz, lb_0] at e
        exact e.symm
    · refine lf_bipush d_S_firstDifference_71 (v := Int32.ofInt ((64 : Nat) : Int)) (by decide +kernel) ?_
      refine lf_iload d_S_firstDifference_73 rfl ?_
      refine gi_imulN (a := 64) (b := u) d_S_firstDifference_75 ?_
      refine lf_lload d_S_firstDifference_76 rfl ?_
      refine gw_callP s_S_firstDifference_78 (m_lowestBit hx) (S := [_]) rfl rfl gcR_4 (by decide) (by decide +kernel) (Nat.le_of_ble_eq_true rfl) ?_
      refine gi_iaddN (a := (64 * u)) (b := (cb (lb _) 64)) d_S_firstDifference_81 ?_
      have hz : ¬ unl J w a b true u = 0 := fun e => hb68 (lg_cmp0.mpr e)
      obtain ⟨t, h1, h2, h3, h4⟩ := low_bit hz
      have hr1 : r = ((64 * u + t : Nat) : Int) := by
        rw [unl_bit h1] at h2
        rcases hr with ⟨e, g⟩ | ⟨i, g1, g2, g3, g4⟩
        · rw [g _ (by omega)] at h2; cases h2
        · rw [g2]
          have e : i = 64 * u + t := by
            rcases Nat.lt_trichotomy i (64 * u + t) with q | q | q
            · exfalso
              rcases Nat.lt_or_ge i (64 * u) with q2 | q2
              · rw [hi i q2] at g3; cases g3
              · have := h3 (i - 64 * u) (by omega)
                rw [unl_bit (by omega), show 64 * u + (i - 64 * u) = i by omega, g3] at this
                cases this
            · exact q
            · exfalso
              rw [g4 _ q] at h2; cases h2
          rw [e]
      refine gi_top (b := r) ?_ ?_
      · rw [hr1]
        exact congrArg (fun z : Nat => ((64 * u + z : Nat) : Int)) h4
      · exact lf_ireturn d_S_firstDifference_82 rfl rfl hret
theorem s_firstDifference1 (hx : HX X L9 xs) (hS : clS sh) {n w s : Nat} (hV : clV sh n w) (hn2 : n ≤ 80) (hs : I 15 1 = s) (hw : I 15 2 = w) (hsw : (s ≤ 6 ∧ w = 1) ∨ (s = 7 ∧ w = 2)) {a b : Nat} (ha : a < n) (hb : b < n) {r : Int} (hr : FDq J w a b true r) : EVp TT cl6 X mi_S_firstDifference 3 [.ref 17, .int (Int32.ofInt ((a : Nat) : Int)), .int (Int32.ofInt ((b : Nat) : Int)), .int (Int32.ofInt ((1 : Nat) : Int))] sh I J (.int (Int32.ofInt (r))) := by
  refine gw_enter (hx_ok hx) (by decide +kernel) (Nat.le_of_ble_eq_true rfl) (L := [(0, _), (1, _), (2, _), (3, _)]) rfl ?_
  refine lf_iload_n d_S_firstDifference_0 rfl rfl ?_
  refine gi_if_eq d_S_firstDifference_1 (tgt := 10) (by decide) (by omega) (fun hb1 => False.elim (by omega)) (fun hb1 => ?_)
  refine gi_pushl s_S_firstDifference_4 ?_
  refine lf_goto d_S_firstDifference_7 (tgt := 11) (by decide) ?_
  refine lf_lstore d_S_firstDifference_11 (by decide +kernel) (L2 := [(4, _), (0, _), (1, _), (2, _), (3, _)]) rfl ?_
  refine lf_iconst d_S_firstDifference_13 (v := Int32.ofInt ((0 : Nat) : Int)) rfl ?_
  refine lf_istore d_S_firstDifference_14 (by decide +kernel) (L2 := [(6, _), (4, _), (0, _), (1, _), (2, _), (3, _)]) rfl ?_
  exact s_fd_l1 hx hS hV hn2 hs hw hsw ha hb hr ⟨_, _, _, rfl, rfl, rfl, rfl, rfl⟩ w 0 (by omega) (fun i hi => absurd hi (Nat.not_lt_zero i))
def cbr (p : Nat → Bool) (fr to : Nat) : Nat := cb (fun i => decide (fr ≤ i) && p i) to
def leafW (J : mJ) (w a b : Nat) (inv : Bool) (u : Nat) : Int64 := J 28 (a * w + u) &&& J (if inv then 27 else 28) (b * w + u) ||| J 27 (a * w + u) &&& J (if inv then 28 else 27) (b * w + u) ||| J 30 u
theorem leafW_bit {w a b u i : Nat} {inv : Bool} (h : i < 64) : lb (leafW J w a b inv u) i = lfb J w a b inv (64 * u + i) := by
  unfold leafW lfb
  rw [lb_or, lb_or, lb_and, lb_and, show (64 * u + i) / 64 = u by omega, show (64 * u + i) % 64 = i by omega]
theorem cbr_none {p : Nat → Bool} {fr : Nat} : ∀ n : Nat, n ≤ fr → cbr p fr n = 0 := by
  intro n
  induction n with
  | zero => intro _; rfl
  | succ n ih =>
    intro hn
    show cbr p fr n + (if (decide (fr ≤ n) && p n) = true then 1 else 0) = 0
    rw [ih (by omega), decide_eq_false (show ¬ fr ≤ n by omega), Bool.false_and]
    rfl
theorem cbr_step {p : Nat → Bool} {fr to u : Nat} {x : Int64} (h1 : fr / 64 ≤ u) (h2 : 64 * u < to) (hx : ∀ i, i < 64 → lb x i = (p (64 * u + i) && decide (fr ≤ 64 * u + i) && decide (64 * u + i < to))) :
    cbr p fr (min (64 * u) to) + cb (lb x) 64 = cbr p fr (min (64 * (u + 1)) to) := by
  rw [show min (64 * u) to = 64 * u by omega]
  unfold cbr
  rcases Nat.le_total (64 * (u + 1)) to with q | q
  · rw [show min (64 * (u + 1)) to = 64 * u + 64 by omega, cb_add]
    congr 1
    refine cb_cong (fun i hi => ?_)
    rw [hx i hi, decide_eq_true (show 64 * u + i < to by omega), Bool.and_true, Bool.and_comm]
  · obtain ⟨d, hd⟩ : ∃ d, to = 64 * u + d := ⟨to - 64 * u, by omega⟩
    rw [show min (64 * (u + 1)) to = 64 * u + d by omega, cb_add]
    congr 1
    have e : 64 = d + (64 - d) := by omega
    conv => lhs; rw [e]
    rw [cb_add]
    have z : cb (fun i => lb x (d + i)) (64 - d) = 0 := by
      have : ∀ n, n ≤ 64 - d → cb (fun i => lb x (d + i)) n = 0 := by
        intro n
        induction n with
        | zero => intro _; rfl
        | succ n ih =>
          intro hn
          show cb _ n + (if lb x (d + n) = true then 1 else 0) = 0
          rw [ih (by omega), hx (d + n) (by omega), decide_eq_false (show ¬ 64 * u + (d + n) < to by omega), Bool.and_false]
          rfl
      exact this _ (Nat.le_refl _)
    rw [z, Nat.add_zero]
    refine cb_cong (fun i hi => ?_)
    rw [hx i (by omega), decide_eq_true (show 64 * u + i < to by omega), Bool.and_true, Bool.and_comm]
theorem s_open_l0 (hx : HX X L9 xs) (hS : clS sh) {n w s : Nat} (hV : clV sh n w) (hn2 : n ≤ 80) (hs : I 15 1 = s) (hw : I 15 2 = w) (hsw : (s ≤ 6 ∧ w = 1) ∨ (s = 7 ∧ w = 2)) {a b : Nat} (ha : a < n) (hb : b < n) {fr to : Nat} (hto : to ≤ 64 * w) (k105 : LXf TT cl6 X mi_S_openBetween (40 + 2) (1000 + 200 * 2) D P PX kc ks 105 [(6, .int (Int32.ofInt ((cbr (fun i => !lfb J w a b false i) fr to : Nat) : Int)))] [] (hp sh I J)) : ∀ c u : Nat, (fr / 64 ≤ u) → (64 * u < to + 64) → (to + 63) / 64 ≤ u + c → LXf TT cl6 X mi_S_openBetween (40 + 2) (1000 + 200 * 2) D P PX kc ks 10 [(7, .int (Int32.ofInt ((u : Nat) : Int))), (6, .int (Int32.ofInt ((cbr (fun i => !lfb J w a b false i) fr (min (64 * u) to) : Nat) : Int))), (0, .ref 17), (1, .int (Int32.ofInt ((a : Nat) : Int))), (2, .int (Int32.ofInt ((b : Nat) : Int))), (3, .int (Int32.ofInt ((0 : Nat) : Int))), (4, .int (Int32.ofInt ((fr : Nat) : Int))), (5, .int (Int32.ofInt ((to : Nat) : Int)))] [] (hp sh I J) := by
  have hw2 : w ≤ 2 := by omega
  intro c
  induction c with
  | zero =>
    intro u hfu hu hc
    rw [show min (64 * u) to = to by omega]
    refine lf_bipush d_S_openBetween_10 (v := Int32.ofInt ((64 : Nat) : Int)) (by decide +kernel) ?_
    refine lf_iload d_S_openBetween_12 rfl ?_
    refine gi_imulN (a := 64) (b := u) d_S_openBetween_14 ?_
    refine lf_iload d_S_openBetween_15 rfl ?_
    refine gi_icmp_ge d_S_openBetween_17 (tgt := 105) (by decide) (by omega) (fun hb17 => ?_) (fun hb17 => False.elim (by omega))
    refine lf_sub [1] rfl ?_
    exact k105
  | succ c ih =>
    intro u hfu hu hc
    rcases Nat.lt_or_ge (64 * u) to with hut | hut
    · have huw : u < w := by omega
      refine lf_bipush d_S_openBetween_10 (v := Int32.ofInt ((64 : Nat) : Int)) (by decide +kernel) ?_
      refine lf_iload d_S_openBetween_12 rfl ?_
      refine gi_imulN (a := 64) (b := u) d_S_openBetween_14 ?_
      refine lf_iload d_S_openBetween_15 rfl ?_
      refine gi_icmp_ge d_S_openBetween_17 (tgt := 105) (by decide) (by omega) (fun hb17 => False.elim (by omega)) (fun hb17 => ?_)
      refine lf_aload_n d_S_openBetween_20 rfl rfl rfl ?_
      refine gi_getr s_S_openBetween_21 (c_17 hS) rfl ?_
      refine lf_iload_n d_S_openBetween_24 rfl rfl ?_
      refine lf_iload_n d_S_openBetween_25 rfl rfl ?_
      refine lf_iload_n d_S_openBetween_26 rfl rfl ?_
      refine lf_iload d_S_openBetween_27 rfl ?_
      refine gw_callP s_S_openBetween_29 (v_leafWord0 hx hV hn2 hw2 hw ha hb huw) (S := []) rfl rfl (gcR_2 (c_15 hV)) (by decide) (by decide +kernel) (Nat.le_of_ble_eq_true rfl) ?_
      refine gi_pushl s_S_openBetween_32 ?_
      refine lf_lxor d_S_openBetween_35 ?_
      refine lf_lstore d_S_openBetween_36 (by decide +kernel) (L2 := [(8, _), (7, _), (6, _), (0, _), (1, _), (2, _), (3, _), (4, _), (5, _)]) rfl ?_
      refine lf_bipush d_S_openBetween_38 (v := Int32.ofInt ((64 : Nat) : Int)) (by decide +kernel) ?_
      refine lf_iload d_S_openBetween_40 rfl ?_
      refine gi_imulN (a := 64) (b := u) d_S_openBetween_42 ?_
      refine lf_iload d_S_openBetween_43 rfl ?_
      refine gi_icmp_ge d_S_openBetween_45 (tgt := 62) (by decide) (by omega) (fun hb45 => ?_) (fun hb45 => ?_)
      · refine lf_iload d_S_openBetween_62 rfl ?_
        refine lf_bipush d_S_openBetween_64 (v := Int32.ofInt ((64 : Nat) : Int)) (by decide +kernel) ?_
        refine lf_iload d_S_openBetween_66 rfl ?_
        refine gi_imulN (a := 64) (b := u) d_S_openBetween_68 ?_
        refine gi_isub d_S_openBetween_69 ?_
        refine lf_bipush d_S_openBetween_70 (v := Int32.ofInt ((64 : Nat) : Int)) (by decide +kernel) ?_
        refine gi_icmp_ge d_S_openBetween_72 (tgt := 89) (by decide) (by omega) (fun hb72 => ?_) (fun hb72 => ?_)
        · refine lf_iload d_S_openBetween_89 rfl ?_
          refine lf_lload d_S_openBetween_91 rfl ?_
          refine gw_callP s_S_openBetween_93 (m_bitCount hx) (S := [_]) rfl rfl gcR_1 (by decide) (by decide +kernel) (Nat.le_of_ble_eq_true rfl) ?_
          refine gi_iaddN (a := (cbr (fun i => !lfb J w a b false i) fr (min (64 * u) to))) (b := _) d_S_openBetween_96 ?_
          refine lf_istore d_S_openBetween_97 (by decide +kernel) (L2 := [(6, _), (8, _), (7, _), (0, _), (1, _), (2, _), (3, _), (4, _), (5, _)]) rfl ?_
          refine gi_iincN d_S_openBetween_99 rfl (by decide +kernel) (L2 := [(7, _), (6, _), (8, _), (0, _), (1, _), (2, _), (3, _), (4, _), (5, _)]) rfl ?_
          refine lf_goto d_S_openBetween_102 (tgt := 10) (by decide) ?_
          refine lf_sub [0, 1, 3, 4, 5, 6, 7, 8] rfl ?_
          refine lf_eqL (L1 := [(7, .int (Int32.ofInt ((u + 1 : Nat) : Int))), (6, .int (Int32.ofInt ((cbr (fun i => !lfb J w a b false i) fr (min (64 * (u + 1)) to) : Nat) : Int))), (0, .ref 17), (1, .int (Int32.ofInt ((a : Nat) : Int))), (2, .int (Int32.ofInt ((b : Nat) : Int))), (3, .int (Int32.ofInt ((0 : Nat) : Int))), (4, .int (Int32.ofInt ((fr : Nat) : Int))), (5, .int (Int32.ofInt ((to : Nat) : Int)))]) ?_ (ih (u + 1) (by omega) (by omega) (by omega))
          refine congrArg (fun z : Nat => ([(7, .int (Int32.ofInt ((u + 1 : Nat) : Int))), (6, .int (Int32.ofInt ((z : Nat) : Int))), (0, .ref 17), (1, .int (Int32.ofInt ((a : Nat) : Int))), (2, .int (Int32.ofInt ((b : Nat) : Int))), (3, .int (Int32.ofInt ((0 : Nat) : Int))), (4, .int (Int32.ofInt ((fr : Nat) : Int))), (5, .int (Int32.ofInt ((to : Nat) : Int)))] : List (Nat × Value))) (cbr_step (p := (fun i => !lfb J w a b false i)) hfu hut (fun i hi => ?_))
          have e1 := leafW_bit (J := J) (w := w) (a := a) (b := b) (u := u) (inv := false) hi
          unfold leafW at e1
          have em1 := lb_m1 i hi
          first
            | (rw [lb_and, lb_and, lb_xor, lb_low (by omega) hi, lb_shl (by omega) hi]
               rw [show lb (Int64.ofInt (-1)) i = true from em1, show lb (Int64.ofInt (-1)) (i - fr % 64) = true from lb_m1 _ (by omega)]
               refine Eq.trans (congrArg (fun z => ((z ^^ true) && (decide (fr % 64 ≤ i) && true)) && decide (i < to % 64)) e1) ?_
               rw [Bool.xor_true, Bool.and_true, show decide (fr % 64 ≤ i) = decide (fr ≤ 64 * u + i) from decide_eq_decide.mpr (by omega), show decide (i < to % 64) = decide (64 * u + i < to) from decide_eq_decide.mpr (by omega)])
            | (rw [lb_and, lb_xor, lb_low (by omega) hi]
               rw [show lb (Int64.ofInt (-1)) i = true from em1]
               refine Eq.trans (congrArg (fun z => (z ^^ true) && decide (i < to % 64)) e1) ?_
               rw [Bool.xor_true, show decide (fr ≤ 64 * u + i) = true from decide_eq_true (by omega), Bool.and_true, show decide (i < to % 64) = decide (64 * u + i < to) from decide_eq_decide.mpr (by omega)])
            | (rw [lb_and, lb_xor, lb_shl (by omega) hi]
               rw [show lb (Int64.ofInt (-1)) i = true from em1, show lb (Int64.ofInt (-1)) (i - fr % 64) = true from lb_m1 _ (by omega)]
               refine Eq.trans (congrArg (fun z => (z ^^ true) && (decide (fr % 64 ≤ i) && true)) e1) ?_
               rw [Bool.xor_true, Bool.and_true, show decide (fr % 64 ≤ i) = decide (fr ≤ 64 * u + i) from decide_eq_decide.mpr (by omega), show decide (64 * u + i < to) = true from decide_eq_true (by omega), Bool.and_true])
            | (rw [lb_xor]
               rw [show lb (Int64.ofInt (-1)) i = true from em1]
               refine Eq.trans (congrArg (fun z => (z ^^ true)) e1) ?_
               rw [Bool.xor_true, show decide (fr ≤ 64 * u + i) = true from decide_eq_true (by omega), show decide (64 * u + i < to) = true from decide_eq_true (by omega), Bool.and_true, Bool.and_true])
        · refine lf_lload d_S_openBetween_75 rfl ?_
          refine lf_lconst d_S_openBetween_77 rfl ?_
          refine lf_iload d_S_openBetween_78 rfl ?_
          refine lf_bipush d_S_openBetween_80 (v := Int32.ofInt ((63 : Nat) : Int)) (by decide +kernel) ?_
          refine gi_iandN (a := to) (b := 63) d_S_openBetween_82 ?_
          refine gi_top (show ((to &&& 63 : Nat) : Int) = ((to % 64 : Nat) : Int) from by rw [show (63 : Nat) = 2 ^ 6 - 1 from rfl, Nat.and_two_pow_sub_one_eq_mod]) ?_
          refine lf_lshl d_S_openBetween_83 ?_
          refine lf_lconst d_S_openBetween_84 rfl ?_
          refine lf_lsub d_S_openBetween_85 ?_
          refine lf_land d_S_openBetween_86 ?_
          refine lf_lstore d_S_openBetween_87 (by decide +kernel) (L2 := [(8, _), (7, _), (6, _), (0, _), (1, _), (2, _), (3, _), (4, _), (5, _)]) rfl ?_
          refine lf_iload d_S_openBetween_89 rfl ?_
          refine lf_lload d_S_openBetween_91 rfl ?_
          refine gw_callP s_S_openBetween_93 (m_bitCount hx) (S := [_]) rfl rfl gcR_1 (by decide) (by decide +kernel) (Nat.le_of_ble_eq_true rfl) ?_
          refine gi_iaddN (a := (cbr (fun i => !lfb J w a b false i) fr (min (64 * u) to))) (b := _) d_S_openBetween_96 ?_
          refine lf_istore d_S_openBetween_97 (by decide +kernel) (L2 := [(6, _), (8, _), (7, _), (0, _), (1, _), (2, _), (3, _), (4, _), (5, _)]) rfl ?_
          refine gi_iincN d_S_openBetween_99 rfl (by decide +kernel) (L2 := [(7, _), (6, _), (8, _), (0, _), (1, _), (2, _), (3, _), (4, _), (5, _)]) rfl ?_
          refine lf_goto d_S_openBetween_102 (tgt := 10) (by decide) ?_
          refine lf_sub [0, 1, 3, 4, 5, 6, 7, 8] rfl ?_
          refine lf_eqL (L1 := [(7, .int (Int32.ofInt ((u + 1 : Nat) : Int))), (6, .int (Int32.ofInt ((cbr (fun i => !lfb J w a b false i) fr (min (64 * (u + 1)) to) : Nat) : Int))), (0, .ref 17), (1, .int (Int32.ofInt ((a : Nat) : Int))), (2, .int (Int32.ofInt ((b : Nat) : Int))), (3, .int (Int32.ofInt ((0 : Nat) : Int))), (4, .int (Int32.ofInt ((fr : Nat) : Int))), (5, .int (Int32.ofInt ((to : Nat) : Int)))]) ?_ (ih (u + 1) (by omega) (by omega) (by omega))
          refine congrArg (fun z : Nat => ([(7, .int (Int32.ofInt ((u + 1 : Nat) : Int))), (6, .int (Int32.ofInt ((z : Nat) : Int))), (0, .ref 17), (1, .int (Int32.ofInt ((a : Nat) : Int))), (2, .int (Int32.ofInt ((b : Nat) : Int))), (3, .int (Int32.ofInt ((0 : Nat) : Int))), (4, .int (Int32.ofInt ((fr : Nat) : Int))), (5, .int (Int32.ofInt ((to : Nat) : Int)))] : List (Nat × Value))) (cbr_step (p := (fun i => !lfb J w a b false i)) hfu hut (fun i hi => ?_))
          have e1 := leafW_bit (J := J) (w := w) (a := a) (b := b) (u := u) (inv := false) hi
          unfold leafW at e1
          have em1 := lb_m1 i hi
          first
            | (rw [lb_and, lb_and, lb_xor, lb_low (by omega) hi, lb_shl (by omega) hi]
               rw [show lb (Int64.ofInt (-1)) i = true from em1, show lb (Int64.ofInt (-1)) (i - fr % 64) = true from lb_m1 _ (by omega)]
               refine Eq.trans (congrArg (fun z => ((z ^^ true) && (decide (fr % 64 ≤ i) && true)) && decide (i < to % 64)) e1) ?_
               rw [Bool.xor_true, Bool.and_true, show decide (fr % 64 ≤ i) = decide (fr ≤ 64 * u + i) from decide_eq_decide.mpr (by omega), show decide (i < to % 64) = decide (64 * u + i < to) from decide_eq_decide.mpr (by omega)])
            | (rw [lb_and, lb_xor, lb_low (by omega) hi]
               rw [show lb (Int64.ofInt (-1)) i = true from em1]
               refine Eq.trans (congrArg (fun z => (z ^^ true) && decide (i < to % 64)) e1) ?_
               rw [Bool.xor_true, show decide (fr ≤ 64 * u + i) = true from decide_eq_true (by omega), Bool.and_true, show decide (i < to % 64) = decide (64 * u + i < to) from decide_eq_decide.mpr (by omega)])
            | (rw [lb_and, lb_xor, lb_shl (by omega) hi]
               rw [show lb (Int64.ofInt (-1)) i = true from em1, show lb (Int64.ofInt (-1)) (i - fr % 64) = true from lb_m1 _ (by omega)]
               refine Eq.trans (congrArg (fun z => (z ^^ true) && (decide (fr % 64 ≤ i) && true)) e1) ?_
               rw [Bool.xor_true, Bool.and_true, show decide (fr % 64 ≤ i) = decide (fr ≤ 64 * u + i) from decide_eq_decide.mpr (by omega), show decide (64 * u + i < to) = true from decide_eq_true (by omega), Bool.and_true])
            | (rw [lb_xor]
               rw [show lb (Int64.ofInt (-1)) i = true from em1]
               refine Eq.trans (congrArg (fun z => (z ^^ true)) e1) ?_
               rw [Bool.xor_true, show decide (fr ≤ 64 * u + i) = true from decide_eq_true (by omega), show decide (64 * u + i < to) = true from decide_eq_true (by omega), Bool.and_true, Bool.and_true])
      · refine lf_lload d_S_openBetween_48 rfl ?_
        refine gi_pushl s_S_openBetween_50 ?_
        refine lf_iload d_S_openBetween_53 rfl ?_
        refine lf_bipush d_S_openBetween_55 (v := Int32.ofInt ((63 : Nat) : Int)) (by decide +kernel) ?_
        refine gi_iandN (a := fr) (b := 63) d_S_openBetween_57 ?_
        refine gi_top (show ((fr &&& 63 : Nat) : Int) = ((fr % 64 : Nat) : Int) from by rw [show (63 : Nat) = 2 ^ 6 - 1 from rfl, Nat.and_two_pow_sub_one_eq_mod]) ?_
        refine lf_lshl d_S_openBetween_58 ?_
        refine lf_land d_S_openBetween_59 ?_
        refine lf_lstore d_S_openBetween_60 (by decide +kernel) (L2 := [(8, _), (7, _), (6, _), (0, _), (1, _), (2, _), (3, _), (4, _), (5, _)]) rfl ?_
        refine lf_iload d_S_openBetween_62 rfl ?_
        refine lf_bipush d_S_openBetween_64 (v := Int32.ofInt ((64 : Nat) : Int)) (by decide +kernel) ?_
        refine lf_iload d_S_openBetween_66 rfl ?_
        refine gi_imulN (a := 64) (b := u) d_S_openBetween_68 ?_
        refine gi_isub d_S_openBetween_69 ?_
        refine lf_bipush d_S_openBetween_70 (v := Int32.ofInt ((64 : Nat) : Int)) (by decide +kernel) ?_
        refine gi_icmp_ge d_S_openBetween_72 (tgt := 89) (by decide) (by omega) (fun hb72 => ?_) (fun hb72 => ?_)
        · refine lf_iload d_S_openBetween_89 rfl ?_
          refine lf_lload d_S_openBetween_91 rfl ?_
          refine gw_callP s_S_openBetween_93 (m_bitCount hx) (S := [_]) rfl rfl gcR_1 (by decide) (by decide +kernel) (Nat.le_of_ble_eq_true rfl) ?_
          refine gi_iaddN (a := (cbr (fun i => !lfb J w a b false i) fr (min (64 * u) to))) (b := _) d_S_openBetween_96 ?_
          refine lf_istore d_S_openBetween_97 (by decide +kernel) (L2 := [(6, _), (8, _), (7, _), (0, _), (1, _), (2, _), (3, _), (4, _), (5, _)]) rfl ?_
          refine gi_iincN d_S_openBetween_99 rfl (by decide +kernel) (L2 := [(7, _), (6, _), (8, _), (0, _), (1, _), (2, _), (3, _), (4, _), (5, _)]) rfl ?_
          refine lf_goto d_S_openBetween_102 (tgt := 10) (by decide) ?_
          refine lf_sub [0, 1, 3, 4, 5, 6, 7, 8] rfl ?_
          refine lf_eqL (L1 := [(7, .int (Int32.ofInt ((u + 1 : Nat) : Int))), (6, .int (Int32.ofInt ((cbr (fun i => !lfb J w a b false i) fr (min (64 * (u + 1)) to) : Nat) : Int))), (0, .ref 17), (1, .int (Int32.ofInt ((a : Nat) : Int))), (2, .int (Int32.ofInt ((b : Nat) : Int))), (3, .int (Int32.ofInt ((0 : Nat) : Int))), (4, .int (Int32.ofInt ((fr : Nat) : Int))), (5, .int (Int32.ofInt ((to : Nat) : Int)))]) ?_ (ih (u + 1) (by omega) (by omega) (by omega))
          refine congrArg (fun z : Nat => ([(7, .int (Int32.ofInt ((u + 1 : Nat) : Int))), (6, .int (Int32.ofInt ((z : Nat) : Int))), (0, .ref 17), (1, .int (Int32.ofInt ((a : Nat) : Int))), (2, .int (Int32.ofInt ((b : Nat) : Int))), (3, .int (Int32.ofInt ((0 : Nat) : Int))), (4, .int (Int32.ofInt ((fr : Nat) : Int))), (5, .int (Int32.ofInt ((to : Nat) : Int)))] : List (Nat × Value))) (cbr_step (p := (fun i => !lfb J w a b false i)) hfu hut (fun i hi => ?_))
          have e1 := leafW_bit (J := J) (w := w) (a := a) (b := b) (u := u) (inv := false) hi
          unfold leafW at e1
          have em1 := lb_m1 i hi
          first
            | (rw [lb_and, lb_and, lb_xor, lb_low (by omega) hi, lb_shl (by omega) hi]
               rw [show lb (Int64.ofInt (-1)) i = true from em1, show lb (Int64.ofInt (-1)) (i - fr % 64) = true from lb_m1 _ (by omega)]
               refine Eq.trans (congrArg (fun z => ((z ^^ true) && (decide (fr % 64 ≤ i) && true)) && decide (i < to % 64)) e1) ?_
               rw [Bool.xor_true, Bool.and_true, show decide (fr % 64 ≤ i) = decide (fr ≤ 64 * u + i) from decide_eq_decide.mpr (by omega), show decide (i < to % 64) = decide (64 * u + i < to) from decide_eq_decide.mpr (by omega)])
            | (rw [lb_and, lb_xor, lb_low (by omega) hi]
               rw [show lb (Int64.ofInt (-1)) i = true from em1]
               refine Eq.trans (congrArg (fun z => (z ^^ true) && decide (i < to % 64)) e1) ?_
               rw [Bool.xor_true, show decide (fr ≤ 64 * u + i) = true from decide_eq_true (by omega), Bool.and_true, show decide (i < to % 64) = decide (64 * u + i < to) from decide_eq_decide.mpr (by omega)])
            | (rw [lb_and, lb_xor, lb_shl (by omega) hi]
               rw [show lb (Int64.ofInt (-1)) i = true from em1, show lb (Int64.ofInt (-1)) (i - fr % 64) = true from lb_m1 _ (by omega)]
               refine Eq.trans (congrArg (fun z => (z ^^ true) && (decide (fr % 64 ≤ i) && true)) e1) ?_
               rw [Bool.xor_true, Bool.and_true, show decide (fr % 64 ≤ i) = decide (fr ≤ 64 * u + i) from decide_eq_decide.mpr (by omega), show decide (64 * u + i < to) = true from decide_eq_true (by omega), Bool.and_true])
            | (rw [lb_xor]
               rw [show lb (Int64.ofInt (-1)) i = true from em1]
               refine Eq.trans (congrArg (fun z => (z ^^ true)) e1) ?_
               rw [Bool.xor_true, show decide (fr ≤ 64 * u + i) = true from decide_eq_true (by omega), show decide (64 * u + i < to) = true from decide_eq_true (by omega), Bool.and_true, Bool.and_true])
        · refine lf_lload d_S_openBetween_75 rfl ?_
          refine lf_lconst d_S_openBetween_77 rfl ?_
          refine lf_iload d_S_openBetween_78 rfl ?_
          refine lf_bipush d_S_openBetween_80 (v := Int32.ofInt ((63 : Nat) : Int)) (by decide +kernel) ?_
          refine gi_iandN (a := to) (b := 63) d_S_openBetween_82 ?_
          refine gi_top (show ((to &&& 63 : Nat) : Int) = ((to % 64 : Nat) : Int) from by rw [show (63 : Nat) = 2 ^ 6 - 1 from rfl, Nat.and_two_pow_sub_one_eq_mod]) ?_
          refine lf_lshl d_S_openBetween_83 ?_
          refine lf_lconst d_S_openBetween_84 rfl ?_
          refine lf_lsub d_S_openBetween_85 ?_
          refine lf_land d_S_openBetween_86 ?_
          refine lf_lstore d_S_openBetween_87 (by decide +kernel) (L2 := [(8, _), (7, _), (6, _), (0, _), (1, _), (2, _), (3, _), (4, _), (5, _)]) rfl ?_
          refine lf_iload d_S_openBetween_89 rfl ?_
          refine lf_lload d_S_openBetween_91 rfl ?_
          refine gw_callP s_S_openBetween_93 (m_bitCount hx) (S := [_]) rfl rfl gcR_1 (by decide) (by decide +kernel) (Nat.le_of_ble_eq_true rfl) ?_
          refine gi_iaddN (a := (cbr (fun i => !lfb J w a b false i) fr (min (64 * u) to))) (b := _) d_S_openBetween_96 ?_
          refine lf_istore d_S_openBetween_97 (by decide +kernel) (L2 := [(6, _), (8, _), (7, _), (0, _), (1, _), (2, _), (3, _), (4, _), (5, _)]) rfl ?_
          refine gi_iincN d_S_openBetween_99 rfl (by decide +kernel) (L2 := [(7, _), (6, _), (8, _), (0, _), (1, _), (2, _), (3, _), (4, _), (5, _)]) rfl ?_
          refine lf_goto d_S_openBetween_102 (tgt := 10) (by decide) ?_
          refine lf_sub [0, 1, 3, 4, 5, 6, 7, 8] rfl ?_
          refine lf_eqL (L1 := [(7, .int (Int32.ofInt ((u + 1 : Nat) : Int))), (6, .int (Int32.ofInt ((cbr (fun i => !lfb J w a b false i) fr (min (64 * (u + 1)) to) : Nat) : Int))), (0, .ref 17), (1, .int (Int32.ofInt ((a : Nat) : Int))), (2, .int (Int32.ofInt ((b : Nat) : Int))), (3, .int (Int32.ofInt ((0 : Nat) : Int))), (4, .int (Int32.ofInt ((fr : Nat) : Int))), (5, .int (Int32.ofInt ((to : Nat) : Int)))]) ?_ (ih (u + 1) (by omega) (by omega) (by omega))
          refine congrArg (fun z : Nat => ([(7, .int (Int32.ofInt ((u + 1 : Nat) : Int))), (6, .int (Int32.ofInt ((z : Nat) : Int))), (0, .ref 17), (1, .int (Int32.ofInt ((a : Nat) : Int))), (2, .int (Int32.ofInt ((b : Nat) : Int))), (3, .int (Int32.ofInt ((0 : Nat) : Int))), (4, .int (Int32.ofInt ((fr : Nat) : Int))), (5, .int (Int32.ofInt ((to : Nat) : Int)))] : List (Nat × Value))) (cbr_step (p := (fun i => !lfb J w a b false i)) hfu hut (fun i hi => ?_))
          have e1 := leafW_bit (J := J) (w := w) (a := a) (b := b) (u := u) (inv := false) hi
          unfold leafW at e1
          have em1 := lb_m1 i hi
          first
            | (rw [lb_and, lb_and, lb_xor, lb_low (by omega) hi, lb_shl (by omega) hi]
               rw [show lb (Int64.ofInt (-1)) i = true from em1, show lb (Int64.ofInt (-1)) (i - fr % 64) = true from lb_m1 _ (by omega)]
               refine Eq.trans (congrArg (fun z => ((z ^^ true) && (decide (fr % 64 ≤ i) && true)) && decide (i < to % 64)) e1) ?_
               rw [Bool.xor_true, Bool.and_true, show decide (fr % 64 ≤ i) = decide (fr ≤ 64 * u + i) from decide_eq_decide.mpr (by omega), show decide (i < to % 64) = decide (64 * u + i < to) from decide_eq_decide.mpr (by omega)])
            | (rw [lb_and, lb_xor, lb_low (by omega) hi]
               rw [show lb (Int64.ofInt (-1)) i = true from em1]
               refine Eq.trans (congrArg (fun z => (z ^^ true) && decide (i < to % 64)) e1) ?_
               rw [Bool.xor_true, show decide (fr ≤ 64 * u + i) = true from decide_eq_true (by omega), Bool.and_true, show decide (i < to % 64) = decide (64 * u + i < to) from decide_eq_decide.mpr (by omega)])
            | (rw [lb_and, lb_xor, lb_shl (by omega) hi]
               rw [show lb (Int64.ofInt (-1)) i = true from em1, show lb (Int64.ofInt (-1)) (i - fr % 64) = true from lb_m1 _ (by omega)]
               refine Eq.trans (congrArg (fun z => (z ^^ true) && (decide (fr % 64 ≤ i) && true)) e1) ?_
               rw [Bool.xor_true, Bool.and_true, show decide (fr % 64 ≤ i) = decide (fr ≤ 64 * u + i) from decide_eq_decide.mpr (by omega), show decide (64 * u + i < to) = true from decide_eq_true (by omega), Bool.and_true])
            | (rw [lb_xor]
               rw [show lb (Int64.ofInt (-1)) i = true from em1]
               refine Eq.trans (congrArg (fun z => (z ^^ true)) e1) ?_
               rw [Bool.xor_true, show decide (fr ≤ 64 * u + i) = true from decide_eq_true (by omega), show decide (64 * u + i < to) = true from decide_eq_true (by omega), Bool.and_true, Bool.and_true])
    · rw [show min (64 * u) to = to by omega]
      refine lf_bipush d_S_openBetween_10 (v := Int32.ofInt ((64 : Nat) : Int)) (by decide +kernel) ?_
      refine lf_iload d_S_openBetween_12 rfl ?_
      refine gi_imulN (a := 64) (b := u) d_S_openBetween_14 ?_
      refine lf_iload d_S_openBetween_15 rfl ?_
      refine gi_icmp_ge d_S_openBetween_17 (tgt := 105) (by decide) (by omega) (fun hb17 => ?_) (fun hb17 => False.elim (by omega))
      refine lf_sub [1] rfl ?_
      exact k105
theorem s_openBetween0 (hx : HX X L9 xs) (hS : clS sh) {n w s : Nat} (hV : clV sh n w) (hn2 : n ≤ 80) (hs : I 15 1 = s) (hw : I 15 2 = w) (hsw : (s ≤ 6 ∧ w = 1) ∨ (s = 7 ∧ w = 2)) {a b : Nat} (ha : a < n) (hb : b < n) {fr to : Nat} (hft : fr ≤ to) (hto : to ≤ 64 * w) : EVp TT cl6 X mi_S_openBetween 2 [.ref 17, .int (Int32.ofInt ((a : Nat) : Int)), .int (Int32.ofInt ((b : Nat) : Int)), .int (Int32.ofInt ((0 : Nat) : Int)), .int (Int32.ofInt ((fr : Nat) : Int)), .int (Int32.ofInt ((to : Nat) : Int))] sh I J (.int (Int32.ofInt ((cbr (fun i => !lfb J w a b false i) fr to : Nat) : Int))) := by
  refine gw_enter (hx_ok hx) (by decide +kernel) (Nat.le_of_ble_eq_true rfl) (L := [(0, _), (1, _), (2, _), (3, _), (4, _), (5, _)]) rfl ?_
  refine lf_iconst d_S_openBetween_0 (v := Int32.ofInt ((0 : Nat) : Int)) rfl ?_
  refine lf_istore d_S_openBetween_1 (by decide +kernel) (L2 := [(6, _), (0, _), (1, _), (2, _), (3, _), (4, _), (5, _)]) rfl ?_
  refine lf_iload d_S_openBetween_3 rfl ?_
  refine lf_bipush d_S_openBetween_5 (v := Int32.ofInt ((6 : Nat) : Int)) (by decide +kernel) ?_
  refine gi_ishrN (a := fr) (s := 6) d_S_openBetween_7 (by omega) (by decide) ?_
  refine lf_istore d_S_openBetween_8 (by decide +kernel) (L2 := [(7, _), (6, _), (0, _), (1, _), (2, _), (3, _), (4, _), (5, _)]) rfl ?_
  have e0 : 0 = cbr (fun i => !lfb J w a b false i) fr (min (64 * (fr / 64)) to) := by
    exact (cbr_none _ (by omega)).symm
  refine lf_eqL (L1 := [(7, .int (Int32.ofInt ((fr / 64 : Nat) : Int))), (6, .int (Int32.ofInt ((cbr (fun i => !lfb J w a b false i) fr (min (64 * (fr / 64)) to) : Nat) : Int))), (0, .ref 17), (1, .int (Int32.ofInt ((a : Nat) : Int))), (2, .int (Int32.ofInt ((b : Nat) : Int))), (3, .int (Int32.ofInt ((0 : Nat) : Int))), (4, .int (Int32.ofInt ((fr : Nat) : Int))), (5, .int (Int32.ofInt ((to : Nat) : Int)))]) (by rw [← e0]) ?_
  refine s_open_l0 hx hS hV hn2 hs hw hsw ha hb hto ?_ 64 (fr / 64) (Nat.le_refl _) (by omega) (by omega)
  refine lf_iload d_S_openBetween_105 rfl ?_
  refine gw_iret d_S_openBetween_107 rfl ?_
  exact ⟨rfl, rfl, rfl, rfl⟩
theorem s_open_l1 (hx : HX X L9 xs) (hS : clS sh) {n w s : Nat} (hV : clV sh n w) (hn2 : n ≤ 80) (hs : I 15 1 = s) (hw : I 15 2 = w) (hsw : (s ≤ 6 ∧ w = 1) ∨ (s = 7 ∧ w = 2)) {a b : Nat} (ha : a < n) (hb : b < n) {fr to : Nat} (hto : to ≤ 64 * w) (k105 : LXf TT cl6 X mi_S_openBetween (40 + 2) (1000 + 200 * 2) D P PX kc ks 105 [(6, .int (Int32.ofInt ((cbr (fun i => !lfb J w a b true i) fr to : Nat) : Int)))] [] (hp sh I J)) : ∀ c u : Nat, (fr / 64 ≤ u) → (64 * u < to + 64) → (to + 63) / 64 ≤ u + c → LXf TT cl6 X mi_S_openBetween (40 + 2) (1000 + 200 * 2) D P PX kc ks 10 [(7, .int (Int32.ofInt ((u : Nat) : Int))), (6, .int (Int32.ofInt ((cbr (fun i => !lfb J w a b true i) fr (min (64 * u) to) : Nat) : Int))), (0, .ref 17), (1, .int (Int32.ofInt ((a : Nat) : Int))), (2, .int (Int32.ofInt ((b : Nat) : Int))), (3, .int (Int32.ofInt ((1 : Nat) : Int))), (4, .int (Int32.ofInt ((fr : Nat) : Int))), (5, .int (Int32.ofInt ((to : Nat) : Int)))] [] (hp sh I J) := by
  have hw2 : w ≤ 2 := by omega
  intro c
  induction c with
  | zero =>
    intro u hfu hu hc
    rw [show min (64 * u) to = to by omega]
    refine lf_bipush d_S_openBetween_10 (v := Int32.ofInt ((64 : Nat) : Int)) (by decide +kernel) ?_
    refine lf_iload d_S_openBetween_12 rfl ?_
    refine gi_imulN (a := 64) (b := u) d_S_openBetween_14 ?_
    refine lf_iload d_S_openBetween_15 rfl ?_
    refine gi_icmp_ge d_S_openBetween_17 (tgt := 105) (by decide) (by omega) (fun hb17 => ?_) (fun hb17 => False.elim (by omega))
    refine lf_sub [1] rfl ?_
    exact k105
  | succ c ih =>
    intro u hfu hu hc
    rcases Nat.lt_or_ge (64 * u) to with hut | hut
    · have huw : u < w := by omega
      refine lf_bipush d_S_openBetween_10 (v := Int32.ofInt ((64 : Nat) : Int)) (by decide +kernel) ?_
      refine lf_iload d_S_openBetween_12 rfl ?_
      refine gi_imulN (a := 64) (b := u) d_S_openBetween_14 ?_
      refine lf_iload d_S_openBetween_15 rfl ?_
      refine gi_icmp_ge d_S_openBetween_17 (tgt := 105) (by decide) (by omega) (fun hb17 => False.elim (by omega)) (fun hb17 => ?_)
      refine lf_aload_n d_S_openBetween_20 rfl rfl rfl ?_
      refine gi_getr s_S_openBetween_21 (c_17 hS) rfl ?_
      refine lf_iload_n d_S_openBetween_24 rfl rfl ?_
      refine lf_iload_n d_S_openBetween_25 rfl rfl ?_
      refine lf_iload_n d_S_openBetween_26 rfl rfl ?_
      refine lf_iload d_S_openBetween_27 rfl ?_
      refine gw_callP s_S_openBetween_29 (v_leafWord1 hx hV hn2 hw2 hw ha hb huw) (S := []) rfl rfl (gcR_2 (c_15 hV)) (by decide) (by decide +kernel) (Nat.le_of_ble_eq_true rfl) ?_
      refine gi_pushl s_S_openBetween_32 ?_
      refine lf_lxor d_S_openBetween_35 ?_
      refine lf_lstore d_S_openBetween_36 (by decide +kernel) (L2 := [(8, _), (7, _), (6, _), (0, _), (1, _), (2, _), (3, _), (4, _), (5, _)]) rfl ?_
      refine lf_bipush d_S_openBetween_38 (v := Int32.ofInt ((64 : Nat) : Int)) (by decide +kernel) ?_
      refine lf_iload d_S_openBetween_40 rfl ?_
      refine gi_imulN (a := 64) (b := u) d_S_openBetween_42 ?_
      refine lf_iload d_S_openBetween_43 rfl ?_
      refine gi_icmp_ge d_S_openBetween_45 (tgt := 62) (by decide) (by omega) (fun hb45 => ?_) (fun hb45 => ?_)
      · refine lf_iload d_S_openBetween_62 rfl ?_
        refine lf_bipush d_S_openBetween_64 (v := Int32.ofInt ((64 : Nat) : Int)) (by decide +kernel) ?_
        refine lf_iload d_S_openBetween_66 rfl ?_
        refine gi_imulN (a := 64) (b := u) d_S_openBetween_68 ?_
        refine gi_isub d_S_openBetween_69 ?_
        refine lf_bipush d_S_openBetween_70 (v := Int32.ofInt ((64 : Nat) : Int)) (by decide +kernel) ?_
        refine gi_icmp_ge d_S_openBetween_72 (tgt := 89) (by decide) (by omega) (fun hb72 => ?_) (fun hb72 => ?_)
        · refine lf_iload d_S_openBetween_89 rfl ?_
          refine lf_lload d_S_openBetween_91 rfl ?_
          refine gw_callP s_S_openBetween_93 (m_bitCount hx) (S := [_]) rfl rfl gcR_1 (by decide) (by decide +kernel) (Nat.le_of_ble_eq_true rfl) ?_
          refine gi_iaddN (a := (cbr (fun i => !lfb J w a b true i) fr (min (64 * u) to))) (b := _) d_S_openBetween_96 ?_
          refine lf_istore d_S_openBetween_97 (by decide +kernel) (L2 := [(6, _), (8, _), (7, _), (0, _), (1, _), (2, _), (3, _), (4, _), (5, _)]) rfl ?_
          refine gi_iincN d_S_openBetween_99 rfl (by decide +kernel) (L2 := [(7, _), (6, _), (8, _), (0, _), (1, _), (2, _), (3, _), (4, _), (5, _)]) rfl ?_
          refine lf_goto d_S_openBetween_102 (tgt := 10) (by decide) ?_
          refine lf_sub [0, 1, 3, 4, 5, 6, 7, 8] rfl ?_
          refine lf_eqL (L1 := [(7, .int (Int32.ofInt ((u + 1 : Nat) : Int))), (6, .int (Int32.ofInt ((cbr (fun i => !lfb J w a b true i) fr (min (64 * (u + 1)) to) : Nat) : Int))), (0, .ref 17), (1, .int (Int32.ofInt ((a : Nat) : Int))), (2, .int (Int32.ofInt ((b : Nat) : Int))), (3, .int (Int32.ofInt ((1 : Nat) : Int))), (4, .int (Int32.ofInt ((fr : Nat) : Int))), (5, .int (Int32.ofInt ((to : Nat) : Int)))]) ?_ (ih (u + 1) (by omega) (by omega) (by omega))
          refine congrArg (fun z : Nat => ([(7, .int (Int32.ofInt ((u + 1 : Nat) : Int))), (6, .int (Int32.ofInt ((z : Nat) : Int))), (0, .ref 17), (1, .int (Int32.ofInt ((a : Nat) : Int))), (2, .int (Int32.ofInt ((b : Nat) : Int))), (3, .int (Int32.ofInt ((1 : Nat) : Int))), (4, .int (Int32.ofInt ((fr : Nat) : Int))), (5, .int (Int32.ofInt ((to : Nat) : Int)))] : List (Nat × Value))) (cbr_step (p := (fun i => !lfb J w a b true i)) hfu hut (fun i hi => ?_))
          have e1 := leafW_bit (J := J) (w := w) (a := a) (b := b) (u := u) (inv := true) hi
          unfold leafW at e1
          have em1 := lb_m1 i hi
          first
            | (rw [lb_and, lb_and, lb_xor, lb_low (by omega) hi, lb_shl (by omega) hi]
               rw [show lb (Int64.ofInt (-1)) i = true from em1, show lb (Int64.ofInt (-1)) (i - fr % 64) = true from lb_m1 _ (by omega)]
               refine Eq.trans (congrArg (fun z => ((z ^^ true) && (decide (fr % 64 ≤ i) && true)) && decide (i < to % 64)) e1) ?_
               rw [Bool.xor_true, Bool.and_true, show decide (fr % 64 ≤ i) = decide (fr ≤ 64 * u + i) from decide_eq_decide.mpr (by omega), show decide (i < to % 64) = decide (64 * u + i < to) from decide_eq_decide.mpr (by omega)])
            | (rw [lb_and, lb_xor, lb_low (by omega) hi]
               rw [show lb (Int64.ofInt (-1)) i = true from em1]
               refine Eq.trans (congrArg (fun z => (z ^^ true) && decide (i < to % 64)) e1) ?_
               rw [Bool.xor_true, show decide (fr ≤ 64 * u + i) = true from decide_eq_true (by omega), Bool.and_true, show decide (i < to % 64) = decide (64 * u + i < to) from decide_eq_decide.mpr (by omega)])
            | (rw [lb_and, lb_xor, lb_shl (by omega) hi]
               rw [show lb (Int64.ofInt (-1)) i = true from em1, show lb (Int64.ofInt (-1)) (i - fr % 64) = true from lb_m1 _ (by omega)]
               refine Eq.trans (congrArg (fun z => (z ^^ true) && (decide (fr % 64 ≤ i) && true)) e1) ?_
               rw [Bool.xor_true, Bool.and_true, show decide (fr % 64 ≤ i) = decide (fr ≤ 64 * u + i) from decide_eq_decide.mpr (by omega), show decide (64 * u + i < to) = true from decide_eq_true (by omega), Bool.and_true])
            | (rw [lb_xor]
               rw [show lb (Int64.ofInt (-1)) i = true from em1]
               refine Eq.trans (congrArg (fun z => (z ^^ true)) e1) ?_
               rw [Bool.xor_true, show decide (fr ≤ 64 * u + i) = true from decide_eq_true (by omega), show decide (64 * u + i < to) = true from decide_eq_true (by omega), Bool.and_true, Bool.and_true])
        · refine lf_lload d_S_openBetween_75 rfl ?_
          refine lf_lconst d_S_openBetween_77 rfl ?_
          refine lf_iload d_S_openBetween_78 rfl ?_
          refine lf_bipush d_S_openBetween_80 (v := Int32.ofInt ((63 : Nat) : Int)) (by decide +kernel) ?_
          refine gi_iandN (a := to) (b := 63) d_S_openBetween_82 ?_
          refine gi_top (show ((to &&& 63 : Nat) : Int) = ((to % 64 : Nat) : Int) from by rw [show (63 : Nat) = 2 ^ 6 - 1 from rfl, Nat.and_two_pow_sub_one_eq_mod]) ?_
          refine lf_lshl d_S_openBetween_83 ?_
          refine lf_lconst d_S_openBetween_84 rfl ?_
          refine lf_lsub d_S_openBetween_85 ?_
          refine lf_land d_S_openBetween_86 ?_
          refine lf_lstore d_S_openBetween_87 (by decide +kernel) (L2 := [(8, _), (7, _), (6, _), (0, _), (1, _), (2, _), (3, _), (4, _), (5, _)]) rfl ?_
          refine lf_iload d_S_openBetween_89 rfl ?_
          refine lf_lload d_S_openBetween_91 rfl ?_
          refine gw_callP s_S_openBetween_93 (m_bitCount hx) (S := [_]) rfl rfl gcR_1 (by decide) (by decide +kernel) (Nat.le_of_ble_eq_true rfl) ?_
          refine gi_iaddN (a := (cbr (fun i => !lfb J w a b true i) fr (min (64 * u) to))) (b := _) d_S_openBetween_96 ?_
          refine lf_istore d_S_openBetween_97 (by decide +kernel) (L2 := [(6, _), (8, _), (7, _), (0, _), (1, _), (2, _), (3, _), (4, _), (5, _)]) rfl ?_
          refine gi_iincN d_S_openBetween_99 rfl (by decide +kernel) (L2 := [(7, _), (6, _), (8, _), (0, _), (1, _), (2, _), (3, _), (4, _), (5, _)]) rfl ?_
          refine lf_goto d_S_openBetween_102 (tgt := 10) (by decide) ?_
          refine lf_sub [0, 1, 3, 4, 5, 6, 7, 8] rfl ?_
          refine lf_eqL (L1 := [(7, .int (Int32.ofInt ((u + 1 : Nat) : Int))), (6, .int (Int32.ofInt ((cbr (fun i => !lfb J w a b true i) fr (min (64 * (u + 1)) to) : Nat) : Int))), (0, .ref 17), (1, .int (Int32.ofInt ((a : Nat) : Int))), (2, .int (Int32.ofInt ((b : Nat) : Int))), (3, .int (Int32.ofInt ((1 : Nat) : Int))), (4, .int (Int32.ofInt ((fr : Nat) : Int))), (5, .int (Int32.ofInt ((to : Nat) : Int)))]) ?_ (ih (u + 1) (by omega) (by omega) (by omega))
          refine congrArg (fun z : Nat => ([(7, .int (Int32.ofInt ((u + 1 : Nat) : Int))), (6, .int (Int32.ofInt ((z : Nat) : Int))), (0, .ref 17), (1, .int (Int32.ofInt ((a : Nat) : Int))), (2, .int (Int32.ofInt ((b : Nat) : Int))), (3, .int (Int32.ofInt ((1 : Nat) : Int))), (4, .int (Int32.ofInt ((fr : Nat) : Int))), (5, .int (Int32.ofInt ((to : Nat) : Int)))] : List (Nat × Value))) (cbr_step (p := (fun i => !lfb J w a b true i)) hfu hut (fun i hi => ?_))
          have e1 := leafW_bit (J := J) (w := w) (a := a) (b := b) (u := u) (inv := true) hi
          unfold leafW at e1
          have em1 := lb_m1 i hi
          first
            | (rw [lb_and, lb_and, lb_xor, lb_low (by omega) hi, lb_shl (by omega) hi]
               rw [show lb (Int64.ofInt (-1)) i = true from em1, show lb (Int64.ofInt (-1)) (i - fr % 64) = true from lb_m1 _ (by omega)]
               refine Eq.trans (congrArg (fun z => ((z ^^ true) && (decide (fr % 64 ≤ i) && true)) && decide (i < to % 64)) e1) ?_
               rw [Bool.xor_true, Bool.and_true, show decide (fr % 64 ≤ i) = decide (fr ≤ 64 * u + i) from decide_eq_decide.mpr (by omega), show decide (i < to % 64) = decide (64 * u + i < to) from decide_eq_decide.mpr (by omega)])
            | (rw [lb_and, lb_xor, lb_low (by omega) hi]
               rw [show lb (Int64.ofInt (-1)) i = true from em1]
               refine Eq.trans (congrArg (fun z => (z ^^ true) && decide (i < to % 64)) e1) ?_
               rw [Bool.xor_true, show decide (fr ≤ 64 * u + i) = true from decide_eq_true (by omega), Bool.and_true, show decide (i < to % 64) = decide (64 * u + i < to) from decide_eq_decide.mpr (by omega)])
            | (rw [lb_and, lb_xor, lb_shl (by omega) hi]
               rw [show lb (Int64.ofInt (-1)) i = true from em1, show lb (Int64.ofInt (-1)) (i - fr % 64) = true from lb_m1 _ (by omega)]
               refine Eq.trans (congrArg (fun z => (z ^^ true) && (decide (fr % 64 ≤ i) && true)) e1) ?_
               rw [Bool.xor_true, Bool.and_true, show decide (fr % 64 ≤ i) = decide (fr ≤ 64 * u + i) from decide_eq_decide.mpr (by omega), show decide (64 * u + i < to) = true from decide_eq_true (by omega), Bool.and_true])
            | (rw [lb_xor]
               rw [show lb (Int64.ofInt (-1)) i = true from em1]
               refine Eq.trans (congrArg (fun z => (z ^^ true)) e1) ?_
               rw [Bool.xor_true, show decide (fr ≤ 64 * u + i) = true from decide_eq_true (by omega), show decide (64 * u + i < to) = true from decide_eq_true (by omega), Bool.and_true, Bool.and_true])
      · refine lf_lload d_S_openBetween_48 rfl ?_
        refine gi_pushl s_S_openBetween_50 ?_
        refine lf_iload d_S_openBetween_53 rfl ?_
        refine lf_bipush d_S_openBetween_55 (v := Int32.ofInt ((63 : Nat) : Int)) (by decide +kernel) ?_
        refine gi_iandN (a := fr) (b := 63) d_S_openBetween_57 ?_
        refine gi_top (show ((fr &&& 63 : Nat) : Int) = ((fr % 64 : Nat) : Int) from by rw [show (63 : Nat) = 2 ^ 6 - 1 from rfl, Nat.and_two_pow_sub_one_eq_mod]) ?_
        refine lf_lshl d_S_openBetween_58 ?_
        refine lf_land d_S_openBetween_59 ?_
        refine lf_lstore d_S_openBetween_60 (by decide +kernel) (L2 := [(8, _), (7, _), (6, _), (0, _), (1, _), (2, _), (3, _), (4, _), (5, _)]) rfl ?_
        refine lf_iload d_S_openBetween_62 rfl ?_
        refine lf_bipush d_S_openBetween_64 (v := Int32.ofInt ((64 : Nat) : Int)) (by decide +kernel) ?_
        refine lf_iload d_S_openBetween_66 rfl ?_
        refine gi_imulN (a := 64) (b := u) d_S_openBetween_68 ?_
        refine gi_isub d_S_openBetween_69 ?_
        refine lf_bipush d_S_openBetween_70 (v := Int32.ofInt ((64 : Nat) : Int)) (by decide +kernel) ?_
        refine gi_icmp_ge d_S_openBetween_72 (tgt := 89) (by decide) (by omega) (fun hb72 => ?_) (fun hb72 => ?_)
        · refine lf_iload d_S_openBetween_89 rfl ?_
          refine lf_lload d_S_openBetween_91 rfl ?_
          refine gw_callP s_S_openBetween_93 (m_bitCount hx) (S := [_]) rfl rfl gcR_1 (by decide) (by decide +kernel) (Nat.le_of_ble_eq_true rfl) ?_
          refine gi_iaddN (a := (cbr (fun i => !lfb J w a b true i) fr (min (64 * u) to))) (b := _) d_S_openBetween_96 ?_
          refine lf_istore d_S_openBetween_97 (by decide +kernel) (L2 := [(6, _), (8, _), (7, _), (0, _), (1, _), (2, _), (3, _), (4, _), (5, _)]) rfl ?_
          refine gi_iincN d_S_openBetween_99 rfl (by decide +kernel) (L2 := [(7, _), (6, _), (8, _), (0, _), (1, _), (2, _), (3, _), (4, _), (5, _)]) rfl ?_
          refine lf_goto d_S_openBetween_102 (tgt := 10) (by decide) ?_
          refine lf_sub [0, 1, 3, 4, 5, 6, 7, 8] rfl ?_
          refine lf_eqL (L1 := [(7, .int (Int32.ofInt ((u + 1 : Nat) : Int))), (6, .int (Int32.ofInt ((cbr (fun i => !lfb J w a b true i) fr (min (64 * (u + 1)) to) : Nat) : Int))), (0, .ref 17), (1, .int (Int32.ofInt ((a : Nat) : Int))), (2, .int (Int32.ofInt ((b : Nat) : Int))), (3, .int (Int32.ofInt ((1 : Nat) : Int))), (4, .int (Int32.ofInt ((fr : Nat) : Int))), (5, .int (Int32.ofInt ((to : Nat) : Int)))]) ?_ (ih (u + 1) (by omega) (by omega) (by omega))
          refine congrArg (fun z : Nat => ([(7, .int (Int32.ofInt ((u + 1 : Nat) : Int))), (6, .int (Int32.ofInt ((z : Nat) : Int))), (0, .ref 17), (1, .int (Int32.ofInt ((a : Nat) : Int))), (2, .int (Int32.ofInt ((b : Nat) : Int))), (3, .int (Int32.ofInt ((1 : Nat) : Int))), (4, .int (Int32.ofInt ((fr : Nat) : Int))), (5, .int (Int32.ofInt ((to : Nat) : Int)))] : List (Nat × Value))) (cbr_step (p := (fun i => !lfb J w a b true i)) hfu hut (fun i hi => ?_))
          have e1 := leafW_bit (J := J) (w := w) (a := a) (b := b) (u := u) (inv := true) hi
          unfold leafW at e1
          have em1 := lb_m1 i hi
          first
            | (rw [lb_and, lb_and, lb_xor, lb_low (by omega) hi, lb_shl (by omega) hi]
               rw [show lb (Int64.ofInt (-1)) i = true from em1, show lb (Int64.ofInt (-1)) (i - fr % 64) = true from lb_m1 _ (by omega)]
               refine Eq.trans (congrArg (fun z => ((z ^^ true) && (decide (fr % 64 ≤ i) && true)) && decide (i < to % 64)) e1) ?_
               rw [Bool.xor_true, Bool.and_true, show decide (fr % 64 ≤ i) = decide (fr ≤ 64 * u + i) from decide_eq_decide.mpr (by omega), show decide (i < to % 64) = decide (64 * u + i < to) from decide_eq_decide.mpr (by omega)])
            | (rw [lb_and, lb_xor, lb_low (by omega) hi]
               rw [show lb (Int64.ofInt (-1)) i = true from em1]
               refine Eq.trans (congrArg (fun z => (z ^^ true) && decide (i < to % 64)) e1) ?_
               rw [Bool.xor_true, show decide (fr ≤ 64 * u + i) = true from decide_eq_true (by omega), Bool.and_true, show decide (i < to % 64) = decide (64 * u + i < to) from decide_eq_decide.mpr (by omega)])
            | (rw [lb_and, lb_xor, lb_shl (by omega) hi]
               rw [show lb (Int64.ofInt (-1)) i = true from em1, show lb (Int64.ofInt (-1)) (i - fr % 64) = true from lb_m1 _ (by omega)]
               refine Eq.trans (congrArg (fun z => (z ^^ true) && (decide (fr % 64 ≤ i) && true)) e1) ?_
               rw [Bool.xor_true, Bool.and_true, show decide (fr % 64 ≤ i) = decide (fr ≤ 64 * u + i) from decide_eq_decide.mpr (by omega), show decide (64 * u + i < to) = true from decide_eq_true (by omega), Bool.and_true])
            | (rw [lb_xor]
               rw [show lb (Int64.ofInt (-1)) i = true from em1]
               refine Eq.trans (congrArg (fun z => (z ^^ true)) e1) ?_
               rw [Bool.xor_true, show decide (fr ≤ 64 * u + i) = true from decide_eq_true (by omega), show decide (64 * u + i < to) = true from decide_eq_true (by omega), Bool.and_true, Bool.and_true])
        · refine lf_lload d_S_openBetween_75 rfl ?_
          refine lf_lconst d_S_openBetween_77 rfl ?_
          refine lf_iload d_S_openBetween_78 rfl ?_
          refine lf_bipush d_S_openBetween_80 (v := Int32.ofInt ((63 : Nat) : Int)) (by decide +kernel) ?_
          refine gi_iandN (a := to) (b := 63) d_S_openBetween_82 ?_
          refine gi_top (show ((to &&& 63 : Nat) : Int) = ((to % 64 : Nat) : Int) from by rw [show (63 : Nat) = 2 ^ 6 - 1 from rfl, Nat.and_two_pow_sub_one_eq_mod]) ?_
          refine lf_lshl d_S_openBetween_83 ?_
          refine lf_lconst d_S_openBetween_84 rfl ?_
          refine lf_lsub d_S_openBetween_85 ?_
          refine lf_land d_S_openBetween_86 ?_
          refine lf_lstore d_S_openBetween_87 (by decide +kernel) (L2 := [(8, _), (7, _), (6, _), (0, _), (1, _), (2, _), (3, _), (4, _), (5, _)]) rfl ?_
          refine lf_iload d_S_openBetween_89 rfl ?_
          refine lf_lload d_S_openBetween_91 rfl ?_
          refine gw_callP s_S_openBetween_93 (m_bitCount hx) (S := [_]) rfl rfl gcR_1 (by decide) (by decide +kernel) (Nat.le_of_ble_eq_true rfl) ?_
          refine gi_iaddN (a := (cbr (fun i => !lfb J w a b true i) fr (min (64 * u) to))) (b := _) d_S_openBetween_96 ?_
          refine lf_istore d_S_openBetween_97 (by decide +kernel) (L2 := [(6, _), (8, _), (7, _), (0, _), (1, _), (2, _), (3, _), (4, _), (5, _)]) rfl ?_
          refine gi_iincN d_S_openBetween_99 rfl (by decide +kernel) (L2 := [(7, _), (6, _), (8, _), (0, _), (1, _), (2, _), (3, _), (4, _), (5, _)]) rfl ?_
          refine lf_goto d_S_openBetween_102 (tgt := 10) (by decide) ?_
          refine lf_sub [0, 1, 3, 4, 5, 6, 7, 8] rfl ?_
          refine lf_eqL (L1 := [(7, .int (Int32.ofInt ((u + 1 : Nat) : Int))), (6, .int (Int32.ofInt ((cbr (fun i => !lfb J w a b true i) fr (min (64 * (u + 1)) to) : Nat) : Int))), (0, .ref 17), (1, .int (Int32.ofInt ((a : Nat) : Int))), (2, .int (Int32.ofInt ((b : Nat) : Int))), (3, .int (Int32.ofInt ((1 : Nat) : Int))), (4, .int (Int32.ofInt ((fr : Nat) : Int))), (5, .int (Int32.ofInt ((to : Nat) : Int)))]) ?_ (ih (u + 1) (by omega) (by omega) (by omega))
          refine congrArg (fun z : Nat => ([(7, .int (Int32.ofInt ((u + 1 : Nat) : Int))), (6, .int (Int32.ofInt ((z : Nat) : Int))), (0, .ref 17), (1, .int (Int32.ofInt ((a : Nat) : Int))), (2, .int (Int32.ofInt ((b : Nat) : Int))), (3, .int (Int32.ofInt ((1 : Nat) : Int))), (4, .int (Int32.ofInt ((fr : Nat) : Int))), (5, .int (Int32.ofInt ((to : Nat) : Int)))] : List (Nat × Value))) (cbr_step (p := (fun i => !lfb J w a b true i)) hfu hut (fun i hi => ?_))
          have e1 := leafW_bit (J := J) (w := w) (a := a) (b := b) (u := u) (inv := true) hi
          unfold leafW at e1
          have em1 := lb_m1 i hi
          first
            | (rw [lb_and, lb_and, lb_xor, lb_low (by omega) hi, lb_shl (by omega) hi]
               rw [show lb (Int64.ofInt (-1)) i = true from em1, show lb (Int64.ofInt (-1)) (i - fr % 64) = true from lb_m1 _ (by omega)]
               refine Eq.trans (congrArg (fun z => ((z ^^ true) && (decide (fr % 64 ≤ i) && true)) && decide (i < to % 64)) e1) ?_
               rw [Bool.xor_true, Bool.and_true, show decide (fr % 64 ≤ i) = decide (fr ≤ 64 * u + i) from decide_eq_decide.mpr (by omega), show decide (i < to % 64) = decide (64 * u + i < to) from decide_eq_decide.mpr (by omega)])
            | (rw [lb_and, lb_xor, lb_low (by omega) hi]
               rw [show lb (Int64.ofInt (-1)) i = true from em1]
               refine Eq.trans (congrArg (fun z => (z ^^ true) && decide (i < to % 64)) e1) ?_
               rw [Bool.xor_true, show decide (fr ≤ 64 * u + i) = true from decide_eq_true (by omega), Bool.and_true, show decide (i < to % 64) = decide (64 * u + i < to) from decide_eq_decide.mpr (by omega)])
            | (rw [lb_and, lb_xor, lb_shl (by omega) hi]
               rw [show lb (Int64.ofInt (-1)) i = true from em1, show lb (Int64.ofInt (-1)) (i - fr % 64) = true from lb_m1 _ (by omega)]
               refine Eq.trans (congrArg (fun z => (z ^^ true) && (decide (fr % 64 ≤ i) && true)) e1) ?_
               rw [Bool.xor_true, Bool.and_true, show decide (fr % 64 ≤ i) = decide (fr ≤ 64 * u + i) from decide_eq_decide.mpr (by omega), show decide (64 * u + i < to) = true from decide_eq_true (by omega), Bool.and_true])
            | (rw [lb_xor]
               rw [show lb (Int64.ofInt (-1)) i = true from em1]
               refine Eq.trans (congrArg (fun z => (z ^^ true)) e1) ?_
               rw [Bool.xor_true, show decide (fr ≤ 64 * u + i) = true from decide_eq_true (by omega), show decide (64 * u + i < to) = true from decide_eq_true (by omega), Bool.and_true, Bool.and_true])
    · rw [show min (64 * u) to = to by omega]
      refine lf_bipush d_S_openBetween_10 (v := Int32.ofInt ((64 : Nat) : Int)) (by decide +kernel) ?_
      refine lf_iload d_S_openBetween_12 rfl ?_
      refine gi_imulN (a := 64) (b := u) d_S_openBetween_14 ?_
      refine lf_iload d_S_openBetween_15 rfl ?_
      refine gi_icmp_ge d_S_openBetween_17 (tgt := 105) (by decide) (by omega) (fun hb17 => ?_) (fun hb17 => False.elim (by omega))
      refine lf_sub [1] rfl ?_
      exact k105
theorem s_openBetween1 (hx : HX X L9 xs) (hS : clS sh) {n w s : Nat} (hV : clV sh n w) (hn2 : n ≤ 80) (hs : I 15 1 = s) (hw : I 15 2 = w) (hsw : (s ≤ 6 ∧ w = 1) ∨ (s = 7 ∧ w = 2)) {a b : Nat} (ha : a < n) (hb : b < n) {fr to : Nat} (hft : fr ≤ to) (hto : to ≤ 64 * w) : EVp TT cl6 X mi_S_openBetween 2 [.ref 17, .int (Int32.ofInt ((a : Nat) : Int)), .int (Int32.ofInt ((b : Nat) : Int)), .int (Int32.ofInt ((1 : Nat) : Int)), .int (Int32.ofInt ((fr : Nat) : Int)), .int (Int32.ofInt ((to : Nat) : Int))] sh I J (.int (Int32.ofInt ((cbr (fun i => !lfb J w a b true i) fr to : Nat) : Int))) := by
  refine gw_enter (hx_ok hx) (by decide +kernel) (Nat.le_of_ble_eq_true rfl) (L := [(0, _), (1, _), (2, _), (3, _), (4, _), (5, _)]) rfl ?_
  refine lf_iconst d_S_openBetween_0 (v := Int32.ofInt ((0 : Nat) : Int)) rfl ?_
  refine lf_istore d_S_openBetween_1 (by decide +kernel) (L2 := [(6, _), (0, _), (1, _), (2, _), (3, _), (4, _), (5, _)]) rfl ?_
  refine lf_iload d_S_openBetween_3 rfl ?_
  refine lf_bipush d_S_openBetween_5 (v := Int32.ofInt ((6 : Nat) : Int)) (by decide +kernel) ?_
  refine gi_ishrN (a := fr) (s := 6) d_S_openBetween_7 (by omega) (by decide) ?_
  refine lf_istore d_S_openBetween_8 (by decide +kernel) (L2 := [(7, _), (6, _), (0, _), (1, _), (2, _), (3, _), (4, _), (5, _)]) rfl ?_
  have e0 : 0 = cbr (fun i => !lfb J w a b true i) fr (min (64 * (fr / 64)) to) := by
    exact (cbr_none _ (by omega)).symm
  refine lf_eqL (L1 := [(7, .int (Int32.ofInt ((fr / 64 : Nat) : Int))), (6, .int (Int32.ofInt ((cbr (fun i => !lfb J w a b true i) fr (min (64 * (fr / 64)) to) : Nat) : Int))), (0, .ref 17), (1, .int (Int32.ofInt ((a : Nat) : Int))), (2, .int (Int32.ofInt ((b : Nat) : Int))), (3, .int (Int32.ofInt ((1 : Nat) : Int))), (4, .int (Int32.ofInt ((fr : Nat) : Int))), (5, .int (Int32.ofInt ((to : Nat) : Int)))]) (by rw [← e0]) ?_
  refine s_open_l1 hx hS hV hn2 hs hw hsw ha hb hto ?_ 64 (fr / 64) (Nat.le_refl _) (by omega) (by omega)
  refine lf_iload d_S_openBetween_105 rfl ?_
  refine gw_iret d_S_openBetween_107 rfl ?_
  exact ⟨rfl, rfl, rfl, rfl⟩
end ST1
