section TT9
variable {X : XT} {L9 : Nat} {xs : Nat → Int32} {sh : sM} {I : mI} {J : mJ}

variable {D : mF} {P : Option Value → mF → Prop} {PX : String → mF → Prop} {kc ks : Nat}

def bn (b : Bool) : Nat := if b then 1 else 0
theorem bn_lt (b : Bool) : bn b < 2 := by cases b <;> decide
theorem bz_n (b : Bool) : (if b = true then 1 else 0 : Int) = ((bn b : Nat) : Int) := by cases b <;> rfl
def orS (f : Nat → Nat) : Nat → Nat | 0 => 0 | k + 1 => orS f k ||| f k * 2 ^ k
theorem orS_lt {f : Nat → Nat} (h : ∀ j, f j < 2) : ∀ k, orS f k < 2 ^ k := by
  intro k
  induction k with
  | zero => exact Nat.zero_lt_one
  | succ k ih =>
    refine or_lt2 (Nat.lt_of_lt_of_le ih (Nat.pow_le_pow_right (by decide) (Nat.le_succ k))) ?_
    rw [Nat.pow_succ, Nat.mul_comm (2 ^ k)]
    exact Nat.mul_lt_mul_of_pos_right (h k) (Nat.two_pow_pos k)
theorem orS_cg {f g : Nat → Nat} : ∀ {k : Nat}, (∀ j, j < k → f j = g j) → orS f k = orS g k := by
  intro k
  induction k with
  | zero => intro _; rfl
  | succ k ih =>
    intro h
    show orS f k ||| f k * 2 ^ k = orS g k ||| g k * 2 ^ k
    rw [ih (fun j hj => h j (by omega)), h k (by omega)]
/-- inputs, cells and outputs of a closed net -/
def NT (I : mI) (n s ni no : Nat) (fi dt : Nat → Nat) (ot : Nat → Nat → Nat) : Prop :=
  I 1 12 = ni ∧ ni ≤ s ∧ (∀ j, j < s → I 12 j = j) ∧ (∀ j, ni ≤ j → j < s → I 5 j = dt j ∧ dt j < n ∧ I 7 j = fi j ∧ fi j < 2) ∧
  (∀ t, t < 2 → I 10 t = no) ∧ no ≤ 4 ∧ (∀ t j, t < 2 → j < no → I 9 (t * 4 + j) = ot t j ∧ ot t j < n)
def nxt (J : mJ) (w s ni : Nat) (dt : Nat → Nat) (c : Nat) : Nat := orS (fun j => bn (hbit J w s (dt (ni + j)) c)) (s - ni)
def out (J : mJ) (w s : Nat) (ot : Nat → Nat → Nat) (no t c : Nat) : Nat := orS (fun j => bn (hbit J w s (ot t j) c)) no
def fst (fi : Nat → Nat) (s ni : Nat) : Nat := orS (fun j => fi (ni + j)) (s - ni)
theorem nxt_lt {w s ni c : Nat} {dt : Nat → Nat} : nxt J w s ni dt c < 2 ^ (s - ni) := orS_lt (fun _ => bn_lt _) _
theorem out_lt {w s no t c : Nat} {ot : Nat → Nat → Nat} (h : no ≤ 4) : out J w s ot no t c < 16 := Nat.lt_of_lt_of_le (orS_lt (fun _ => bn_lt _) _) (Nat.pow_le_pow_right (n := 2) (by decide) h)
theorem fst_lt {fi : Nat → Nat} {s ni : Nat} (h : ∀ j, ni ≤ j → j < s → fi j < 2) : fst fi s ni < 2 ^ (s - ni) := by
  unfold fst
  rw [orS_cg (g := fun j => if j < s - ni then fi (ni + j) else 0) (fun j hj => (if_pos hj).symm)]
  refine orS_lt (fun j => ?_) _
  split
  · exact h _ (by omega) (by omega)
  · decide
theorem t_first_l (hx : HX X L9 xs) (hN : clN sh) {cc S9 : Nat} (hT : clT sh cc S9) {n w s : Nat} (hV : clV sh n w) (hn2 : n ≤ 80) (hs : I 15 1 = s) (hw : I 15 2 = w) (hsw : (s ≤ 6 ∧ w = 1) ∨ (s = 7 ∧ w = 2)) {ni no : Nat} {fi dt : Nat → Nat} {ot : Nat → Nat → Nat} (hnt : NT I n s ni no fi dt ot) (hi9 : I 24 2 = ni) (k49 : LXf TT cl6 X mi_T_firstState (40 + 2) (1000 + 200 * 2) D P PX kc ks 49 [(2, .int (Int32.ofInt ((ni + (s - ni) : Nat) : Int))), (1, .int (Int32.ofInt ((orS (fun j => fi (ni + j)) (s - ni) : Nat) : Int))), (0, .ref 24)] [] (hp sh I J)) : ∀ d j : Nat, j + d = s - ni → LXf TT cl6 X mi_T_firstState (40 + 2) (1000 + 200 * 2) D P PX kc ks 7 [(2, .int (Int32.ofInt ((ni + (j) : Nat) : Int))), (1, .int (Int32.ofInt ((orS (fun j => fi (ni + j)) (j) : Nat) : Int))), (0, .ref 24)] [] (hp sh I J) := by
  obtain ⟨hni, hnis, hso, hcl, hou, hno4, hot⟩ := hnt
  intro d
  induction d with
  | zero =>
    intro j hj
    have hj2 : j = s - ni := by omega
    refine lf_iload_n d_T_firstState_7 rfl rfl ?_
    refine lf_aload_n d_T_firstState_8 rfl rfl rfl ?_
    refine gi_getr s_T_firstState_9 (c_24 hT) rfl ?_
    refine gi_geti s_T_firstState_12 (c_15 hV) rfl ?_
    refine gi_top hs ?_
    refine gi_icmp_ge d_T_firstState_15 (tgt := 49) (by decide) (by omega) (fun hb15 => ?_) (fun hb15 => False.elim (by omega))
    rw [hj2]; exact k49
  | succ d ih =>
    intro j hj
    have h := hcl (ni + j) (by omega) (by omega)
    refine lf_iload_n d_T_firstState_7 rfl rfl ?_
    refine lf_aload_n d_T_firstState_8 rfl rfl rfl ?_
    refine gi_getr s_T_firstState_9 (c_24 hT) rfl ?_
    refine gi_geti s_T_firstState_12 (c_15 hV) rfl ?_
    refine gi_top hs ?_
    refine gi_icmp_ge d_T_firstState_15 (tgt := 49) (by decide) (by omega) (fun hb15 => False.elim (by omega)) (fun hb15 => ?_)
    refine lf_iload_n d_T_firstState_18 rfl rfl ?_
    refine lf_aload_n d_T_firstState_19 rfl rfl rfl ?_
    refine gi_getr s_T_firstState_20 (c_24 hT) rfl ?_
    refine lf_aload_n d_T_firstState_23 rfl rfl rfl ?_
    refine gi_getr s_T_firstState_24 (c_24 hT) rfl ?_
    refine lf_iload_n d_T_firstState_27 rfl rfl ?_
    refine gw_callP s_T_firstState_28 (n_sourceLine hx hN (by omega)) (S := [_, _]) rfl rfl (gcR_2 (c_1 hN)) (by decide) (by decide +kernel) (Nat.le_of_ble_eq_true rfl) ?_
    refine gi_top (hso (ni + j) (by omega)) ?_
    refine gw_callP s_T_firstState_31 (n_firstOf hx hN (by omega)) (S := [_]) rfl rfl (gcR_2 (c_1 hN)) (by decide) (by decide +kernel) (Nat.le_of_ble_eq_true rfl) ?_
    refine gi_top h.2.2.1 ?_
    refine lf_iload_n d_T_firstState_34 rfl rfl ?_
    refine lf_aload_n d_T_firstState_35 rfl rfl rfl ?_
    refine gi_geti s_T_firstState_36 (c_24 hT) rfl ?_
    refine gi_top hi9 ?_
    refine gi_isub d_T_firstState_39 ?_
    refine gi_top (show ((ni + j : Nat) : Int) - (ni : Int) = ((j : Nat) : Int) from by omega) ?_
    refine gi_ishlN (a := (fi (ni + j))) (s := j) d_T_firstState_40 (by omega) ?_
    refine gi_iorN (a := (orS (fun j => fi (ni + j)) j)) (b := ((fi (ni + j)) * 2 ^ j)) d_T_firstState_41 ?_
    refine lf_istore_n d_T_firstState_42 rfl (by decide +kernel) (L2 := [(1, _), (2, _), (0, _)]) rfl ?_
    refine gi_iincN d_T_firstState_43 rfl (by decide +kernel) (L2 := [(2, _), (1, _), (0, _)]) rfl ?_
    refine lf_goto d_T_firstState_46 (tgt := 7) (by decide) ?_
    exact ih (j + 1) (by omega)
theorem t_firstState (hx : HX X L9 xs) (hN : clN sh) {cc S9 : Nat} (hT : clT sh cc S9) {n w s : Nat} (hV : clV sh n w) (hn2 : n ≤ 80) (hs : I 15 1 = s) (hw : I 15 2 = w) (hsw : (s ≤ 6 ∧ w = 1) ∨ (s = 7 ∧ w = 2)) {ni no : Nat} {fi dt : Nat → Nat} {ot : Nat → Nat → Nat} (hnt : NT I n s ni no fi dt ot) (hi9 : I 24 2 = ni)  : EVp TT cl6 X mi_T_firstState 2 [.ref 24] sh I J (.int (Int32.ofInt ((fst fi s ni : Nat) : Int))) := by
  refine gw_enter (hx_ok hx) (by decide +kernel) (Nat.le_of_ble_eq_true rfl) (L := [(0, _)]) rfl ?_
  refine lf_iconst d_T_firstState_0 (v := Int32.ofInt ((0 : Nat) : Int)) rfl ?_
  refine lf_istore_n d_T_firstState_1 rfl (by decide +kernel) (L2 := [(1, _), (0, _)]) rfl ?_
  refine lf_aload_n d_T_firstState_2 rfl rfl rfl ?_
  refine gi_geti s_T_firstState_3 (c_24 hT) rfl ?_
  refine gi_top hi9 ?_
  refine lf_istore_n d_T_firstState_6 rfl (by decide +kernel) (L2 := [(2, _), (1, _), (0, _)]) rfl ?_
  refine t_first_l hx hN hT hV hn2 hs hw hsw hnt hi9 ?_ (s - ni) 0 (by omega)
  refine lf_iload_n d_T_firstState_49 rfl rfl ?_
  refine gw_iret d_T_firstState_50 rfl ?_
  exact ⟨rfl, rfl, rfl, rfl⟩
theorem t_behind_l (hx : HX X L9 xs) (hN : clN sh) {cc S9 : Nat} (hT : clT sh cc S9) {n w s : Nat} (hV : clV sh n w) (hn2 : n ≤ 80) (hs : I 15 1 = s) (hw : I 15 2 = w) (hsw : (s ≤ 6 ∧ w = 1) ∨ (s = 7 ∧ w = 2)) {ni no : Nat} {fi dt : Nat → Nat} {ot : Nat → Nat → Nat} (hnt : NT I n s ni no fi dt ot) (hi9 : I 24 2 = ni) {c : Nat} (k61 : ∀ v : Int32, LXf TT cl6 X mi_T_stateBehind (40 + 3) (1000 + 200 * 3) D P PX kc ks 61 [(2, .int (Int32.ofInt ((nxt J w s ni dt c : Nat) : Int)))] [] (hp sh I J)) : ∀ d j : Nat, j + d = s - ni → LXf TT cl6 X mi_T_stateBehind (40 + 3) (1000 + 200 * 3) D P PX kc ks 7 [(3, .int (Int32.ofInt ((ni + (j) : Nat) : Int))), (2, .int (Int32.ofInt ((orS (fun j => bn (hbit J w s (dt (ni + j)) c)) (j) : Nat) : Int))), (0, .ref 24), (1, .int (Int32.ofInt ((c : Nat) : Int)))] [] (hp sh I J) := by
  obtain ⟨hni, hnis, hso, hcl, hou, hno4, hot⟩ := hnt
  intro d
  induction d with
  | zero =>
    intro j hj
    obtain rfl : j = s - ni := by omega
    refine lf_iload_n d_T_stateBehind_7 rfl rfl ?_
    refine lf_aload_n d_T_stateBehind_8 rfl rfl rfl ?_
    refine gi_getr s_T_stateBehind_9 (c_24 hT) rfl ?_
    refine gi_geti s_T_stateBehind_12 (c_15 hV) rfl ?_
    refine gi_top hs ?_
    refine gi_icmp_ge d_T_stateBehind_15 (tgt := 61) (by decide) (by omega) (fun hb15 => ?_) (fun hb15 => False.elim (by omega))
    refine lf_sub [1] rfl ?_
    exact k61 0
  | succ d ih =>
    intro j hj
    have h := hcl (ni + j) (by omega) (by omega)
    refine lf_iload_n d_T_stateBehind_7 rfl rfl ?_
    refine lf_aload_n d_T_stateBehind_8 rfl rfl rfl ?_
    refine gi_getr s_T_stateBehind_9 (c_24 hT) rfl ?_
    refine gi_geti s_T_stateBehind_12 (c_15 hV) rfl ?_
    refine gi_top hs ?_
    refine gi_icmp_ge d_T_stateBehind_15 (tgt := 61) (by decide) (by omega) (fun hb15 => False.elim (by omega)) (fun hb15 => ?_)
    refine lf_aload_n d_T_stateBehind_18 rfl rfl rfl ?_
    refine gi_getr s_T_stateBehind_19 (c_24 hT) rfl ?_
    refine lf_aload_n d_T_stateBehind_22 rfl rfl rfl ?_
    refine gi_getr s_T_stateBehind_23 (c_24 hT) rfl ?_
    refine lf_iload_n d_T_stateBehind_26 rfl rfl ?_
    refine gw_callP s_T_stateBehind_27 (n_sourceLine hx hN (by omega)) (S := [_]) rfl rfl (gcR_2 (c_1 hN)) (by decide) (by decide +kernel) (Nat.le_of_ble_eq_true rfl) ?_
    refine gi_top (hso (ni + j) (by omega)) ?_
    refine gw_callP s_T_stateBehind_30 (n_dataOf hx hN (by omega)) (S := []) rfl rfl (gcR_2 (c_1 hN)) (by decide) (by decide +kernel) (Nat.le_of_ble_eq_true rfl) ?_
    refine gi_top h.1 ?_
    refine lf_istore d_T_stateBehind_33 (by decide +kernel) (L2 := [(4, _), (3, _), (2, _), (0, _), (1, _)]) rfl ?_
    refine lf_iload_n d_T_stateBehind_35 rfl rfl ?_
    refine lf_aload_n d_T_stateBehind_36 rfl rfl rfl ?_
    refine gi_getr s_T_stateBehind_37 (c_24 hT) rfl ?_
    refine lf_iload d_T_stateBehind_40 rfl ?_
    refine lf_iload_n d_T_stateBehind_42 rfl rfl ?_
    refine gw_callP s_T_stateBehind_43 (v_bitAtChoice hx hV hs hsw hn2 hw h.2.1) (S := [_]) rfl rfl (gcR_2 (c_15 hV)) (by decide) (by decide +kernel) (Nat.le_of_ble_eq_true rfl) ?_
    refine gi_top (bz_n _) ?_
    refine lf_iload_n d_T_stateBehind_46 rfl rfl ?_
    refine lf_aload_n d_T_stateBehind_47 rfl rfl rfl ?_
    refine gi_geti s_T_stateBehind_48 (c_24 hT) rfl ?_
    refine gi_top hi9 ?_
    refine gi_isub d_T_stateBehind_51 ?_
    refine gi_top (show ((ni + j : Nat) : Int) - (ni : Int) = ((j : Nat) : Int) from by omega) ?_
    refine gi_ishlN (a := (bn (hbit J w s (dt (ni + j)) c))) (s := j) d_T_stateBehind_52 (by omega) ?_
    refine gi_iorN (a := (orS (fun j => bn (hbit J w s (dt (ni + j)) c)) j)) (b := ((bn (hbit J w s (dt (ni + j)) c)) * 2 ^ j)) d_T_stateBehind_53 ?_
    refine lf_istore_n d_T_stateBehind_54 rfl (by decide +kernel) (L2 := [(2, _), (4, _), (3, _), (0, _), (1, _)]) rfl ?_
    refine gi_iincN d_T_stateBehind_55 rfl (by decide +kernel) (L2 := [(3, _), (2, _), (4, _), (0, _), (1, _)]) rfl ?_
    refine lf_goto d_T_stateBehind_58 (tgt := 7) (by decide) ?_
    refine lf_sub [0, 1, 3, 4] rfl ?_
    exact ih (j + 1) (by omega)
theorem t_stateBehind (hx : HX X L9 xs) (hN : clN sh) {cc S9 : Nat} (hT : clT sh cc S9) {n w s : Nat} (hV : clV sh n w) (hn2 : n ≤ 80) (hs : I 15 1 = s) (hw : I 15 2 = w) (hsw : (s ≤ 6 ∧ w = 1) ∨ (s = 7 ∧ w = 2)) {ni no : Nat} {fi dt : Nat → Nat} {ot : Nat → Nat → Nat} (hnt : NT I n s ni no fi dt ot) (hi9 : I 24 2 = ni) {c : Nat} : EVp TT cl6 X mi_T_stateBehind 3 [.ref 24, .int (Int32.ofInt ((c : Nat) : Int))] sh I J (.int (Int32.ofInt ((nxt J w s ni dt c : Nat) : Int))) := by
  refine gw_enter (hx_ok hx) (by decide +kernel) (Nat.le_of_ble_eq_true rfl) (L := [(0, _), (1, _)]) rfl ?_
  refine lf_iconst d_T_stateBehind_0 (v := Int32.ofInt ((0 : Nat) : Int)) rfl ?_
  refine lf_istore_n d_T_stateBehind_1 rfl (by decide +kernel) (L2 := [(2, _), (0, _), (1, _)]) rfl ?_
  refine lf_aload_n d_T_stateBehind_2 rfl rfl rfl ?_
  refine gi_geti s_T_stateBehind_3 (c_24 hT) rfl ?_
  refine gi_top hi9 ?_
  refine lf_istore_n d_T_stateBehind_6 rfl (by decide +kernel) (L2 := [(3, _), (2, _), (0, _), (1, _)]) rfl ?_
  refine t_behind_l hx hN hT hV hn2 hs hw hsw hnt hi9 (fun _ => ?_) (s - ni) 0 (by omega)
  refine lf_iload_n d_T_stateBehind_61 rfl rfl ?_
  refine gw_iret d_T_stateBehind_62 rfl ?_
  exact ⟨rfl, rfl, rfl, rfl⟩
theorem t_outputs_l (hx : HX X L9 xs) (hN : clN sh) {cc S9 : Nat} (hT : clT sh cc S9) {n w s : Nat} (hV : clV sh n w) (hn2 : n ≤ 80) (hs : I 15 1 = s) (hw : I 15 2 = w) (hsw : (s ≤ 6 ∧ w = 1) ∨ (s = 7 ∧ w = 2)) {ni no : Nat} {fi dt : Nat → Nat} {ot : Nat → Nat → Nat} (hnt : NT I n s ni no fi dt ot) (hi9 : I 24 2 = ni) {t c : Nat} (ht : t < 2) (k48 : LXf TT cl6 X mi_T_outputsAt (40 + 3) (1000 + 200 * 3) D P PX kc ks 48 [(3, .int (Int32.ofInt ((out J w s ot no t c : Nat) : Int)))] [] (hp sh I J)) : ∀ d j : Nat, j + d = no → LXf TT cl6 X mi_T_outputsAt (40 + 3) (1000 + 200 * 3) D P PX kc ks 5 [(4, .int (Int32.ofInt ((j : Nat) : Int))), (3, .int (Int32.ofInt ((orS (fun j => bn (hbit J w s (ot t j) c)) (j) : Nat) : Int))), (0, .ref 24), (1, .int (Int32.ofInt ((t : Nat) : Int))), (2, .int (Int32.ofInt ((c : Nat) : Int)))] [] (hp sh I J) := by
  obtain ⟨hni, hnis, hso, hcl, hou, hno4, hot⟩ := hnt
  intro d
  induction d with
  | zero =>
    intro j hj
    obtain rfl : j = no := by omega
    refine lf_iload d_T_outputsAt_5 rfl ?_
    refine lf_aload_n d_T_outputsAt_7 rfl rfl rfl ?_
    refine gi_getr s_T_outputsAt_8 (c_24 hT) rfl ?_
    refine lf_iload_n d_T_outputsAt_11 rfl rfl ?_
    refine gw_callP s_T_outputsAt_12 (n_outputsOf hx hN (by omega)) (S := [_]) rfl rfl (gcR_2 (c_1 hN)) (by decide) (by decide +kernel) (Nat.le_of_ble_eq_true rfl) ?_
    refine gi_top (hou t ht) ?_
    refine gi_icmp_ge d_T_outputsAt_15 (tgt := 48) (by decide) (by omega) (fun hb15 => ?_) (fun hb15 => False.elim (by omega))
    refine lf_sub [1] rfl ?_
    exact k48
  | succ d ih =>
    intro j hj
    have h := hot t j ht (by omega)
    refine lf_iload d_T_outputsAt_5 rfl ?_
    refine lf_aload_n d_T_outputsAt_7 rfl rfl rfl ?_
    refine gi_getr s_T_outputsAt_8 (c_24 hT) rfl ?_
    refine lf_iload_n d_T_outputsAt_11 rfl rfl ?_
    refine gw_callP s_T_outputsAt_12 (n_outputsOf hx hN (by omega)) (S := [_]) rfl rfl (gcR_2 (c_1 hN)) (by decide) (by decide +kernel) (Nat.le_of_ble_eq_true rfl) ?_
    refine gi_top (hou t ht) ?_
    refine gi_icmp_ge d_T_outputsAt_15 (tgt := 48) (by decide) (by omega) (fun hb15 => False.elim (by omega)) (fun hb15 => ?_)
    refine lf_iload_n d_T_outputsAt_18 rfl rfl ?_
    refine lf_aload_n d_T_outputsAt_19 rfl rfl rfl ?_
    refine gi_getr s_T_outputsAt_20 (c_24 hT) rfl ?_
    refine lf_aload_n d_T_outputsAt_23 rfl rfl rfl ?_
    refine gi_getr s_T_outputsAt_24 (c_24 hT) rfl ?_
    refine lf_iload_n d_T_outputsAt_27 rfl rfl ?_
    refine lf_iload d_T_outputsAt_28 rfl ?_
    refine gw_callP s_T_outputsAt_30 (n_outputAt hx hN (by omega)) (S := [_, _]) rfl rfl (gcR_2 (c_1 hN)) (by decide) (by decide +kernel) (Nat.le_of_ble_eq_true rfl) ?_
    refine gi_top h.1 ?_
    refine lf_iload_n d_T_outputsAt_33 rfl rfl ?_
    refine gw_callP s_T_outputsAt_34 (v_bitAtChoice hx hV hs hsw hn2 hw h.2) (S := [_]) rfl rfl (gcR_2 (c_15 hV)) (by decide) (by decide +kernel) (Nat.le_of_ble_eq_true rfl) ?_
    refine gi_top (bz_n _) ?_
    refine lf_iload d_T_outputsAt_37 rfl ?_
    refine gi_ishlN (a := (bn (hbit J w s (ot t j) c))) (s := j) d_T_outputsAt_39 (by omega) ?_
    refine gi_iorN (a := (orS (fun j => bn (hbit J w s (ot t j) c)) j)) (b := ((bn (hbit J w s (ot t j) c)) * 2 ^ j)) d_T_outputsAt_40 ?_
    refine lf_istore_n d_T_outputsAt_41 rfl (by decide +kernel) (L2 := [(3, _), (4, _), (0, _), (1, _), (2, _)]) rfl ?_
    refine gi_iincN d_T_outputsAt_42 rfl (by decide +kernel) (L2 := [(4, _), (3, _), (0, _), (1, _), (2, _)]) rfl ?_
    refine lf_goto d_T_outputsAt_45 (tgt := 5) (by decide) ?_
    exact ih (j + 1) (by omega)
theorem t_outputsAt (hx : HX X L9 xs) (hN : clN sh) {cc S9 : Nat} (hT : clT sh cc S9) {n w s : Nat} (hV : clV sh n w) (hn2 : n ≤ 80) (hs : I 15 1 = s) (hw : I 15 2 = w) (hsw : (s ≤ 6 ∧ w = 1) ∨ (s = 7 ∧ w = 2)) {ni no : Nat} {fi dt : Nat → Nat} {ot : Nat → Nat → Nat} (hnt : NT I n s ni no fi dt ot) (hi9 : I 24 2 = ni) {t c : Nat} (ht : t < 2) : EVp TT cl6 X mi_T_outputsAt 3 [.ref 24, .int (Int32.ofInt ((t : Nat) : Int)), .int (Int32.ofInt ((c : Nat) : Int))] sh I J (.int (Int32.ofInt ((out J w s ot no t c : Nat) : Int))) := by
  refine gw_enter (hx_ok hx) (by decide +kernel) (Nat.le_of_ble_eq_true rfl) (L := [(0, _), (1, _), (2, _)]) rfl ?_
  refine lf_iconst d_T_outputsAt_0 (v := Int32.ofInt ((0 : Nat) : Int)) rfl ?_
  refine lf_istore_n d_T_outputsAt_1 rfl (by decide +kernel) (L2 := [(3, _), (0, _), (1, _), (2, _)]) rfl ?_
  refine lf_iconst d_T_outputsAt_2 (v := Int32.ofInt ((0 : Nat) : Int)) rfl ?_
  refine lf_istore d_T_outputsAt_3 (by decide +kernel) (L2 := [(4, _), (3, _), (0, _), (1, _), (2, _)]) rfl ?_
  refine t_outputs_l hx hN hT hV hn2 hs hw hsw hnt hi9 ht ?_ no 0 (by omega)
  refine lf_iload_n d_T_outputsAt_48 rfl rfl ?_
  refine gw_iret d_T_outputsAt_49 rfl ?_
  exact ⟨rfl, rfl, rfl, rfl⟩
end TT9
