section LW5
variable {X : XT} {L9 : Nat} {xs : Nat → Int32} {sh : sM} {I : mI} {J : mJ}

variable {D : mF} {P : Option Value → mF → Prop} {PX : String → mF → Prop} {kc ks : Nat}

theorem EVi_a {mi : MI} {lev : Nat} {a : List Value} {F : Int → mI → mJ → Prop} (h : EVi TT cl6 X mi lev a sh I J F) : EVa TT cl6 X mi lev 0 0 a sh I J (fun v s I1 J1 => s = sh ∧ ∃ r : Int, v = some (.int (Int32.ofInt r)) ∧ F r I1 J1) := h
theorem EVi_b {mi : MI} {lev : Nat} {a : List Value} {F : Int → mI → mJ → Prop} (h : EVa TT cl6 X mi lev 0 0 a sh I J (fun v s I1 J1 => s = sh ∧ ∃ r : Int, v = some (.int (Int32.ofInt r)) ∧ F r I1 J1)) : EVi TT cl6 X mi lev a sh I J F := h
theorem EVp_i {mi : MI} {lev : Nat} {a : List Value} {z : Int} (h : EVp TT cl6 X mi lev a sh I J (.int (Int32.ofInt z))) : EVi TT cl6 X mi lev a sh I J (fun r I1 J1 => r = z ∧ I1 = I ∧ J1 = J) := by
  have e : (fun (v : Option Value) (I1 : mI) (J1 : mJ) => v = some (.int (Int32.ofInt z)) ∧ I1 = I ∧ J1 = J) = (fun v I1 J1 => ∃ r : Int, v = some (.int (Int32.ofInt r)) ∧ r = z ∧ I1 = I ∧ J1 = J) := by
    funext v I1 J1
    refine propext ⟨fun q => ⟨z, q.1, rfl, q.2⟩, fun q => ?_⟩
    obtain ⟨r, q1, rfl, q2⟩ := q
    exact ⟨q1, q2⟩
  unfold EVi
  rw [← e]
  exact h
theorem EVt_x {mi : MI} {lev : Nat} {a : List Value} {E : String} (h : EVt TT cl6 X mi lev a sh I J E) : EVx X mi lev a sh I J E (fun I1 J1 => I1 = I ∧ J1 = J) := h
theorem hvI {F : Int → mI → mJ → Prop} : ∀ (v : Option Value) (s : sM) (I1 : mI) (J1 : mJ), (s = sh ∧ ∃ r : Int, v = some (.int (Int32.ofInt r)) ∧ F r I1 J1) → ∃ z : Int32, v = some (.int z) := fun v s I1 J1 w => by
  obtain ⟨-, r, rfl, -⟩ := w
  exact ⟨_, rfl⟩
theorem gw_callX {mi ci : MI} {pc lev lev1 len t n rc : Nat} {L : List (Nat × Value)} {S a S0 : List Value} {code : Int} {F : mI → mJ → Prop} (hk : kCall TT cl6 X mi pc len ci t n rc) (he : EVa TT cl6 X ci lev1 1 6 a sh I J (fun v s I1 J1 => s = sh ∧ v = some (.int (Int32.ofInt code)) ∧ F I1 J1)) (hS0 : a.reverse ++ S = S0) (hn : a.length = n) (hrc : gcR sh a t rc) (hlev : lev1 < lev) (hml : ci.2.2.1 ≤ 181) (hst : (S.map fun v => v.category).sum ≤ 8)
    (kk : ∀ I1 J1, F I1 J1 → LXf TT cl6 X mi (40 + lev) (1000 + 200 * lev) D P PX kc ks (pc + len) L (.int (Int32.ofInt code) :: S) (hp sh I1 J1)) :
    LXf TT cl6 X mi (40 + lev) (1000 + 200 * lev) D P PX (kc + 1) (ks + 6) pc L S0 (hp sh I J) := by
  refine gw_callA hk he hS0 (Nat.add_comm 1 kc) (Nat.add_comm 6 ks) hn hrc hlev hml hst (fun v s1 I1 J1 w _ => ?_)
  obtain ⟨rfl, rfl, w⟩ := w
  exact kk I1 J1 w
theorem wI_ands (hx : HX X L9 xs) {hs9 : Value} (hM : clM sh hs9) {lev lev1 : Nat} {F : Int → mI → mJ → Prop} (he : EVi TT cl6 X mi_M_ands lev1 [.ref 0] sh I J F) (hlev : lev1 < lev) : EVi TT cl6 X mi_W_ands lev [.ref 0] sh I J F := EVi_b (w_ands hx hM (EVi_a he) hvI hlev)
theorem wI_cell (hx : HX X L9 xs) {hs9 : Value} (hM : clM sh hs9) {z0 z1 z2 : Int32} {lev lev1 : Nat} {F : Int → mI → mJ → Prop} (he : EVi TT cl6 X mi_M_cell lev1 [.ref 0, .int z0, .int z1, .int z2] sh I J F) (hlev : lev1 < lev) : EVi TT cl6 X mi_W_cell lev [.ref 0, .int z0, .int z1, .int z2] sh I J F := EVi_b (w_cell hx hM (EVi_a he) hvI hlev)
theorem wI_close (hx : HX X L9 xs) {hs9 : Value} (hM : clM sh hs9) {lev lev1 : Nat} {F : Int → mI → mJ → Prop} (he : EVi TT cl6 X mi_M_close lev1 [.ref 0] sh I J F) (hlev : lev1 < lev) : EVi TT cl6 X mi_W_close lev [.ref 0] sh I J F := EVi_b (w_close hx hM (EVi_a he) hvI hlev)
theorem wI_constrain (hx : HX X L9 xs) {hs9 : Value} (hM : clM sh hs9) {z0 : Int32} {lev lev1 : Nat} {F : Int → mI → mJ → Prop} (he : EVi TT cl6 X mi_M_constrain lev1 [.ref 0, .int z0] sh I J F) (hlev : lev1 < lev) : EVi TT cl6 X mi_W_constrain lev [.ref 0, .int z0] sh I J F := EVi_b (w_constrain hx hM (EVi_a he) hvI hlev)
theorem wI_data (hx : HX X L9 xs) {hs9 : Value} (hM : clM sh hs9) {z0 z1 : Int32} {lev lev1 : Nat} {F : Int → mI → mJ → Prop} (he : EVi TT cl6 X mi_M_data lev1 [.ref 0, .int z0, .int z1] sh I J F) (hlev : lev1 < lev) : EVi TT cl6 X mi_W_data lev [.ref 0, .int z0, .int z1] sh I J F := EVi_b (w_data hx hM (EVi_a he) hvI hlev)
theorem wI_difference (hx : HX X L9 xs) {hs9 : Value} (hM : clM sh hs9) {lev lev1 : Nat} {F : Int → mI → mJ → Prop} (he : EVi TT cl6 X mi_M_difference lev1 [.ref 0] sh I J F) (hlev : lev1 < lev) : EVi TT cl6 X mi_W_difference lev [.ref 0] sh I J F := EVi_b (w_difference hx hM (EVi_a he) hvI hlev)
theorem wI_gate (hx : HX X L9 xs) {hs9 : Value} (hM : clM sh hs9) {z0 z1 z2 z3 : Int32} {lev lev1 : Nat} {F : Int → mI → mJ → Prop} (he : EVi TT cl6 X mi_M_gate lev1 [.ref 0, .int z0, .int z1, .int z2, .int z3] sh I J F) (hlev : lev1 < lev) : EVi TT cl6 X mi_W_gate lev [.ref 0, .int z0, .int z1, .int z2, .int z3] sh I J F := EVi_b (w_gate hx hM (EVi_a he) hvI hlev)
theorem wI_input (hx : HX X L9 xs) {hs9 : Value} (hM : clM sh hs9) {lev lev1 : Nat} {F : Int → mI → mJ → Prop} (he : EVi TT cl6 X mi_M_input lev1 [.ref 0] sh I J F) (hlev : lev1 < lev) : EVi TT cl6 X mi_W_input lev [.ref 0] sh I J F := EVi_b (w_input hx hM (EVi_a he) hvI hlev)
theorem wI_literal (hx : HX X L9 xs) {hs9 : Value} (hM : clM sh hs9) {z0 : Int32} {lev lev1 : Nat} {F : Int → mI → mJ → Prop} (he : EVi TT cl6 X mi_M_literal lev1 [.ref 0, .int z0] sh I J F) (hlev : lev1 < lev) : EVi TT cl6 X mi_W_literal lev [.ref 0, .int z0] sh I J F := EVi_b (w_literal hx hM (EVi_a he) hvI hlev)
theorem wI_output (hx : HX X L9 xs) {hs9 : Value} (hM : clM sh hs9) {z0 z1 : Int32} {lev lev1 : Nat} {F : Int → mI → mJ → Prop} (he : EVi TT cl6 X mi_M_output lev1 [.ref 0, .int z0, .int z1] sh I J F) (hlev : lev1 < lev) : EVi TT cl6 X mi_W_output lev [.ref 0, .int z0, .int z1] sh I J F := EVi_b (w_output hx hM (EVi_a he) hvI hlev)
theorem wI_pattern (hx : HX X L9 xs) {hs9 : Value} (hM : clM sh hs9) {z0 : Int32} {lev lev1 : Nat} {F : Int → mI → mJ → Prop} (he : EVi TT cl6 X mi_M_pattern lev1 [.ref 0, .int z0] sh I J F) (hlev : lev1 < lev) : EVi TT cl6 X mi_W_pattern lev [.ref 0, .int z0] sh I J F := EVi_b (w_pattern hx hM (EVi_a he) hvI hlev)
theorem wI_proof (hx : HX X L9 xs) {hs9 : Value} (hM : clM sh hs9) {z0 z1 z2 : Int32} {lev lev1 : Nat} {F : Int → mI → mJ → Prop} (he : EVi TT cl6 X mi_M_proof lev1 [.ref 0, .int z0, .int z1, .int z2] sh I J F) (hlev : lev1 < lev) : EVi TT cl6 X mi_W_proof lev [.ref 0, .int z0, .int z1, .int z2] sh I J F := EVi_b (w_proof hx hM (EVi_a he) hvI hlev)
theorem wI_prove (hx : HX X L9 xs) {hs9 : Value} (hM : clM sh hs9) {z0 z1 z2 z3 : Int32} {lev lev1 : Nat} {F : Int → mI → mJ → Prop} (he : EVi TT cl6 X mi_M_prove lev1 [.ref 0, .int z0, .int z1, .int z2, .int z3] sh I J F) (hlev : lev1 < lev) : EVi TT cl6 X mi_W_prove lev [.ref 0, .int z0, .int z1, .int z2, .int z3] sh I J F := EVi_b (w_prove hx hM (EVi_a he) hvI hlev)
theorem wI_reached (hx : HX X L9 xs) {hs9 : Value} (hM : clM sh hs9) {lev lev1 : Nat} {F : Int → mI → mJ → Prop} (he : EVi TT cl6 X mi_M_reached lev1 [.ref 0] sh I J F) (hlev : lev1 < lev) : EVi TT cl6 X mi_W_reached lev [.ref 0] sh I J F := EVi_b (w_reached hx hM (EVi_a he) hvI hlev)
theorem wI_run (hx : HX X L9 xs) {hs9 : Value} (hM : clM sh hs9) {z0 z1 z2 : Int32} {lev lev1 : Nat} {F : Int → mI → mJ → Prop} (he : EVi TT cl6 X mi_M_run lev1 [.ref 0, .int z0, .int z1, .int z2] sh I J F) (hlev : lev1 < lev) : EVi TT cl6 X mi_W_run lev [.ref 0, .int z0, .int z1, .int z2] sh I J F := EVi_b (w_run hx hM (EVi_a he) hvI hlev)
theorem wI_sweep (hx : HX X L9 xs) {hs9 : Value} (hM : clM sh hs9) {z0 : Int32} {lev lev1 : Nat} {F : Int → mI → mJ → Prop} (he : EVi TT cl6 X mi_M_sweep lev1 [.ref 0, .int z0] sh I J F) (hlev : lev1 < lev) : EVi TT cl6 X mi_W_sweep lev [.ref 0, .int z0] sh I J F := EVi_b (w_sweep hx hM (EVi_a he) hvI hlev)
theorem wI_trace (hx : HX X L9 xs) {hs9 : Value} (hM : clM sh hs9) {z0 : Int32} {lev lev1 : Nat} {F : Int → mI → mJ → Prop} (he : EVi TT cl6 X mi_M_trace lev1 [.ref 0, .int z0] sh I J F) (hlev : lev1 < lev) : EVi TT cl6 X mi_W_trace lev [.ref 0, .int z0] sh I J F := EVi_b (w_trace hx hM (EVi_a he) hvI hlev)
theorem wI_value (hx : HX X L9 xs) {hs9 : Value} (hM : clM sh hs9) {z0 z1 : Int32} {lev lev1 : Nat} {F : Int → mI → mJ → Prop} (he : EVi TT cl6 X mi_M_value lev1 [.ref 0, .int z0, .int z1] sh I J F) (hlev : lev1 < lev) : EVi TT cl6 X mi_W_value lev [.ref 0, .int z0, .int z1] sh I J F := EVi_b (w_value hx hM (EVi_a he) hvI hlev)
theorem wI_witness (hx : HX X L9 xs) {hs9 : Value} (hM : clM sh hs9) {z0 z1 z2 : Int32} {lev lev1 : Nat} {F : Int → mI → mJ → Prop} (he : EVi TT cl6 X mi_M_witness lev1 [.ref 0, .int z0, .int z1, .int z2] sh I J F) (hlev : lev1 < lev) : EVi TT cl6 X mi_W_witness lev [.ref 0, .int z0, .int z1, .int z2] sh I J F := EVi_b (w_witness hx hM (EVi_a he) hvI hlev)
def BT (I0 I : mI) (N ni s : Nat) (kd : Nat → Int) (ow r2 r3 : Nat → Nat) (k : Nat) : Prop :=
  (∀ a, ¬ a = 1 → ¬ a = 3 → ¬ a = 4 → ¬ a = 5 → ¬ a = 6 → ¬ a = 7 → ¬ a = 8 → ¬ a = 11 → I a = I0 a) ∧
  (I 1 11 = (k : Int) ∧ I 1 12 = ((min k ni : Nat) : Int) ∧ I 11 0 = (((min k s - ni + 1) / 2 : Nat) : Int) ∧ I 11 1 = (((min k s - ni) / 2 : Nat) : Int)) ∧
  NR I ∧ (∀ j, -2147483648 ≤ I 8 j ∧ I 8 j < 2147483648) ∧ (∀ j, -2147483648 ≤ I 5 j ∧ I 5 j < 2147483648) ∧
  (∀ j, j < k → I 3 j = kd j ∧ I 4 j = ow j) ∧ (∀ j, j < k → ni ≤ j → j < s → I 5 j = -1 ∧ I 7 j = r2 j ∧ I 8 j = r3 j) ∧ (∀ j, j < k → s ≤ j → I 5 j = r2 j ∧ I 6 j = pbF kd r2 r3 j)
theorem BT_s {I0 I1 : mI} {N ni s : Nat} {kd : Nat → Int} {ow r2 r3 : Nat → Nat} {k : Nat} (hrk : RKq N ni s kd ow r2 r3) (h : BT I0 I N ni s kd ow r2 r3 k) (hk : k < N)
    (h0 : ∀ a, ¬ a = 1 → ¬ a = 3 → ¬ a = 4 → ¬ a = 5 → ¬ a = 6 → ¬ a = 7 → ¬ a = 8 → ¬ a = 11 → I1 a = I a)
    (hc : I1 1 11 = (k : Int) + 1 ∧ I1 1 12 = ((min (k + 1) ni : Nat) : Int) ∧ I1 11 0 = (((min (k + 1) s - ni + 1) / 2 : Nat) : Int) ∧ I1 11 1 = (((min (k + 1) s - ni) / 2 : Nat) : Int))
    (ho : ∀ j, ¬ j = k → I1 3 j = I 3 j ∧ I1 4 j = I 4 j ∧ I1 5 j = I 5 j ∧ I1 6 j = I 6 j ∧ I1 7 j = I 7 j ∧ I1 8 j = I 8 j)
    (hn : I1 3 k = kd k ∧ I1 4 k = ow k ∧ (-1 ≤ I1 5 k ∧ I1 5 k < 1000) ∧ (I1 8 k = I 8 k ∨ (0 ≤ I1 8 k ∧ I1 8 k < 1000)) ∧ (ni ≤ k → k < s → I1 5 k = -1 ∧ I1 7 k = r2 k ∧ I1 8 k = r3 k) ∧ (s ≤ k → I1 5 k = r2 k ∧ I1 6 k = pbF kd r2 r3 k)) : BT I0 I1 N ni s kd ow r2 r3 (k + 1) := by
  obtain ⟨a1, a2, a3, a4, a5, a6, a7, a8⟩ := h
  obtain ⟨n1, n2, n3, n4, n5, n6⟩ := hn
  have kk : 0 ≤ kd k ∧ kd k < 65536 ∧ ow k ≤ 2 := by
    obtain ⟨ki, kc9, kg, hni1, hnis, hsN, hN23, hs7⟩ := hrk
    rcases Nat.lt_or_ge k ni with q | q
    · have := ki k q
      omega
    · rcases Nat.lt_or_ge k s with q1 | q1
      · have := kc9 k q q1
        omega
      · obtain ⟨g1, g2, -⟩ := kg k q1 hk
        unfold KDq at g1
        omega
  refine ⟨fun a b1 b2 b3 b4 b5 b6 b7 b8 => (h0 a b1 b2 b3 b4 b5 b6 b7 b8).trans (a1 a b1 b2 b3 b4 b5 b6 b7 b8), ⟨by rw [hc.1]; omega, hc.2⟩, ⟨fun j => ?_, fun j => ?_⟩, fun j => ?_, fun j => ?_, fun j hj => ?_, fun j hj => ?_, fun j hj => ?_⟩
  · by_cases e : j = k
    · rw [e, n1]; exact ⟨kk.1, kk.2.1⟩
    · rw [(ho j e).1]; exact a3.1 j
  · by_cases e : j = k
    · rw [e, n2]; omega
    · rw [(ho j e).2.1]; exact a3.2 j
  · by_cases e : j = k
    · rw [e]
      rcases n4 with n4 | n4
      · rw [n4]; exact a4 k
      · omega
    · rw [(ho j e).2.2.2.2.2]; exact a4 j
  · by_cases e : j = k
    · rw [e]; omega
    · rw [(ho j e).2.2.1]; exact a5 j
  · by_cases e : j = k
    · rw [e]; exact ⟨n1, n2⟩
    · rw [(ho j e).1, (ho j e).2.1]; exact a6 j (by omega)
  · by_cases e : j = k
    · rw [e]; exact n5
    · rw [(ho j e).2.2.1, (ho j e).2.2.2.2.1, (ho j e).2.2.2.2.2]; exact a7 j (by omega)
  · by_cases e : j = k
    · rw [e]; exact n6
    · rw [(ho j e).2.2.1, (ho j e).2.2.2.1]; exact a8 j (by omega)
theorem w_bl1 (hx : HX X L9 xs) {N ni s : Nat} {kd : Nat → Int} {ow r2 r3 : Nat → Nat} (hN : clN sh) (hM : clM sh .null) (hrw : RW sh I N kd ow r2 r3) (hrk : RKq N ni s kd ow r2 r3) (hni3 : ni ≤ 3) (k156 : ∀ I1 : mI, BT I I1 N ni s kd ow r2 r3 N → LXf TT cl6 X mi_W_isBuilt (40 + 10) (1000 + 200 * 10) D P PX kc ks 156 [(6, .int (Int32.ofInt ((s : Nat) : Int))), (5, .int (Int32.ofInt ((1 : Nat) : Int))), (0, .ref 0), (1, .retAddr 1), (2, .ref 100), (3, .ref 124), (4, .ref 125)] [] (hp sh I1 J)) : ∀ (d k : Nat) (I1 : mI), k + d = N → BT I I1 N ni s kd ow r2 r3 k → LXf TT cl6 X mi_W_isBuilt (40 + 10) (1000 + 200 * 10) D P PX kc ks 9 [(7, .int (Int32.ofInt ((k : Nat) : Int))), (6, .int (Int32.ofInt ((min (k) s : Nat) : Int))), (5, .int (Int32.ofInt ((1 : Nat) : Int))), (0, .ref 0), (1, .retAddr 1), (2, .ref 100), (3, .ref 124), (4, .ref 125)] [] (hp sh I1 J) := by
  obtain ⟨ki, kc9, kg, hni1, hnis, hsN, hN23, hs7⟩ := id hrk
  obtain ⟨⟨f, hs0, hf⟩, hr, hR⟩ := id hrw
  intro d
  induction d with
  | zero =>
    intro k I1 hd hb
    obtain rfl : N = k := by omega
    refine lf_iload d_W_isBuilt_9 rfl ?_
    refine lf_aload_n d_W_isBuilt_11 rfl rfl rfl ?_
    refine gi_len d_W_isBuilt_12 hs0 ?_
    refine gi_icmp_ge d_W_isBuilt_13 (tgt := 156) (by decide) (by omega) (fun hb13 => ?_) (fun hb13 => False.elim (by omega))
    refine lf_sub [1, 2, 3, 4, 5, 6, 7] rfl ?_
    rw [show min N s = s by omega]
    exact k156 I1 hb
  | succ d ih =>
    intro k I1 hd hb
    obtain ⟨a1, ⟨a21, a22, a23, a24⟩, a3, a4, a5, a6, a7, a8⟩ := id hb
    have e100 : I1 (101 + k) = I (101 + k) := a1 _ (by omega) (by omega) (by omega) (by omega) (by omega) (by omega) (by omega) (by omega)
    have g0 : I1 (101 + k) 0 = kd k := (congrFun e100 0).trans (hR k (by omega)).1
    have g1 : I1 (101 + k) 1 = ow k := (congrFun e100 1).trans (hR k (by omega)).2.1
    have g2 : I1 (101 + k) 2 = r2 k := (congrFun e100 2).trans (hR k (by omega)).2.2.1
    have g3 : I1 (101 + k) 3 = r3 k := (congrFun e100 3).trans (hR k (by omega)).2.2.2
    rcases Nat.lt_or_ge k ni with q8 | q8
    · have hq9 := (ki k q8).1
      have how := (ki k q8).2
      rw [show min k ni = k by omega] at a22
      refine lf_iload d_W_isBuilt_9 rfl ?_
      refine lf_aload_n d_W_isBuilt_11 rfl rfl rfl ?_
      refine gi_len d_W_isBuilt_12 hs0 ?_
      refine gi_icmp_ge d_W_isBuilt_13 (tgt := 156) (by decide) (by omega) (fun hb13 => False.elim (by omega)) (fun hb13 => ?_)
      refine lf_aload_n d_W_isBuilt_16 rfl rfl rfl ?_
      refine lf_iload d_W_isBuilt_17 rfl ?_
      refine gi_aald (kd := 0) d_W_isBuilt_19 rfl hs0 (by omega) (hf k (by omega)) ?_
      refine lf_astore d_W_isBuilt_20 (by decide +kernel) rfl (L2 := [(8, _), (7, _), (6, _), (5, _), (0, _), (1, _), (2, _), (3, _), (4, _)]) rfl ?_
      refine lf_iload d_W_isBuilt_22 rfl ?_
      refine lf_aload d_W_isBuilt_24 rfl rfl ?_
      refine lf_iconst d_W_isBuilt_26 (v := Int32.ofInt ((0 : Nat) : Int)) rfl ?_
      refine gi_ialoadN d_W_isBuilt_27 (hr k (by omega)) (by omega) ?_
      refine gi_top (g0.trans hq9) ?_
      refine lf_bipush d_W_isBuilt_28 (v := Int32.ofInt ((105 : Nat) : Int)) (by decide +kernel) ?_
      refine gi_icmp_eq d_W_isBuilt_30 (tgt := 42) (by decide) (by omega) (fun hb30 => ?_) (fun hb30 => False.elim (by omega))
      refine lf_iconst d_W_isBuilt_42 (v := Int32.ofInt ((1 : Nat) : Int)) rfl ?_
      refine lf_goto d_W_isBuilt_43 (tgt := 47) (by decide) ?_
      refine gi_iaddN (a := (min (k) s)) (b := 1) d_W_isBuilt_47 ?_
      refine gi_top (show ((min k s + 1 : Nat) : Int) = ((min (k + 1) s : Nat) : Int) by omega) ?_
      refine lf_istore d_W_isBuilt_48 (by decide +kernel) (L2 := [(6, _), (8, _), (7, _), (5, _), (0, _), (1, _), (2, _), (3, _), (4, _)]) rfl ?_
      refine lf_iload d_W_isBuilt_50 rfl ?_
      refine lf_aload d_W_isBuilt_52 rfl rfl ?_
      refine lf_iconst d_W_isBuilt_54 (v := Int32.ofInt ((0 : Nat) : Int)) rfl ?_
      refine gi_ialoadN d_W_isBuilt_55 (hr k (by omega)) (by omega) ?_
      refine gi_top (g0.trans hq9) ?_
      refine lf_bipush d_W_isBuilt_56 (v := Int32.ofInt ((105 : Nat) : Int)) (by decide +kernel) ?_
      refine gi_icmp_ne d_W_isBuilt_58 (tgt := 78) (by decide) (by omega) (fun hb58 => False.elim (by omega)) (fun hb58 => ?_)
      refine lf_aload_n d_W_isBuilt_61 rfl rfl rfl ?_
      refine gw_callI s_W_isBuilt_62 (wI_input hx hM (m_input hx hN hM a21 (by omega) a22 (by omega)) (lev := 9) (by decide)) (S := [_]) rfl rfl gcR_1 (by decide) (by decide +kernel) (Nat.le_of_ble_eq_true rfl) (fun r62 I J w62 => ?_)
      obtain ⟨rfl, rfl, rfl⟩ := w62
      refine lf_iload d_W_isBuilt_65 rfl ?_
      refine gi_icmp_ne d_W_isBuilt_67 (tgt := 74) (by decide) (by omega) (fun hb67 => False.elim (by omega)) (fun hb67 => ?_)
      refine lf_iconst d_W_isBuilt_70 (v := Int32.ofInt ((1 : Nat) : Int)) rfl ?_
      refine lf_goto d_W_isBuilt_71 (tgt := 147) (by decide) ?_
      refine gi_iandN (a := 1) (b := 1) d_W_isBuilt_147 ?_
      refine gi_top rfl ?_
      refine lf_istore d_W_isBuilt_148 (by decide +kernel) (L2 := [(5, _), (6, _), (8, _), (7, _), (0, _), (1, _), (2, _), (3, _), (4, _)]) rfl ?_
      refine gi_iincN d_W_isBuilt_150 rfl (by decide +kernel) (L2 := [(7, _), (5, _), (6, _), (8, _), (0, _), (1, _), (2, _), (3, _), (4, _)]) rfl ?_
      refine lf_goto d_W_isBuilt_153 (tgt := 9) (by decide) ?_
      refine lf_sub [0, 2, 1, 4, 5, 6, 7, 8] rfl ?_
      refine ih (k + 1) _ (by omega) (BT_s hrk hb (by omega) ?_ ?_ ?_ ?_)
      · intro a b1 b2 b3 b4 b5 b6 b7 b8
        repeat rw [ipt_o (by omega)]
      · refine ⟨?_, ?_, ?_, ?_⟩
        · simp [ipt]
        · simp [ipt]; omega
        · simp [ipt]; rw [a23]; omega
        · simp [ipt]; rw [a24]; omega
      · intro j hj
        refine ⟨?_, ?_, ?_, ?_, ?_, ?_⟩ <;> simp [ipt, hj]
      · refine ⟨?_, ?_, ?_, ?_, ?_, ?_⟩
        · simp [ipt, hq9]
        · simp [ipt, how]
        · simp [ipt]
        · exact Or.inl (by simp [ipt])
        · intro h1 h2; omega
        · intro h1; omega
    · rw [show min k ni = ni by omega] at a22
      rcases Nat.lt_or_ge k s with q9 | q9
      · obtain ⟨hq9, how, hfi, hna⟩ := kc9 k q8 q9
        have hpar : (ow k = 0 ∧ (k - ni) % 2 = 0) ∨ (ow k = 1 ∧ (k - ni) % 2 = 1) := by omega
        have hcnt : I1 11 (ow k) = (((k - ni) / 2 : Nat) : Int) := by
          rcases hpar with ⟨e, e1⟩ | ⟨e, e1⟩
          · rw [e, a23]
            omega
          · rw [e, a24]
            omega
        have hno : ∀ j, j < k → ¬ (I1 3 j = 99 ∧ I1 4 j = (ow k : Int) ∧ I1 8 j = (r3 k : Int)) := by
          intro j hj hh
          obtain ⟨h1, h2, h3⟩ := hh
          rcases Nat.lt_or_ge j ni with z | z
          · rw [(a6 j hj).1, (ki j z).1] at h1
            exact absurd h1 (by decide)
          · obtain ⟨y1, y2, y3, y4⟩ := kc9 j z (by omega)
            rw [(a6 j hj).2] at h2
            rw [(a7 j hj z (by omega)).2.2] at h3
            omega
        refine lf_iload d_W_isBuilt_9 rfl ?_
        refine lf_aload_n d_W_isBuilt_11 rfl rfl rfl ?_
        refine gi_len d_W_isBuilt_12 hs0 ?_
        refine gi_icmp_ge d_W_isBuilt_13 (tgt := 156) (by decide) (by omega) (fun hb13 => False.elim (by omega)) (fun hb13 => ?_)
        refine lf_aload_n d_W_isBuilt_16 rfl rfl rfl ?_
        refine lf_iload d_W_isBuilt_17 rfl ?_
        refine gi_aald (kd := 0) d_W_isBuilt_19 rfl hs0 (by omega) (hf k (by omega)) ?_
        refine lf_astore d_W_isBuilt_20 (by decide +kernel) rfl (L2 := [(8, _), (7, _), (6, _), (5, _), (0, _), (1, _), (2, _), (3, _), (4, _)]) rfl ?_
        refine lf_iload d_W_isBuilt_22 rfl ?_
        refine lf_aload d_W_isBuilt_24 rfl rfl ?_
        refine lf_iconst d_W_isBuilt_26 (v := Int32.ofInt ((0 : Nat) : Int)) rfl ?_
        refine gi_ialoadN d_W_isBuilt_27 (hr k (by omega)) (by omega) ?_
        refine gi_top (g0.trans hq9) ?_
        refine lf_bipush d_W_isBuilt_28 (v := Int32.ofInt ((105 : Nat) : Int)) (by decide +kernel) ?_
        refine gi_icmp_eq d_W_isBuilt_30 (tgt := 42) (by decide) (by omega) (fun hb30 => False.elim (by omega)) (fun hb30 => ?_)
        refine lf_aload d_W_isBuilt_33 rfl rfl ?_
        refine lf_iconst d_W_isBuilt_35 (v := Int32.ofInt ((0 : Nat) : Int)) rfl ?_
        refine gi_ialoadN d_W_isBuilt_36 (hr k (by omega)) (by omega) ?_
        refine gi_top (g0.trans hq9) ?_
        refine lf_bipush d_W_isBuilt_37 (v := Int32.ofInt ((99 : Nat) : Int)) (by decide +kernel) ?_
        refine gi_icmp_ne d_W_isBuilt_39 (tgt := 46) (by decide) (by omega) (fun hb39 => False.elim (by omega)) (fun hb39 => ?_)
        refine lf_iconst d_W_isBuilt_42 (v := Int32.ofInt ((1 : Nat) : Int)) rfl ?_
        refine lf_goto d_W_isBuilt_43 (tgt := 47) (by decide) ?_
        refine gi_iaddN (a := (min (k) s)) (b := 1) d_W_isBuilt_47 ?_
        refine gi_top (show ((min k s + 1 : Nat) : Int) = ((min (k + 1) s : Nat) : Int) by omega) ?_
        refine lf_istore d_W_isBuilt_48 (by decide +kernel) (L2 := [(6, _), (8, _), (7, _), (5, _), (0, _), (1, _), (2, _), (3, _), (4, _)]) rfl ?_
        refine lf_iload d_W_isBuilt_50 rfl ?_
        refine lf_aload d_W_isBuilt_52 rfl rfl ?_
        refine lf_iconst d_W_isBuilt_54 (v := Int32.ofInt ((0 : Nat) : Int)) rfl ?_
        refine gi_ialoadN d_W_isBuilt_55 (hr k (by omega)) (by omega) ?_
        refine gi_top (g0.trans hq9) ?_
        refine lf_bipush d_W_isBuilt_56 (v := Int32.ofInt ((105 : Nat) : Int)) (by decide +kernel) ?_
        refine gi_icmp_ne d_W_isBuilt_58 (tgt := 78) (by decide) (by omega) (fun hb58 => ?_) (fun hb58 => False.elim (by omega))
        refine lf_aload d_W_isBuilt_78 rfl rfl ?_
        refine lf_iconst d_W_isBuilt_80 (v := Int32.ofInt ((0 : Nat) : Int)) rfl ?_
        refine gi_ialoadN d_W_isBuilt_81 (hr k (by omega)) (by omega) ?_
        refine gi_top (g0.trans hq9) ?_
        refine lf_bipush d_W_isBuilt_82 (v := Int32.ofInt ((99 : Nat) : Int)) (by decide +kernel) ?_
        refine gi_icmp_ne d_W_isBuilt_84 (tgt := 116) (by decide) (by omega) (fun hb84 => False.elim (by omega)) (fun hb84 => ?_)
        refine lf_aload_n d_W_isBuilt_87 rfl rfl rfl ?_
        refine lf_aload d_W_isBuilt_88 rfl rfl ?_
        refine lf_iconst d_W_isBuilt_90 (v := Int32.ofInt ((1 : Nat) : Int)) rfl ?_
        refine gi_ialoadN d_W_isBuilt_91 (hr k (by omega)) (by omega) ?_
        refine gi_top g1 ?_
        refine lf_aload d_W_isBuilt_92 rfl rfl ?_
        refine lf_iconst d_W_isBuilt_94 (v := Int32.ofInt ((2 : Nat) : Int)) rfl ?_
        refine gi_ialoadN d_W_isBuilt_95 (hr k (by omega)) (by omega) ?_
        refine gi_top g2 ?_
        refine lf_aload d_W_isBuilt_96 rfl rfl ?_
        refine lf_iconst d_W_isBuilt_98 (v := Int32.ofInt ((3 : Nat) : Int)) rfl ?_
        refine gi_ialoadN d_W_isBuilt_99 (hr k (by omega)) (by omega) ?_
        refine gi_top g3 ?_
        refine gw_callI s_W_isBuilt_100 (wI_cell hx hM (m_cell hx hN hM a3 a4 a21 (by omega) (by omega) hcnt (by omega) (by omega) (by omega) hno) (lev := 9) (by decide)) (S := [_]) rfl rfl gcR_1 (by decide) (by decide +kernel) (Nat.le_of_ble_eq_true rfl) (fun r100 I J w100 => ?_)
        obtain ⟨rfl, rfl, rfl⟩ := w100
        refine lf_iload d_W_isBuilt_103 rfl ?_
        refine gi_icmp_ne d_W_isBuilt_105 (tgt := 112) (by decide) (by omega) (fun hb105 => False.elim (by omega)) (fun hb105 => ?_)
        refine lf_iconst d_W_isBuilt_108 (v := Int32.ofInt ((1 : Nat) : Int)) rfl ?_
        refine lf_goto d_W_isBuilt_109 (tgt := 147) (by decide) ?_
        refine gi_iandN (a := 1) (b := 1) d_W_isBuilt_147 ?_
        refine gi_top rfl ?_
        refine lf_istore d_W_isBuilt_148 (by decide +kernel) (L2 := [(5, _), (6, _), (8, _), (7, _), (0, _), (1, _), (2, _), (3, _), (4, _)]) rfl ?_
        refine gi_iincN d_W_isBuilt_150 rfl (by decide +kernel) (L2 := [(7, _), (5, _), (6, _), (8, _), (0, _), (1, _), (2, _), (3, _), (4, _)]) rfl ?_
        refine lf_goto d_W_isBuilt_153 (tgt := 9) (by decide) ?_
        refine lf_sub [0, 2, 1, 4, 5, 6, 7, 8] rfl ?_
        refine ih (k + 1) _ (by omega) (BT_s hrk hb (by omega) ?_ ?_ ?_ ?_)
        · intro a b1 b2 b3 b4 b5 b6 b7 b8
          repeat rw [ipt_o (by omega)]
        · refine ⟨?_, ?_, ?_, ?_⟩
          · simp [ipt]
          · simp [ipt]; rw [a22]; omega
          · rcases hpar with ⟨e, e1⟩ | ⟨e, e1⟩
            · simp [ipt, e]; omega
            · simp [ipt, e]; rw [a23]; omega
          · rcases hpar with ⟨e, e1⟩ | ⟨e, e1⟩
            · simp [ipt, e]; rw [a24]; omega
            · simp [ipt, e]; omega
        · intro j hj
          refine ⟨?_, ?_, ?_, ?_, ?_, ?_⟩ <;> simp [ipt, hj]
        · refine ⟨?_, ?_, ?_, ?_, ?_, ?_⟩
          · simp [ipt, hq9]
          · simp [ipt]
          · simp [ipt]
          · exact Or.inr (by simp [ipt]; omega)
          · intro h1 h2
            refine ⟨?_, ?_, ?_⟩ <;> simp [ipt]
          · intro h1; omega
      · obtain ⟨g4, g5, g6, g7, g8, g9⟩ := kg k q9 (by omega)
        have f2 : I1 4 (r2 k) = (ow k : Int) ∨ I1 4 (r2 k) = 2 := by
          rw [(a6 _ (by omega)).2]; omega
        have f3 : I1 4 (r3 k) = (ow k : Int) ∨ I1 4 (r3 k) = 2 := by
          rw [(a6 _ (by omega)).2]; omega
        rcases g4 with hq9 | hq9 | hq9 | hq9 | hq9 | hq9 | hq9
        · refine lf_iload d_W_isBuilt_9 rfl ?_
          refine lf_aload_n d_W_isBuilt_11 rfl rfl rfl ?_
          refine gi_len d_W_isBuilt_12 hs0 ?_
          refine gi_icmp_ge d_W_isBuilt_13 (tgt := 156) (by decide) (by omega) (fun hb13 => False.elim (by omega)) (fun hb13 => ?_)
          refine lf_aload_n d_W_isBuilt_16 rfl rfl rfl ?_
          refine lf_iload d_W_isBuilt_17 rfl ?_
          refine gi_aald (kd := 0) d_W_isBuilt_19 rfl hs0 (by omega) (hf k (by omega)) ?_
          refine lf_astore d_W_isBuilt_20 (by decide +kernel) rfl (L2 := [(8, _), (7, _), (6, _), (5, _), (0, _), (1, _), (2, _), (3, _), (4, _)]) rfl ?_
          refine lf_iload d_W_isBuilt_22 rfl ?_
          refine lf_aload d_W_isBuilt_24 rfl rfl ?_
          refine lf_iconst d_W_isBuilt_26 (v := Int32.ofInt ((0 : Nat) : Int)) rfl ?_
          refine gi_ialoadN d_W_isBuilt_27 (hr k (by omega)) (by omega) ?_
          refine gi_top (g0.trans hq9) ?_
          refine lf_bipush d_W_isBuilt_28 (v := Int32.ofInt ((105 : Nat) : Int)) (by decide +kernel) ?_
          refine gi_icmp_eq d_W_isBuilt_30 (tgt := 42) (by decide) (by omega) (fun hb30 => False.elim (by omega)) (fun hb30 => ?_)
          refine lf_aload d_W_isBuilt_33 rfl rfl ?_
          refine lf_iconst d_W_isBuilt_35 (v := Int32.ofInt ((0 : Nat) : Int)) rfl ?_
          refine gi_ialoadN d_W_isBuilt_36 (hr k (by omega)) (by omega) ?_
          refine gi_top (g0.trans hq9) ?_
          refine lf_bipush d_W_isBuilt_37 (v := Int32.ofInt ((99 : Nat) : Int)) (by decide +kernel) ?_
          refine gi_icmp_ne d_W_isBuilt_39 (tgt := 46) (by decide) (by omega) (fun hb39 => ?_) (fun hb39 => False.elim (by omega))
          refine lf_iconst d_W_isBuilt_46 (v := Int32.ofInt ((0 : Nat) : Int)) rfl ?_
          refine gi_iaddN (a := (min (k) s)) (b := 0) d_W_isBuilt_47 ?_
          refine gi_top (show ((min k s + 0 : Nat) : Int) = ((min (k + 1) s : Nat) : Int) by omega) ?_
          refine lf_istore d_W_isBuilt_48 (by decide +kernel) (L2 := [(6, _), (8, _), (7, _), (5, _), (0, _), (1, _), (2, _), (3, _), (4, _)]) rfl ?_
          refine lf_iload d_W_isBuilt_50 rfl ?_
          refine lf_aload d_W_isBuilt_52 rfl rfl ?_
          refine lf_iconst d_W_isBuilt_54 (v := Int32.ofInt ((0 : Nat) : Int)) rfl ?_
          refine gi_ialoadN d_W_isBuilt_55 (hr k (by omega)) (by omega) ?_
          refine gi_top (g0.trans hq9) ?_
          refine lf_bipush d_W_isBuilt_56 (v := Int32.ofInt ((105 : Nat) : Int)) (by decide +kernel) ?_
          refine gi_icmp_ne d_W_isBuilt_58 (tgt := 78) (by decide) (by omega) (fun hb58 => ?_) (fun hb58 => False.elim (by omega))
          refine lf_aload d_W_isBuilt_78 rfl rfl ?_
          refine lf_iconst d_W_isBuilt_80 (v := Int32.ofInt ((0 : Nat) : Int)) rfl ?_
          refine gi_ialoadN d_W_isBuilt_81 (hr k (by omega)) (by omega) ?_
          refine gi_top (g0.trans hq9) ?_
          refine lf_bipush d_W_isBuilt_82 (v := Int32.ofInt ((99 : Nat) : Int)) (by decide +kernel) ?_
          refine gi_icmp_ne d_W_isBuilt_84 (tgt := 116) (by decide) (by omega) (fun hb84 => ?_) (fun hb84 => False.elim (by omega))
          refine lf_aload_n d_W_isBuilt_116 rfl rfl rfl ?_
          refine lf_aload d_W_isBuilt_117 rfl rfl ?_
          refine lf_iconst d_W_isBuilt_119 (v := Int32.ofInt ((1 : Nat) : Int)) rfl ?_
          refine gi_ialoadN d_W_isBuilt_120 (hr k (by omega)) (by omega) ?_
          refine gi_top g1 ?_
          refine lf_aload d_W_isBuilt_121 rfl rfl ?_
          refine lf_iconst d_W_isBuilt_123 (v := Int32.ofInt ((0 : Nat) : Int)) rfl ?_
          refine gi_ialoadN d_W_isBuilt_124 (hr k (by omega)) (by omega) ?_
          refine gi_top (g0.trans hq9) ?_
          refine lf_i2c d_W_isBuilt_125 ?_
          refine gi_topX (oi_i2c (by decide)) ?_
          refine lf_aload d_W_isBuilt_126 rfl rfl ?_
          refine lf_iconst d_W_isBuilt_128 (v := Int32.ofInt ((2 : Nat) : Int)) rfl ?_
          refine gi_ialoadN d_W_isBuilt_129 (hr k (by omega)) (by omega) ?_
          refine gi_top g2 ?_
          refine lf_aload d_W_isBuilt_130 rfl rfl ?_
          refine lf_iconst d_W_isBuilt_132 (v := Int32.ofInt ((3 : Nat) : Int)) rfl ?_
          refine gi_ialoadN d_W_isBuilt_133 (hr k (by omega)) (by omega) ?_
          refine gi_top g3 ?_
          refine gw_callI s_W_isBuilt_134 (wI_gate hx hM (m_gate2 hx hN hM a3 (kd := ((97 : Nat) : Int)) a21 (by omega) g5 g6 g7 (by decide) f2 f3) (lev := 9) (by decide)) (S := [_]) rfl rfl gcR_1 (by decide) (by decide +kernel) (Nat.le_of_ble_eq_true rfl) (fun r134 I J w134 => ?_)
          obtain ⟨rfl, rfl, rfl⟩ := w134
          refine lf_iload d_W_isBuilt_137 rfl ?_
          refine gi_icmp_ne d_W_isBuilt_139 (tgt := 146) (by decide) (by omega) (fun hb139 => False.elim (by omega)) (fun hb139 => ?_)
          refine lf_iconst d_W_isBuilt_142 (v := Int32.ofInt ((1 : Nat) : Int)) rfl ?_
          refine lf_goto d_W_isBuilt_143 (tgt := 147) (by decide) ?_
          refine gi_iandN (a := 1) (b := 1) d_W_isBuilt_147 ?_
          refine gi_top rfl ?_
          refine lf_istore d_W_isBuilt_148 (by decide +kernel) (L2 := [(5, _), (6, _), (8, _), (7, _), (0, _), (1, _), (2, _), (3, _), (4, _)]) rfl ?_
          refine gi_iincN d_W_isBuilt_150 rfl (by decide +kernel) (L2 := [(7, _), (5, _), (6, _), (8, _), (0, _), (1, _), (2, _), (3, _), (4, _)]) rfl ?_
          refine lf_goto d_W_isBuilt_153 (tgt := 9) (by decide) ?_
          refine lf_sub [0, 2, 1, 4, 5, 6, 7, 8] rfl ?_
          refine ih (k + 1) _ (by omega) (BT_s hrk hb (by omega) ?_ ?_ ?_ ?_)
          · intro a b1 b2 b3 b4 b5 b6 b7 b8
            repeat rw [ipt_o (by omega)]
          · refine ⟨?_, ?_, ?_, ?_⟩
            · simp [ipt]
            · simp [ipt]; rw [a22]; omega
            · simp [ipt]; rw [a23]; omega
            · simp [ipt]; rw [a24]; omega
          · intro j hj
            refine ⟨?_, ?_, ?_, ?_, ?_, ?_⟩ <;> simp [ipt, hj]
          · refine ⟨?_, ?_, ?_, ?_, ?_, ?_⟩
            · simp [ipt, hq9]
            · simp [ipt]
            · simp [ipt]; omega
            · exact Or.inl (by simp [ipt])
            · intro h1 h2; omega
            · intro h1
              have hpb : pbF kd r2 r3 k = r3 k := if_neg (by omega)
              rw [hpb]
              exact ⟨by simp [ipt], by simp [ipt]⟩
        · refine lf_iload d_W_isBuilt_9 rfl ?_
          refine lf_aload_n d_W_isBuilt_11 rfl rfl rfl ?_
          refine gi_len d_W_isBuilt_12 hs0 ?_
          refine gi_icmp_ge d_W_isBuilt_13 (tgt := 156) (by decide) (by omega) (fun hb13 => False.elim (by omega)) (fun hb13 => ?_)
          refine lf_aload_n d_W_isBuilt_16 rfl rfl rfl ?_
          refine lf_iload d_W_isBuilt_17 rfl ?_
          refine gi_aald (kd := 0) d_W_isBuilt_19 rfl hs0 (by omega) (hf k (by omega)) ?_
          refine lf_astore d_W_isBuilt_20 (by decide +kernel) rfl (L2 := [(8, _), (7, _), (6, _), (5, _), (0, _), (1, _), (2, _), (3, _), (4, _)]) rfl ?_
          refine lf_iload d_W_isBuilt_22 rfl ?_
          refine lf_aload d_W_isBuilt_24 rfl rfl ?_
          refine lf_iconst d_W_isBuilt_26 (v := Int32.ofInt ((0 : Nat) : Int)) rfl ?_
          refine gi_ialoadN d_W_isBuilt_27 (hr k (by omega)) (by omega) ?_
          refine gi_top (g0.trans hq9) ?_
          refine lf_bipush d_W_isBuilt_28 (v := Int32.ofInt ((105 : Nat) : Int)) (by decide +kernel) ?_
          refine gi_icmp_eq d_W_isBuilt_30 (tgt := 42) (by decide) (by omega) (fun hb30 => False.elim (by omega)) (fun hb30 => ?_)
          refine lf_aload d_W_isBuilt_33 rfl rfl ?_
          refine lf_iconst d_W_isBuilt_35 (v := Int32.ofInt ((0 : Nat) : Int)) rfl ?_
          refine gi_ialoadN d_W_isBuilt_36 (hr k (by omega)) (by omega) ?_
          refine gi_top (g0.trans hq9) ?_
          refine lf_bipush d_W_isBuilt_37 (v := Int32.ofInt ((99 : Nat) : Int)) (by decide +kernel) ?_
          refine gi_icmp_ne d_W_isBuilt_39 (tgt := 46) (by decide) (by omega) (fun hb39 => ?_) (fun hb39 => False.elim (by omega))
          refine lf_iconst d_W_isBuilt_46 (v := Int32.ofInt ((0 : Nat) : Int)) rfl ?_
          refine gi_iaddN (a := (min (k) s)) (b := 0) d_W_isBuilt_47 ?_
          refine gi_top (show ((min k s + 0 : Nat) : Int) = ((min (k + 1) s : Nat) : Int) by omega) ?_
          refine lf_istore d_W_isBuilt_48 (by decide +kernel) (L2 := [(6, _), (8, _), (7, _), (5, _), (0, _), (1, _), (2, _), (3, _), (4, _)]) rfl ?_
          refine lf_iload d_W_isBuilt_50 rfl ?_
          refine lf_aload d_W_isBuilt_52 rfl rfl ?_
          refine lf_iconst d_W_isBuilt_54 (v := Int32.ofInt ((0 : Nat) : Int)) rfl ?_
          refine gi_ialoadN d_W_isBuilt_55 (hr k (by omega)) (by omega) ?_
          refine gi_top (g0.trans hq9) ?_
          refine lf_bipush d_W_isBuilt_56 (v := Int32.ofInt ((105 : Nat) : Int)) (by decide +kernel) ?_
          refine gi_icmp_ne d_W_isBuilt_58 (tgt := 78) (by decide) (by omega) (fun hb58 => ?_) (fun hb58 => False.elim (by omega))
          refine lf_aload d_W_isBuilt_78 rfl rfl ?_
          refine lf_iconst d_W_isBuilt_80 (v := Int32.ofInt ((0 : Nat) : Int)) rfl ?_
          refine gi_ialoadN d_W_isBuilt_81 (hr k (by omega)) (by omega) ?_
          refine gi_top (g0.trans hq9) ?_
          refine lf_bipush d_W_isBuilt_82 (v := Int32.ofInt ((99 : Nat) : Int)) (by decide +kernel) ?_
          refine gi_icmp_ne d_W_isBuilt_84 (tgt := 116) (by decide) (by omega) (fun hb84 => ?_) (fun hb84 => False.elim (by omega))
          refine lf_aload_n d_W_isBuilt_116 rfl rfl rfl ?_
          refine lf_aload d_W_isBuilt_117 rfl rfl ?_
          refine lf_iconst d_W_isBuilt_119 (v := Int32.ofInt ((1 : Nat) : Int)) rfl ?_
          refine gi_ialoadN d_W_isBuilt_120 (hr k (by omega)) (by omega) ?_
          refine gi_top g1 ?_
          refine lf_aload d_W_isBuilt_121 rfl rfl ?_
          refine lf_iconst d_W_isBuilt_123 (v := Int32.ofInt ((0 : Nat) : Int)) rfl ?_
          refine gi_ialoadN d_W_isBuilt_124 (hr k (by omega)) (by omega) ?_
          refine gi_top (g0.trans hq9) ?_
          refine lf_i2c d_W_isBuilt_125 ?_
          refine gi_topX (oi_i2c (by decide)) ?_
          refine lf_aload d_W_isBuilt_126 rfl rfl ?_
          refine lf_iconst d_W_isBuilt_128 (v := Int32.ofInt ((2 : Nat) : Int)) rfl ?_
          refine gi_ialoadN d_W_isBuilt_129 (hr k (by omega)) (by omega) ?_
          refine gi_top g2 ?_
          refine lf_aload d_W_isBuilt_130 rfl rfl ?_
          refine lf_iconst d_W_isBuilt_132 (v := Int32.ofInt ((3 : Nat) : Int)) rfl ?_
          refine gi_ialoadN d_W_isBuilt_133 (hr k (by omega)) (by omega) ?_
          refine gi_top g3 ?_
          refine gw_callI s_W_isBuilt_134 (wI_gate hx hM (m_gate2 hx hN hM a3 (kd := ((110 : Nat) : Int)) a21 (by omega) g5 g6 g7 (by decide) f2 f3) (lev := 9) (by decide)) (S := [_]) rfl rfl gcR_1 (by decide) (by decide +kernel) (Nat.le_of_ble_eq_true rfl) (fun r134 I J w134 => ?_)
          obtain ⟨rfl, rfl, rfl⟩ := w134
          refine lf_iload d_W_isBuilt_137 rfl ?_
          refine gi_icmp_ne d_W_isBuilt_139 (tgt := 146) (by decide) (by omega) (fun hb139 => False.elim (by omega)) (fun hb139 => ?_)
          refine lf_iconst d_W_isBuilt_142 (v := Int32.ofInt ((1 : Nat) : Int)) rfl ?_
          refine lf_goto d_W_isBuilt_143 (tgt := 147) (by decide) ?_
          refine gi_iandN (a := 1) (b := 1) d_W_isBuilt_147 ?_
          refine gi_top rfl ?_
          refine lf_istore d_W_isBuilt_148 (by decide +kernel) (L2 := [(5, _), (6, _), (8, _), (7, _), (0, _), (1, _), (2, _), (3, _), (4, _)]) rfl ?_
          refine gi_iincN d_W_isBuilt_150 rfl (by decide +kernel) (L2 := [(7, _), (5, _), (6, _), (8, _), (0, _), (1, _), (2, _), (3, _), (4, _)]) rfl ?_
          refine lf_goto d_W_isBuilt_153 (tgt := 9) (by decide) ?_
          refine lf_sub [0, 2, 1, 4, 5, 6, 7, 8] rfl ?_
          refine ih (k + 1) _ (by omega) (BT_s hrk hb (by omega) ?_ ?_ ?_ ?_)
          · intro a b1 b2 b3 b4 b5 b6 b7 b8
            repeat rw [ipt_o (by omega)]
          · refine ⟨?_, ?_, ?_, ?_⟩
            · simp [ipt]
            · simp [ipt]; rw [a22]; omega
            · simp [ipt]; rw [a23]; omega
            · simp [ipt]; rw [a24]; omega
          · intro j hj
            refine ⟨?_, ?_, ?_, ?_, ?_, ?_⟩ <;> simp [ipt, hj]
          · refine ⟨?_, ?_, ?_, ?_, ?_, ?_⟩
            · simp [ipt, hq9]
            · simp [ipt]
            · simp [ipt]; omega
            · exact Or.inl (by simp [ipt])
            · intro h1 h2; omega
            · intro h1
              have hpb : pbF kd r2 r3 k = r3 k := if_neg (by omega)
              rw [hpb]
              exact ⟨by simp [ipt], by simp [ipt]⟩
        · refine lf_iload d_W_isBuilt_9 rfl ?_
          refine lf_aload_n d_W_isBuilt_11 rfl rfl rfl ?_
          refine gi_len d_W_isBuilt_12 hs0 ?_
          refine gi_icmp_ge d_W_isBuilt_13 (tgt := 156) (by decide) (by omega) (fun hb13 => False.elim (by omega)) (fun hb13 => ?_)
          refine lf_aload_n d_W_isBuilt_16 rfl rfl rfl ?_
          refine lf_iload d_W_isBuilt_17 rfl ?_
          refine gi_aald (kd := 0) d_W_isBuilt_19 rfl hs0 (by omega) (hf k (by omega)) ?_
          refine lf_astore d_W_isBuilt_20 (by decide +kernel) rfl (L2 := [(8, _), (7, _), (6, _), (5, _), (0, _), (1, _), (2, _), (3, _), (4, _)]) rfl ?_
          refine lf_iload d_W_isBuilt_22 rfl ?_
          refine lf_aload d_W_isBuilt_24 rfl rfl ?_
          refine lf_iconst d_W_isBuilt_26 (v := Int32.ofInt ((0 : Nat) : Int)) rfl ?_
          refine gi_ialoadN d_W_isBuilt_27 (hr k (by omega)) (by omega) ?_
          refine gi_top (g0.trans hq9) ?_
          refine lf_bipush d_W_isBuilt_28 (v := Int32.ofInt ((105 : Nat) : Int)) (by decide +kernel) ?_
          refine gi_icmp_eq d_W_isBuilt_30 (tgt := 42) (by decide) (by omega) (fun hb30 => False.elim (by omega)) (fun hb30 => ?_)
          refine lf_aload d_W_isBuilt_33 rfl rfl ?_
          refine lf_iconst d_W_isBuilt_35 (v := Int32.ofInt ((0 : Nat) : Int)) rfl ?_
          refine gi_ialoadN d_W_isBuilt_36 (hr k (by omega)) (by omega) ?_
          refine gi_top (g0.trans hq9) ?_
          refine lf_bipush d_W_isBuilt_37 (v := Int32.ofInt ((99 : Nat) : Int)) (by decide +kernel) ?_
          refine gi_icmp_ne d_W_isBuilt_39 (tgt := 46) (by decide) (by omega) (fun hb39 => ?_) (fun hb39 => False.elim (by omega))
          refine lf_iconst d_W_isBuilt_46 (v := Int32.ofInt ((0 : Nat) : Int)) rfl ?_
          refine gi_iaddN (a := (min (k) s)) (b := 0) d_W_isBuilt_47 ?_
          refine gi_top (show ((min k s + 0 : Nat) : Int) = ((min (k + 1) s : Nat) : Int) by omega) ?_
          refine lf_istore d_W_isBuilt_48 (by decide +kernel) (L2 := [(6, _), (8, _), (7, _), (5, _), (0, _), (1, _), (2, _), (3, _), (4, _)]) rfl ?_
          refine lf_iload d_W_isBuilt_50 rfl ?_
          refine lf_aload d_W_isBuilt_52 rfl rfl ?_
          refine lf_iconst d_W_isBuilt_54 (v := Int32.ofInt ((0 : Nat) : Int)) rfl ?_
          refine gi_ialoadN d_W_isBuilt_55 (hr k (by omega)) (by omega) ?_
          refine gi_top (g0.trans hq9) ?_
          refine lf_bipush d_W_isBuilt_56 (v := Int32.ofInt ((105 : Nat) : Int)) (by decide +kernel) ?_
          refine gi_icmp_ne d_W_isBuilt_58 (tgt := 78) (by decide) (by omega) (fun hb58 => ?_) (fun hb58 => False.elim (by omega))
          refine lf_aload d_W_isBuilt_78 rfl rfl ?_
          refine lf_iconst d_W_isBuilt_80 (v := Int32.ofInt ((0 : Nat) : Int)) rfl ?_
          refine gi_ialoadN d_W_isBuilt_81 (hr k (by omega)) (by omega) ?_
          refine gi_top (g0.trans hq9) ?_
          refine lf_bipush d_W_isBuilt_82 (v := Int32.ofInt ((99 : Nat) : Int)) (by decide +kernel) ?_
          refine gi_icmp_ne d_W_isBuilt_84 (tgt := 116) (by decide) (by omega) (fun hb84 => ?_) (fun hb84 => False.elim (by omega))
          refine lf_aload_n d_W_isBuilt_116 rfl rfl rfl ?_
          refine lf_aload d_W_isBuilt_117 rfl rfl ?_
          refine lf_iconst d_W_isBuilt_119 (v := Int32.ofInt ((1 : Nat) : Int)) rfl ?_
          refine gi_ialoadN d_W_isBuilt_120 (hr k (by omega)) (by omega) ?_
          refine gi_top g1 ?_
          refine lf_aload d_W_isBuilt_121 rfl rfl ?_
          refine lf_iconst d_W_isBuilt_123 (v := Int32.ofInt ((0 : Nat) : Int)) rfl ?_
          refine gi_ialoadN d_W_isBuilt_124 (hr k (by omega)) (by omega) ?_
          refine gi_top (g0.trans hq9) ?_
          refine lf_i2c d_W_isBuilt_125 ?_
          refine gi_topX (oi_i2c (by decide)) ?_
          refine lf_aload d_W_isBuilt_126 rfl rfl ?_
          refine lf_iconst d_W_isBuilt_128 (v := Int32.ofInt ((2 : Nat) : Int)) rfl ?_
          refine gi_ialoadN d_W_isBuilt_129 (hr k (by omega)) (by omega) ?_
          refine gi_top g2 ?_
          refine lf_aload d_W_isBuilt_130 rfl rfl ?_
          refine lf_iconst d_W_isBuilt_132 (v := Int32.ofInt ((3 : Nat) : Int)) rfl ?_
          refine gi_ialoadN d_W_isBuilt_133 (hr k (by omega)) (by omega) ?_
          refine gi_top g3 ?_
          refine gw_callI s_W_isBuilt_134 (wI_gate hx hM (m_gate2 hx hN hM a3 (kd := ((111 : Nat) : Int)) a21 (by omega) g5 g6 g7 (by decide) f2 f3) (lev := 9) (by decide)) (S := [_]) rfl rfl gcR_1 (by decide) (by decide +kernel) (Nat.le_of_ble_eq_true rfl) (fun r134 I J w134 => ?_)
          obtain ⟨rfl, rfl, rfl⟩ := w134
          refine lf_iload d_W_isBuilt_137 rfl ?_
          refine gi_icmp_ne d_W_isBuilt_139 (tgt := 146) (by decide) (by omega) (fun hb139 => False.elim (by omega)) (fun hb139 => ?_)
          refine lf_iconst d_W_isBuilt_142 (v := Int32.ofInt ((1 : Nat) : Int)) rfl ?_
          refine lf_goto d_W_isBuilt_143 (tgt := 147) (by decide) ?_
          refine gi_iandN (a := 1) (b := 1) d_W_isBuilt_147 ?_
          refine gi_top rfl ?_
          refine lf_istore d_W_isBuilt_148 (by decide +kernel) (L2 := [(5, _), (6, _), (8, _), (7, _), (0, _), (1, _), (2, _), (3, _), (4, _)]) rfl ?_
          refine gi_iincN d_W_isBuilt_150 rfl (by decide +kernel) (L2 := [(7, _), (5, _), (6, _), (8, _), (0, _), (1, _), (2, _), (3, _), (4, _)]) rfl ?_
          refine lf_goto d_W_isBuilt_153 (tgt := 9) (by decide) ?_
          refine lf_sub [0, 2, 1, 4, 5, 6, 7, 8] rfl ?_
          refine ih (k + 1) _ (by omega) (BT_s hrk hb (by omega) ?_ ?_ ?_ ?_)
          · intro a b1 b2 b3 b4 b5 b6 b7 b8
            repeat rw [ipt_o (by omega)]
          · refine ⟨?_, ?_, ?_, ?_⟩
            · simp [ipt]
            · simp [ipt]; rw [a22]; omega
            · simp [ipt]; rw [a23]; omega
            · simp [ipt]; rw [a24]; omega
          · intro j hj
            refine ⟨?_, ?_, ?_, ?_, ?_, ?_⟩ <;> simp [ipt, hj]
          · refine ⟨?_, ?_, ?_, ?_, ?_, ?_⟩
            · simp [ipt, hq9]
            · simp [ipt]
            · simp [ipt]; omega
            · exact Or.inl (by simp [ipt])
            · intro h1 h2; omega
            · intro h1
              have hpb : pbF kd r2 r3 k = r3 k := if_neg (by omega)
              rw [hpb]
              exact ⟨by simp [ipt], by simp [ipt]⟩
        · refine lf_iload d_W_isBuilt_9 rfl ?_
          refine lf_aload_n d_W_isBuilt_11 rfl rfl rfl ?_
          refine gi_len d_W_isBuilt_12 hs0 ?_
          refine gi_icmp_ge d_W_isBuilt_13 (tgt := 156) (by decide) (by omega) (fun hb13 => False.elim (by omega)) (fun hb13 => ?_)
          refine lf_aload_n d_W_isBuilt_16 rfl rfl rfl ?_
          refine lf_iload d_W_isBuilt_17 rfl ?_
          refine gi_aald (kd := 0) d_W_isBuilt_19 rfl hs0 (by omega) (hf k (by omega)) ?_
          refine lf_astore d_W_isBuilt_20 (by decide +kernel) rfl (L2 := [(8, _), (7, _), (6, _), (5, _), (0, _), (1, _), (2, _), (3, _), (4, _)]) rfl ?_
          refine lf_iload d_W_isBuilt_22 rfl ?_
          refine lf_aload d_W_isBuilt_24 rfl rfl ?_
          refine lf_iconst d_W_isBuilt_26 (v := Int32.ofInt ((0 : Nat) : Int)) rfl ?_
          refine gi_ialoadN d_W_isBuilt_27 (hr k (by omega)) (by omega) ?_
          refine gi_top (g0.trans hq9) ?_
          refine lf_bipush d_W_isBuilt_28 (v := Int32.ofInt ((105 : Nat) : Int)) (by decide +kernel) ?_
          refine gi_icmp_eq d_W_isBuilt_30 (tgt := 42) (by decide) (by omega) (fun hb30 => False.elim (by omega)) (fun hb30 => ?_)
          refine lf_aload d_W_isBuilt_33 rfl rfl ?_
          refine lf_iconst d_W_isBuilt_35 (v := Int32.ofInt ((0 : Nat) : Int)) rfl ?_
          refine gi_ialoadN d_W_isBuilt_36 (hr k (by omega)) (by omega) ?_
          refine gi_top (g0.trans hq9) ?_
          refine lf_bipush d_W_isBuilt_37 (v := Int32.ofInt ((99 : Nat) : Int)) (by decide +kernel) ?_
          refine gi_icmp_ne d_W_isBuilt_39 (tgt := 46) (by decide) (by omega) (fun hb39 => ?_) (fun hb39 => False.elim (by omega))
          refine lf_iconst d_W_isBuilt_46 (v := Int32.ofInt ((0 : Nat) : Int)) rfl ?_
          refine gi_iaddN (a := (min (k) s)) (b := 0) d_W_isBuilt_47 ?_
          refine gi_top (show ((min k s + 0 : Nat) : Int) = ((min (k + 1) s : Nat) : Int) by omega) ?_
          refine lf_istore d_W_isBuilt_48 (by decide +kernel) (L2 := [(6, _), (8, _), (7, _), (5, _), (0, _), (1, _), (2, _), (3, _), (4, _)]) rfl ?_
          refine lf_iload d_W_isBuilt_50 rfl ?_
          refine lf_aload d_W_isBuilt_52 rfl rfl ?_
          refine lf_iconst d_W_isBuilt_54 (v := Int32.ofInt ((0 : Nat) : Int)) rfl ?_
          refine gi_ialoadN d_W_isBuilt_55 (hr k (by omega)) (by omega) ?_
          refine gi_top (g0.trans hq9) ?_
          refine lf_bipush d_W_isBuilt_56 (v := Int32.ofInt ((105 : Nat) : Int)) (by decide +kernel) ?_
          refine gi_icmp_ne d_W_isBuilt_58 (tgt := 78) (by decide) (by omega) (fun hb58 => ?_) (fun hb58 => False.elim (by omega))
          refine lf_aload d_W_isBuilt_78 rfl rfl ?_
          refine lf_iconst d_W_isBuilt_80 (v := Int32.ofInt ((0 : Nat) : Int)) rfl ?_
          refine gi_ialoadN d_W_isBuilt_81 (hr k (by omega)) (by omega) ?_
          refine gi_top (g0.trans hq9) ?_
          refine lf_bipush d_W_isBuilt_82 (v := Int32.ofInt ((99 : Nat) : Int)) (by decide +kernel) ?_
          refine gi_icmp_ne d_W_isBuilt_84 (tgt := 116) (by decide) (by omega) (fun hb84 => ?_) (fun hb84 => False.elim (by omega))
          refine lf_aload_n d_W_isBuilt_116 rfl rfl rfl ?_
          refine lf_aload d_W_isBuilt_117 rfl rfl ?_
          refine lf_iconst d_W_isBuilt_119 (v := Int32.ofInt ((1 : Nat) : Int)) rfl ?_
          refine gi_ialoadN d_W_isBuilt_120 (hr k (by omega)) (by omega) ?_
          refine gi_top g1 ?_
          refine lf_aload d_W_isBuilt_121 rfl rfl ?_
          refine lf_iconst d_W_isBuilt_123 (v := Int32.ofInt ((0 : Nat) : Int)) rfl ?_
          refine gi_ialoadN d_W_isBuilt_124 (hr k (by omega)) (by omega) ?_
          refine gi_top (g0.trans hq9) ?_
          refine lf_i2c d_W_isBuilt_125 ?_
          refine gi_topX (oi_i2c (by decide)) ?_
          refine lf_aload d_W_isBuilt_126 rfl rfl ?_
          refine lf_iconst d_W_isBuilt_128 (v := Int32.ofInt ((2 : Nat) : Int)) rfl ?_
          refine gi_ialoadN d_W_isBuilt_129 (hr k (by omega)) (by omega) ?_
          refine gi_top g2 ?_
          refine lf_aload d_W_isBuilt_130 rfl rfl ?_
          refine lf_iconst d_W_isBuilt_132 (v := Int32.ofInt ((3 : Nat) : Int)) rfl ?_
          refine gi_ialoadN d_W_isBuilt_133 (hr k (by omega)) (by omega) ?_
          refine gi_top g3 ?_
          refine gw_callI s_W_isBuilt_134 (wI_gate hx hM (m_gate2 hx hN hM a3 (kd := ((114 : Nat) : Int)) a21 (by omega) g5 g6 g7 (by decide) f2 f3) (lev := 9) (by decide)) (S := [_]) rfl rfl gcR_1 (by decide) (by decide +kernel) (Nat.le_of_ble_eq_true rfl) (fun r134 I J w134 => ?_)
          obtain ⟨rfl, rfl, rfl⟩ := w134
          refine lf_iload d_W_isBuilt_137 rfl ?_
          refine gi_icmp_ne d_W_isBuilt_139 (tgt := 146) (by decide) (by omega) (fun hb139 => False.elim (by omega)) (fun hb139 => ?_)
          refine lf_iconst d_W_isBuilt_142 (v := Int32.ofInt ((1 : Nat) : Int)) rfl ?_
          refine lf_goto d_W_isBuilt_143 (tgt := 147) (by decide) ?_
          refine gi_iandN (a := 1) (b := 1) d_W_isBuilt_147 ?_
          refine gi_top rfl ?_
          refine lf_istore d_W_isBuilt_148 (by decide +kernel) (L2 := [(5, _), (6, _), (8, _), (7, _), (0, _), (1, _), (2, _), (3, _), (4, _)]) rfl ?_
          refine gi_iincN d_W_isBuilt_150 rfl (by decide +kernel) (L2 := [(7, _), (5, _), (6, _), (8, _), (0, _), (1, _), (2, _), (3, _), (4, _)]) rfl ?_
          refine lf_goto d_W_isBuilt_153 (tgt := 9) (by decide) ?_
          refine lf_sub [0, 2, 1, 4, 5, 6, 7, 8] rfl ?_
          refine ih (k + 1) _ (by omega) (BT_s hrk hb (by omega) ?_ ?_ ?_ ?_)
          · intro a b1 b2 b3 b4 b5 b6 b7 b8
            repeat rw [ipt_o (by omega)]
          · refine ⟨?_, ?_, ?_, ?_⟩
            · simp [ipt]
            · simp [ipt]; rw [a22]; omega
            · simp [ipt]; rw [a23]; omega
            · simp [ipt]; rw [a24]; omega
          · intro j hj
            refine ⟨?_, ?_, ?_, ?_, ?_, ?_⟩ <;> simp [ipt, hj]
          · refine ⟨?_, ?_, ?_, ?_, ?_, ?_⟩
            · simp [ipt, hq9]
            · simp [ipt]
            · simp [ipt]; omega
            · exact Or.inl (by simp [ipt])
            · intro h1 h2; omega
            · intro h1
              have hpb : pbF kd r2 r3 k = r3 k := if_neg (by omega)
              rw [hpb]
              exact ⟨by simp [ipt], by simp [ipt]⟩
        · refine lf_iload d_W_isBuilt_9 rfl ?_
          refine lf_aload_n d_W_isBuilt_11 rfl rfl rfl ?_
          refine gi_len d_W_isBuilt_12 hs0 ?_
          refine gi_icmp_ge d_W_isBuilt_13 (tgt := 156) (by decide) (by omega) (fun hb13 => False.elim (by omega)) (fun hb13 => ?_)
          refine lf_aload_n d_W_isBuilt_16 rfl rfl rfl ?_
          refine lf_iload d_W_isBuilt_17 rfl ?_
          refine gi_aald (kd := 0) d_W_isBuilt_19 rfl hs0 (by omega) (hf k (by omega)) ?_
          refine lf_astore d_W_isBuilt_20 (by decide +kernel) rfl (L2 := [(8, _), (7, _), (6, _), (5, _), (0, _), (1, _), (2, _), (3, _), (4, _)]) rfl ?_
          refine lf_iload d_W_isBuilt_22 rfl ?_
          refine lf_aload d_W_isBuilt_24 rfl rfl ?_
          refine lf_iconst d_W_isBuilt_26 (v := Int32.ofInt ((0 : Nat) : Int)) rfl ?_
          refine gi_ialoadN d_W_isBuilt_27 (hr k (by omega)) (by omega) ?_
          refine gi_top (g0.trans hq9) ?_
          refine lf_bipush d_W_isBuilt_28 (v := Int32.ofInt ((105 : Nat) : Int)) (by decide +kernel) ?_
          refine gi_icmp_eq d_W_isBuilt_30 (tgt := 42) (by decide) (by omega) (fun hb30 => False.elim (by omega)) (fun hb30 => ?_)
          refine lf_aload d_W_isBuilt_33 rfl rfl ?_
          refine lf_iconst d_W_isBuilt_35 (v := Int32.ofInt ((0 : Nat) : Int)) rfl ?_
          refine gi_ialoadN d_W_isBuilt_36 (hr k (by omega)) (by omega) ?_
          refine gi_top (g0.trans hq9) ?_
          refine lf_bipush d_W_isBuilt_37 (v := Int32.ofInt ((99 : Nat) : Int)) (by decide +kernel) ?_
          refine gi_icmp_ne d_W_isBuilt_39 (tgt := 46) (by decide) (by omega) (fun hb39 => ?_) (fun hb39 => False.elim (by omega))
          refine lf_iconst d_W_isBuilt_46 (v := Int32.ofInt ((0 : Nat) : Int)) rfl ?_
          refine gi_iaddN (a := (min (k) s)) (b := 0) d_W_isBuilt_47 ?_
          refine gi_top (show ((min k s + 0 : Nat) : Int) = ((min (k + 1) s : Nat) : Int) by omega) ?_
          refine lf_istore d_W_isBuilt_48 (by decide +kernel) (L2 := [(6, _), (8, _), (7, _), (5, _), (0, _), (1, _), (2, _), (3, _), (4, _)]) rfl ?_
          refine lf_iload d_W_isBuilt_50 rfl ?_
          refine lf_aload d_W_isBuilt_52 rfl rfl ?_
          refine lf_iconst d_W_isBuilt_54 (v := Int32.ofInt ((0 : Nat) : Int)) rfl ?_
          refine gi_ialoadN d_W_isBuilt_55 (hr k (by omega)) (by omega) ?_
          refine gi_top (g0.trans hq9) ?_
          refine lf_bipush d_W_isBuilt_56 (v := Int32.ofInt ((105 : Nat) : Int)) (by decide +kernel) ?_
          refine gi_icmp_ne d_W_isBuilt_58 (tgt := 78) (by decide) (by omega) (fun hb58 => ?_) (fun hb58 => False.elim (by omega))
          refine lf_aload d_W_isBuilt_78 rfl rfl ?_
          refine lf_iconst d_W_isBuilt_80 (v := Int32.ofInt ((0 : Nat) : Int)) rfl ?_
          refine gi_ialoadN d_W_isBuilt_81 (hr k (by omega)) (by omega) ?_
          refine gi_top (g0.trans hq9) ?_
          refine lf_bipush d_W_isBuilt_82 (v := Int32.ofInt ((99 : Nat) : Int)) (by decide +kernel) ?_
          refine gi_icmp_ne d_W_isBuilt_84 (tgt := 116) (by decide) (by omega) (fun hb84 => ?_) (fun hb84 => False.elim (by omega))
          refine lf_aload_n d_W_isBuilt_116 rfl rfl rfl ?_
          refine lf_aload d_W_isBuilt_117 rfl rfl ?_
          refine lf_iconst d_W_isBuilt_119 (v := Int32.ofInt ((1 : Nat) : Int)) rfl ?_
          refine gi_ialoadN d_W_isBuilt_120 (hr k (by omega)) (by omega) ?_
          refine gi_top g1 ?_
          refine lf_aload d_W_isBuilt_121 rfl rfl ?_
          refine lf_iconst d_W_isBuilt_123 (v := Int32.ofInt ((0 : Nat) : Int)) rfl ?_
          refine gi_ialoadN d_W_isBuilt_124 (hr k (by omega)) (by omega) ?_
          refine gi_top (g0.trans hq9) ?_
          refine lf_i2c d_W_isBuilt_125 ?_
          refine gi_topX (oi_i2c (by decide)) ?_
          refine lf_aload d_W_isBuilt_126 rfl rfl ?_
          refine lf_iconst d_W_isBuilt_128 (v := Int32.ofInt ((2 : Nat) : Int)) rfl ?_
          refine gi_ialoadN d_W_isBuilt_129 (hr k (by omega)) (by omega) ?_
          refine gi_top g2 ?_
          refine lf_aload d_W_isBuilt_130 rfl rfl ?_
          refine lf_iconst d_W_isBuilt_132 (v := Int32.ofInt ((3 : Nat) : Int)) rfl ?_
          refine gi_ialoadN d_W_isBuilt_133 (hr k (by omega)) (by omega) ?_
          refine gi_top g3 ?_
          refine gw_callI s_W_isBuilt_134 (wI_gate hx hM (m_gate2 hx hN hM a3 (kd := ((120 : Nat) : Int)) a21 (by omega) g5 g6 g7 (by decide) f2 f3) (lev := 9) (by decide)) (S := [_]) rfl rfl gcR_1 (by decide) (by decide +kernel) (Nat.le_of_ble_eq_true rfl) (fun r134 I J w134 => ?_)
          obtain ⟨rfl, rfl, rfl⟩ := w134
          refine lf_iload d_W_isBuilt_137 rfl ?_
          refine gi_icmp_ne d_W_isBuilt_139 (tgt := 146) (by decide) (by omega) (fun hb139 => False.elim (by omega)) (fun hb139 => ?_)
          refine lf_iconst d_W_isBuilt_142 (v := Int32.ofInt ((1 : Nat) : Int)) rfl ?_
          refine lf_goto d_W_isBuilt_143 (tgt := 147) (by decide) ?_
          refine gi_iandN (a := 1) (b := 1) d_W_isBuilt_147 ?_
          refine gi_top rfl ?_
          refine lf_istore d_W_isBuilt_148 (by decide +kernel) (L2 := [(5, _), (6, _), (8, _), (7, _), (0, _), (1, _), (2, _), (3, _), (4, _)]) rfl ?_
          refine gi_iincN d_W_isBuilt_150 rfl (by decide +kernel) (L2 := [(7, _), (5, _), (6, _), (8, _), (0, _), (1, _), (2, _), (3, _), (4, _)]) rfl ?_
          refine lf_goto d_W_isBuilt_153 (tgt := 9) (by decide) ?_
          refine lf_sub [0, 2, 1, 4, 5, 6, 7, 8] rfl ?_
          refine ih (k + 1) _ (by omega) (BT_s hrk hb (by omega) ?_ ?_ ?_ ?_)
          · intro a b1 b2 b3 b4 b5 b6 b7 b8
            repeat rw [ipt_o (by omega)]
          · refine ⟨?_, ?_, ?_, ?_⟩
            · simp [ipt]
            · simp [ipt]; rw [a22]; omega
            · simp [ipt]; rw [a23]; omega
            · simp [ipt]; rw [a24]; omega
          · intro j hj
            refine ⟨?_, ?_, ?_, ?_, ?_, ?_⟩ <;> simp [ipt, hj]
          · refine ⟨?_, ?_, ?_, ?_, ?_, ?_⟩
            · simp [ipt, hq9]
            · simp [ipt]
            · simp [ipt]; omega
            · exact Or.inl (by simp [ipt])
            · intro h1 h2; omega
            · intro h1
              have hpb : pbF kd r2 r3 k = r3 k := if_neg (by omega)
              rw [hpb]
              exact ⟨by simp [ipt], by simp [ipt]⟩
        · refine lf_iload d_W_isBuilt_9 rfl ?_
          refine lf_aload_n d_W_isBuilt_11 rfl rfl rfl ?_
          refine gi_len d_W_isBuilt_12 hs0 ?_
          refine gi_icmp_ge d_W_isBuilt_13 (tgt := 156) (by decide) (by omega) (fun hb13 => False.elim (by omega)) (fun hb13 => ?_)
          refine lf_aload_n d_W_isBuilt_16 rfl rfl rfl ?_
          refine lf_iload d_W_isBuilt_17 rfl ?_
          refine gi_aald (kd := 0) d_W_isBuilt_19 rfl hs0 (by omega) (hf k (by omega)) ?_
          refine lf_astore d_W_isBuilt_20 (by decide +kernel) rfl (L2 := [(8, _), (7, _), (6, _), (5, _), (0, _), (1, _), (2, _), (3, _), (4, _)]) rfl ?_
          refine lf_iload d_W_isBuilt_22 rfl ?_
          refine lf_aload d_W_isBuilt_24 rfl rfl ?_
          refine lf_iconst d_W_isBuilt_26 (v := Int32.ofInt ((0 : Nat) : Int)) rfl ?_
          refine gi_ialoadN d_W_isBuilt_27 (hr k (by omega)) (by omega) ?_
          refine gi_top (g0.trans hq9) ?_
          refine lf_bipush d_W_isBuilt_28 (v := Int32.ofInt ((105 : Nat) : Int)) (by decide +kernel) ?_
          refine gi_icmp_eq d_W_isBuilt_30 (tgt := 42) (by decide) (by omega) (fun hb30 => False.elim (by omega)) (fun hb30 => ?_)
          refine lf_aload d_W_isBuilt_33 rfl rfl ?_
          refine lf_iconst d_W_isBuilt_35 (v := Int32.ofInt ((0 : Nat) : Int)) rfl ?_
          refine gi_ialoadN d_W_isBuilt_36 (hr k (by omega)) (by omega) ?_
          refine gi_top (g0.trans hq9) ?_
          refine lf_bipush d_W_isBuilt_37 (v := Int32.ofInt ((99 : Nat) : Int)) (by decide +kernel) ?_
          refine gi_icmp_ne d_W_isBuilt_39 (tgt := 46) (by decide) (by omega) (fun hb39 => ?_) (fun hb39 => False.elim (by omega))
          refine lf_iconst d_W_isBuilt_46 (v := Int32.ofInt ((0 : Nat) : Int)) rfl ?_
          refine gi_iaddN (a := (min (k) s)) (b := 0) d_W_isBuilt_47 ?_
          refine gi_top (show ((min k s + 0 : Nat) : Int) = ((min (k + 1) s : Nat) : Int) by omega) ?_
          refine lf_istore d_W_isBuilt_48 (by decide +kernel) (L2 := [(6, _), (8, _), (7, _), (5, _), (0, _), (1, _), (2, _), (3, _), (4, _)]) rfl ?_
          refine lf_iload d_W_isBuilt_50 rfl ?_
          refine lf_aload d_W_isBuilt_52 rfl rfl ?_
          refine lf_iconst d_W_isBuilt_54 (v := Int32.ofInt ((0 : Nat) : Int)) rfl ?_
          refine gi_ialoadN d_W_isBuilt_55 (hr k (by omega)) (by omega) ?_
          refine gi_top (g0.trans hq9) ?_
          refine lf_bipush d_W_isBuilt_56 (v := Int32.ofInt ((105 : Nat) : Int)) (by decide +kernel) ?_
          refine gi_icmp_ne d_W_isBuilt_58 (tgt := 78) (by decide) (by omega) (fun hb58 => ?_) (fun hb58 => False.elim (by omega))
          refine lf_aload d_W_isBuilt_78 rfl rfl ?_
          refine lf_iconst d_W_isBuilt_80 (v := Int32.ofInt ((0 : Nat) : Int)) rfl ?_
          refine gi_ialoadN d_W_isBuilt_81 (hr k (by omega)) (by omega) ?_
          refine gi_top (g0.trans hq9) ?_
          refine lf_bipush d_W_isBuilt_82 (v := Int32.ofInt ((99 : Nat) : Int)) (by decide +kernel) ?_
          refine gi_icmp_ne d_W_isBuilt_84 (tgt := 116) (by decide) (by omega) (fun hb84 => ?_) (fun hb84 => False.elim (by omega))
          refine lf_aload_n d_W_isBuilt_116 rfl rfl rfl ?_
          refine lf_aload d_W_isBuilt_117 rfl rfl ?_
          refine lf_iconst d_W_isBuilt_119 (v := Int32.ofInt ((1 : Nat) : Int)) rfl ?_
          refine gi_ialoadN d_W_isBuilt_120 (hr k (by omega)) (by omega) ?_
          refine gi_top g1 ?_
          refine lf_aload d_W_isBuilt_121 rfl rfl ?_
          refine lf_iconst d_W_isBuilt_123 (v := Int32.ofInt ((0 : Nat) : Int)) rfl ?_
          refine gi_ialoadN d_W_isBuilt_124 (hr k (by omega)) (by omega) ?_
          refine gi_top (g0.trans hq9) ?_
          refine lf_i2c d_W_isBuilt_125 ?_
          refine gi_topX (oi_i2c (by decide)) ?_
          refine lf_aload d_W_isBuilt_126 rfl rfl ?_
          refine lf_iconst d_W_isBuilt_128 (v := Int32.ofInt ((2 : Nat) : Int)) rfl ?_
          refine gi_ialoadN d_W_isBuilt_129 (hr k (by omega)) (by omega) ?_
          refine gi_top g2 ?_
          refine lf_aload d_W_isBuilt_130 rfl rfl ?_
          refine lf_iconst d_W_isBuilt_132 (v := Int32.ofInt ((3 : Nat) : Int)) rfl ?_
          refine gi_ialoadN d_W_isBuilt_133 (hr k (by omega)) (by omega) ?_
          refine gi_top g3 ?_
          refine gw_callI s_W_isBuilt_134 (wI_gate hx hM (m_gate1 hx hN hM a3 (kd := ((118 : Nat) : Int)) a21 (by omega) g5 g6 g7 (by decide) f2) (lev := 9) (by decide)) (S := [_]) rfl rfl gcR_1 (by decide) (by decide +kernel) (Nat.le_of_ble_eq_true rfl) (fun r134 I J w134 => ?_)
          obtain ⟨rfl, rfl, rfl⟩ := w134
          refine lf_iload d_W_isBuilt_137 rfl ?_
          refine gi_icmp_ne d_W_isBuilt_139 (tgt := 146) (by decide) (by omega) (fun hb139 => False.elim (by omega)) (fun hb139 => ?_)
          refine lf_iconst d_W_isBuilt_142 (v := Int32.ofInt ((1 : Nat) : Int)) rfl ?_
          refine lf_goto d_W_isBuilt_143 (tgt := 147) (by decide) ?_
          refine gi_iandN (a := 1) (b := 1) d_W_isBuilt_147 ?_
          refine gi_top rfl ?_
          refine lf_istore d_W_isBuilt_148 (by decide +kernel) (L2 := [(5, _), (6, _), (8, _), (7, _), (0, _), (1, _), (2, _), (3, _), (4, _)]) rfl ?_
          refine gi_iincN d_W_isBuilt_150 rfl (by decide +kernel) (L2 := [(7, _), (5, _), (6, _), (8, _), (0, _), (1, _), (2, _), (3, _), (4, _)]) rfl ?_
          refine lf_goto d_W_isBuilt_153 (tgt := 9) (by decide) ?_
          refine lf_sub [0, 2, 1, 4, 5, 6, 7, 8] rfl ?_
          refine ih (k + 1) _ (by omega) (BT_s hrk hb (by omega) ?_ ?_ ?_ ?_)
          · intro a b1 b2 b3 b4 b5 b6 b7 b8
            repeat rw [ipt_o (by omega)]
          · refine ⟨?_, ?_, ?_, ?_⟩
            · simp [ipt]
            · simp [ipt]; rw [a22]; omega
            · simp [ipt]; rw [a23]; omega
            · simp [ipt]; rw [a24]; omega
          · intro j hj
            refine ⟨?_, ?_, ?_, ?_, ?_, ?_⟩ <;> simp [ipt, hj]
          · refine ⟨?_, ?_, ?_, ?_, ?_, ?_⟩
            · simp [ipt, hq9]
            · simp [ipt]
            · simp [ipt]; omega
            · exact Or.inl (by simp [ipt])
            · intro h1 h2; omega
            · intro h1
              have hpb : pbF kd r2 r3 k = r2 k := if_pos (by omega)
              rw [hpb]
              exact ⟨by simp [ipt], by simp [ipt]⟩
        · refine lf_iload d_W_isBuilt_9 rfl ?_
          refine lf_aload_n d_W_isBuilt_11 rfl rfl rfl ?_
          refine gi_len d_W_isBuilt_12 hs0 ?_
          refine gi_icmp_ge d_W_isBuilt_13 (tgt := 156) (by decide) (by omega) (fun hb13 => False.elim (by omega)) (fun hb13 => ?_)
          refine lf_aload_n d_W_isBuilt_16 rfl rfl rfl ?_
          refine lf_iload d_W_isBuilt_17 rfl ?_
          refine gi_aald (kd := 0) d_W_isBuilt_19 rfl hs0 (by omega) (hf k (by omega)) ?_
          refine lf_astore d_W_isBuilt_20 (by decide +kernel) rfl (L2 := [(8, _), (7, _), (6, _), (5, _), (0, _), (1, _), (2, _), (3, _), (4, _)]) rfl ?_
          refine lf_iload d_W_isBuilt_22 rfl ?_
          refine lf_aload d_W_isBuilt_24 rfl rfl ?_
          refine lf_iconst d_W_isBuilt_26 (v := Int32.ofInt ((0 : Nat) : Int)) rfl ?_
          refine gi_ialoadN d_W_isBuilt_27 (hr k (by omega)) (by omega) ?_
          refine gi_top (g0.trans hq9) ?_
          refine lf_bipush d_W_isBuilt_28 (v := Int32.ofInt ((105 : Nat) : Int)) (by decide +kernel) ?_
          refine gi_icmp_eq d_W_isBuilt_30 (tgt := 42) (by decide) (by omega) (fun hb30 => False.elim (by omega)) (fun hb30 => ?_)
          refine lf_aload d_W_isBuilt_33 rfl rfl ?_
          refine lf_iconst d_W_isBuilt_35 (v := Int32.ofInt ((0 : Nat) : Int)) rfl ?_
          refine gi_ialoadN d_W_isBuilt_36 (hr k (by omega)) (by omega) ?_
          refine gi_top (g0.trans hq9) ?_
          refine lf_bipush d_W_isBuilt_37 (v := Int32.ofInt ((99 : Nat) : Int)) (by decide +kernel) ?_
          refine gi_icmp_ne d_W_isBuilt_39 (tgt := 46) (by decide) (by omega) (fun hb39 => ?_) (fun hb39 => False.elim (by omega))
          refine lf_iconst d_W_isBuilt_46 (v := Int32.ofInt ((0 : Nat) : Int)) rfl ?_
          refine gi_iaddN (a := (min (k) s)) (b := 0) d_W_isBuilt_47 ?_
          refine gi_top (show ((min k s + 0 : Nat) : Int) = ((min (k + 1) s : Nat) : Int) by omega) ?_
          refine lf_istore d_W_isBuilt_48 (by decide +kernel) (L2 := [(6, _), (8, _), (7, _), (5, _), (0, _), (1, _), (2, _), (3, _), (4, _)]) rfl ?_
          refine lf_iload d_W_isBuilt_50 rfl ?_
          refine lf_aload d_W_isBuilt_52 rfl rfl ?_
          refine lf_iconst d_W_isBuilt_54 (v := Int32.ofInt ((0 : Nat) : Int)) rfl ?_
          refine gi_ialoadN d_W_isBuilt_55 (hr k (by omega)) (by omega) ?_
          refine gi_top (g0.trans hq9) ?_
          refine lf_bipush d_W_isBuilt_56 (v := Int32.ofInt ((105 : Nat) : Int)) (by decide +kernel) ?_
          refine gi_icmp_ne d_W_isBuilt_58 (tgt := 78) (by decide) (by omega) (fun hb58 => ?_) (fun hb58 => False.elim (by omega))
          refine lf_aload d_W_isBuilt_78 rfl rfl ?_
          refine lf_iconst d_W_isBuilt_80 (v := Int32.ofInt ((0 : Nat) : Int)) rfl ?_
          refine gi_ialoadN d_W_isBuilt_81 (hr k (by omega)) (by omega) ?_
          refine gi_top (g0.trans hq9) ?_
          refine lf_bipush d_W_isBuilt_82 (v := Int32.ofInt ((99 : Nat) : Int)) (by decide +kernel) ?_
          refine gi_icmp_ne d_W_isBuilt_84 (tgt := 116) (by decide) (by omega) (fun hb84 => ?_) (fun hb84 => False.elim (by omega))
          refine lf_aload_n d_W_isBuilt_116 rfl rfl rfl ?_
          refine lf_aload d_W_isBuilt_117 rfl rfl ?_
          refine lf_iconst d_W_isBuilt_119 (v := Int32.ofInt ((1 : Nat) : Int)) rfl ?_
          refine gi_ialoadN d_W_isBuilt_120 (hr k (by omega)) (by omega) ?_
          refine gi_top g1 ?_
          refine lf_aload d_W_isBuilt_121 rfl rfl ?_
          refine lf_iconst d_W_isBuilt_123 (v := Int32.ofInt ((0 : Nat) : Int)) rfl ?_
          refine gi_ialoadN d_W_isBuilt_124 (hr k (by omega)) (by omega) ?_
          refine gi_top (g0.trans hq9) ?_
          refine lf_i2c d_W_isBuilt_125 ?_
          refine gi_topX (oi_i2c (by decide)) ?_
          refine lf_aload d_W_isBuilt_126 rfl rfl ?_
          refine lf_iconst d_W_isBuilt_128 (v := Int32.ofInt ((2 : Nat) : Int)) rfl ?_
          refine gi_ialoadN d_W_isBuilt_129 (hr k (by omega)) (by omega) ?_
          refine gi_top g2 ?_
          refine lf_aload d_W_isBuilt_130 rfl rfl ?_
          refine lf_iconst d_W_isBuilt_132 (v := Int32.ofInt ((3 : Nat) : Int)) rfl ?_
          refine gi_ialoadN d_W_isBuilt_133 (hr k (by omega)) (by omega) ?_
          refine gi_top g3 ?_
          refine gw_callI s_W_isBuilt_134 (wI_gate hx hM (m_gate1 hx hN hM a3 (kd := ((98 : Nat) : Int)) a21 (by omega) g5 g6 g7 (by decide) f2) (lev := 9) (by decide)) (S := [_]) rfl rfl gcR_1 (by decide) (by decide +kernel) (Nat.le_of_ble_eq_true rfl) (fun r134 I J w134 => ?_)
          obtain ⟨rfl, rfl, rfl⟩ := w134
          refine lf_iload d_W_isBuilt_137 rfl ?_
          refine gi_icmp_ne d_W_isBuilt_139 (tgt := 146) (by decide) (by omega) (fun hb139 => False.elim (by omega)) (fun hb139 => ?_)
          refine lf_iconst d_W_isBuilt_142 (v := Int32.ofInt ((1 : Nat) : Int)) rfl ?_
          refine lf_goto d_W_isBuilt_143 (tgt := 147) (by decide) ?_
          refine gi_iandN (a := 1) (b := 1) d_W_isBuilt_147 ?_
          refine gi_top rfl ?_
          refine lf_istore d_W_isBuilt_148 (by decide +kernel) (L2 := [(5, _), (6, _), (8, _), (7, _), (0, _), (1, _), (2, _), (3, _), (4, _)]) rfl ?_
          refine gi_iincN d_W_isBuilt_150 rfl (by decide +kernel) (L2 := [(7, _), (5, _), (6, _), (8, _), (0, _), (1, _), (2, _), (3, _), (4, _)]) rfl ?_
          refine lf_goto d_W_isBuilt_153 (tgt := 9) (by decide) ?_
          refine lf_sub [0, 2, 1, 4, 5, 6, 7, 8] rfl ?_
          refine ih (k + 1) _ (by omega) (BT_s hrk hb (by omega) ?_ ?_ ?_ ?_)
          · intro a b1 b2 b3 b4 b5 b6 b7 b8
            repeat rw [ipt_o (by omega)]
          · refine ⟨?_, ?_, ?_, ?_⟩
            · simp [ipt]
            · simp [ipt]; rw [a22]; omega
            · simp [ipt]; rw [a23]; omega
            · simp [ipt]; rw [a24]; omega
          · intro j hj
            refine ⟨?_, ?_, ?_, ?_, ?_, ?_⟩ <;> simp [ipt, hj]
          · refine ⟨?_, ?_, ?_, ?_, ?_, ?_⟩
            · simp [ipt, hq9]
            · simp [ipt]
            · simp [ipt]; omega
            · exact Or.inl (by simp [ipt])
            · intro h1 h2; omega
            · intro h1
              have hpb : pbF kd r2 r3 k = r2 k := if_pos (by omega)
              rw [hpb]
              exact ⟨by simp [ipt], by simp [ipt]⟩
end LW5
