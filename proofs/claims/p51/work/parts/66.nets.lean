section LW2
variable {X : XT} {L9 : Nat} {xs : Nat → Int32} {sh : sM} {I : mI} {J : mJ}

variable {D : mF} {P : Option Value → mF → Prop} {PX : String → mF → Prop} {kc ks : Nat}

theorem w_line_l {N m : Nat} {f : Nat → Option Nat} (hs0 : sh 100 = some (.inl (.array .int, N, 2, f))) (hf : ∀ j, j < m → f j = some (101 + j)) (hr : ∀ j, j < m → sh (101 + j) = some (.inl (.int, 4, 0, fun _ => none))) (how : ∀ j, j < m → 0 ≤ I (101 + j) 1 ∧ I (101 + j) 1 ≤ 2) (hmN : m ≤ N ∧ N ≤ 100) {bl nt : Nat} (hbl : 1 ≤ bl ∧ bl ≤ m) (hnt : nt ≤ 2) (h0 : I 101 1 = 2) (hret : ∀ k : Nat, k < bl → (I (101 + k) 1 = 2 ∨ I (101 + k) 1 = nt) → P (some (.int (Int32.ofInt ((k : Nat) : Int)))) (hp sh I J)) : ∀ (d at1 : Nat), at1 < bl → (at1 = 0 ∨ at1 + d = bl) → LXf TT cl6 X mi_W_lineBy (40 + 1) (1000 + 200 * 1) D P PX kc ks 5 [(4, .int (Int32.ofInt ((at1 : Nat) : Int))), (0, .ref 100), (1, .int (Int32.ofInt ((bl : Nat) : Int))), (2, .int (Int32.ofInt ((nt : Nat) : Int)))] [] (hp sh I J) := by
  intro d
  induction d with
  | zero =>
    intro at1 h1 h2
    obtain rfl : at1 = 0 := by omega
    have ho := how 0 (by omega)
    refine lf_aload_n d_W_lineBy_5 rfl rfl rfl ?_
    refine lf_iload d_W_lineBy_6 rfl ?_
    refine gi_aald (kd := 0) d_W_lineBy_8 rfl hs0 (by omega) (hf 0 (by omega)) ?_
    refine lf_iconst d_W_lineBy_9 (v := Int32.ofInt ((1 : Nat) : Int)) rfl ?_
    refine gi_ialoadN d_W_lineBy_10 (hr 0 (by omega)) (by omega) ?_
    refine gi_top h0 ?_
    refine lf_iconst d_W_lineBy_11 (v := Int32.ofInt ((2 : Nat) : Int)) rfl ?_
    refine gi_icmp_eq d_W_lineBy_12 (tgt := 36) (by decide) (by omega) (fun hb12 => ?_) (fun hb12 => False.elim (by omega))
    refine lf_iload d_W_lineBy_36 rfl ?_
    exact lf_ireturn d_W_lineBy_38 rfl rfl (hret 0 (by omega) (Or.inl h0))
  | succ d ih =>
    intro at1 h1 h2
    have ho := how at1 (by omega)
    refine lf_aload_n d_W_lineBy_5 rfl rfl rfl ?_
    refine lf_iload d_W_lineBy_6 rfl ?_
    refine gi_aald (kd := 0) d_W_lineBy_8 rfl hs0 (by omega) (hf at1 (by omega)) ?_
    refine lf_iconst d_W_lineBy_9 (v := Int32.ofInt ((1 : Nat) : Int)) rfl ?_
    refine gi_ialoadN d_W_lineBy_10 (hr at1 (by omega)) (by omega) ?_
    refine lf_iconst d_W_lineBy_11 (v := Int32.ofInt ((2 : Nat) : Int)) rfl ?_
    refine gi_icmp_eq d_W_lineBy_12 (tgt := 36) (by decide) (by omega) (fun hb12 => ?_) (fun hb12 => ?_)
    · refine lf_iload d_W_lineBy_36 rfl ?_
      first
        | exact lf_ireturn d_W_lineBy_38 rfl rfl (hret at1 h1 (Or.inl hb12))
        | exact lf_ireturn d_W_lineBy_38 rfl rfl (hret at1 h1 (Or.inr hb22))
    · refine lf_aload_n d_W_lineBy_15 rfl rfl rfl ?_
      refine lf_iload d_W_lineBy_16 rfl ?_
      refine gi_aald (kd := 0) d_W_lineBy_18 rfl hs0 (by omega) (hf at1 (by omega)) ?_
      refine lf_iconst d_W_lineBy_19 (v := Int32.ofInt ((1 : Nat) : Int)) rfl ?_
      refine gi_ialoadN d_W_lineBy_20 (hr at1 (by omega)) (by omega) ?_
      refine lf_iload_n d_W_lineBy_21 rfl rfl ?_
      refine gi_icmp_eq d_W_lineBy_22 (tgt := 36) (by decide) (by omega) (fun hb22 => ?_) (fun hb22 => ?_)
      · refine lf_iload d_W_lineBy_36 rfl ?_
        first
          | exact lf_ireturn d_W_lineBy_38 rfl rfl (hret at1 h1 (Or.inl hb12))
          | exact lf_ireturn d_W_lineBy_38 rfl rfl (hret at1 h1 (Or.inr hb22))
      · refine lf_iload d_W_lineBy_25 rfl ?_
        refine lf_iconst d_W_lineBy_27 (v := Int32.ofInt ((1 : Nat) : Int)) rfl ?_
        refine gi_iaddN (a := at1) (b := 1) d_W_lineBy_28 ?_
        refine lf_iload_n d_W_lineBy_29 rfl rfl ?_
        refine gi_iremN (a := (at1 + 1)) (b := bl) d_W_lineBy_30 (by omega) ?_
        refine lf_istore d_W_lineBy_31 (by decide +kernel) (L2 := [(4, _), (0, _), (1, _), (2, _)]) rfl ?_
        refine lf_goto d_W_lineBy_33 (tgt := 5) (by decide) ?_
        rcases Nat.lt_or_ge (at1 + 1) bl with q | q
        · rw [Nat.mod_eq_of_lt q]
          refine ih (at1 + 1) q ?_
          rcases h2 with rfl | h2
          · exfalso
            exact hb12 h0
          · right; omega
        · rw [show at1 + 1 = bl by omega, Nat.mod_self]
          exact ih 0 (by omega) (Or.inl rfl)
theorem w_lineBy (hx : HX X L9 xs) {N m : Nat} {f : Nat → Option Nat} (hs0 : sh 100 = some (.inl (.array .int, N, 2, f))) (hf : ∀ j, j < m → f j = some (101 + j)) (hr : ∀ j, j < m → sh (101 + j) = some (.inl (.int, 4, 0, fun _ => none))) (how : ∀ j, j < m → 0 ≤ I (101 + j) 1 ∧ I (101 + j) 1 ≤ 2) (hmN : m ≤ N ∧ N ≤ 100) {bl nt fr : Nat} (hbl : 1 ≤ bl ∧ bl ≤ m) (hnt : nt ≤ 2) (h0 : I 101 1 = 2) (hfr : fr < 100000) : EVi TT cl6 X mi_W_lineBy 1 [.ref 100, .int (Int32.ofInt ((bl : Nat) : Int)), .int (Int32.ofInt ((nt : Nat) : Int)), .int (Int32.ofInt ((fr : Nat) : Int))] sh I J (fun r I1 J1 => (∃ k : Nat, k < bl ∧ r = (k : Int) ∧ (I (101 + k) 1 = 2 ∨ I (101 + k) 1 = nt)) ∧ I1 = I ∧ J1 = J) := by
  refine gw_enter (hx_ok hx) (by decide +kernel) (Nat.le_of_ble_eq_true rfl) (L := [(0, _), (1, _), (2, _), (3, _)]) rfl ?_
  refine lf_iload_n d_W_lineBy_0 rfl rfl ?_
  refine lf_iload_n d_W_lineBy_1 rfl rfl ?_
  refine gi_iremN (a := fr) (b := bl) d_W_lineBy_2 (by omega) ?_
  refine lf_istore d_W_lineBy_3 (by decide +kernel) (L2 := [(4, _), (0, _), (1, _), (2, _), (3, _)]) rfl ?_
  refine lf_sub [0, 1, 2, 3] rfl ?_
  exact w_line_l hs0 hf hr how hmN hbl hnt h0 (fun k h1 h2 => ⟨_, _, _, rfl, rfl, _, rfl, ⟨k, h1, rfl, h2⟩, rfl, rfl⟩) (bl - fr % bl) (fr % bl) (Nat.mod_lt _ (by omega)) (by have := Nat.mod_lt fr (show 0 < bl by omega); omega)
def kdI (j : Nat) : Int := match j with | 0 => 97 | 1 => 111 | 2 => 120 | 3 => 110 | 4 => 114 | 5 => 98 | _ => 118
theorem kdb_I : ∀ j, j < 7 → kdb j = Int32.ofInt (kdI j) := by decide +kernel
theorem kdI_q {j : Nat} (h : j < 7) : KDq (kdI j) := by
  have : j = 0 ∨ j = 1 ∨ j = 2 ∨ j = 3 ∨ j = 4 ∨ j = 5 ∨ j = 6 := by omega
  unfold KDq
  rcases this with rfl | rfl | rfl | rfl | rfl | rfl | rfl <;> decide
/-- a row of the nets -/
def ROW1 (I : mI) (ni c j : Nat) : Prop :=
  (j < ni ∧ I (101 + j) 0 = 105 ∧ I (101 + j) 1 = 2 ∧ I (101 + j) 2 = 0 ∧ I (101 + j) 3 = 0) ∨
  (ni ≤ j ∧ j < ni + 2 * c ∧ I (101 + j) 0 = 99 ∧ I (101 + j) 1 = (((j - ni) % 2 : Nat) : Int) ∧ (0 ≤ I (101 + j) 2 ∧ I (101 + j) 2 ≤ 1) ∧ I (101 + j) 3 = (((j - ni) / 2 : Nat) : Int)) ∨
  (ni + 2 * c ≤ j ∧ KDq (I (101 + j) 0) ∧ ∃ o x y : Nat, I (101 + j) 1 = (o : Int) ∧ o < 2 ∧ I (101 + j) 2 = (x : Int) ∧ I (101 + j) 3 = (y : Int) ∧ x < j ∧ y < j ∧ (I (101 + x) 1 = 2 ∨ I (101 + x) 1 = (o : Int)) ∧ (I (101 + y) 1 = 2 ∨ I (101 + y) 1 = (o : Int)))
theorem ROW1_c {I1 : mI} {ni c j : Nat} (h : ∀ a, a ≤ 101 + j → I1 a = I a) (g : ROW1 I ni c j) : ROW1 I1 ni c j := by
  unfold ROW1 at *
  rw [h (101 + j) (Nat.le_refl _)]
  rcases g with g | g | ⟨g1, g2, o, x, y, g3, g4, g5, g6, g7, g8, g9, g10⟩
  · exact Or.inl g
  · exact Or.inr (Or.inl g)
  · refine Or.inr (Or.inr ⟨g1, g2, o, x, y, g3, g4, g5, g6, g7, g8, ?_, ?_⟩)
    · rw [h (101 + x) (by omega)]; exact g9
    · rw [h (101 + y) (by omega)]; exact g10
theorem ROW1_o {ni c j : Nat} (g : ROW1 I ni c j) : 0 ≤ I (101 + j) 1 ∧ I (101 + j) 1 ≤ 2 := by
  rcases g with g | g | ⟨g1, g2, o, x, y, g3, g4, -⟩
  · omega
  · omega
  · omega
def NBI (s0 : sM) (I0 : mI) (J0 : mJ) (N ni c : Nat) (sh : sM) (I : mI) (J : mJ) (k : Nat) : Prop :=
  (∃ f : Nat → Option Nat, sh 100 = some (.inl (.array .int, N, 2, f)) ∧ ∀ j, j < k → f j = some (101 + j)) ∧ (∀ j, j < k → sh (101 + j) = some (.inl (.int, 4, 0, fun _ => none))) ∧ (∀ j, k ≤ j → j < 23 → sh (101 + j) = none) ∧ (∀ j, j < k → ROW1 I ni c j) ∧ ∀ a, (a < 100 ∨ 123 < a) → sh a = s0 a ∧ I a = I0 a ∧ J a = J0 a
/-- a row more -/
theorem NBI_s {s0 : sM} {I0 : mI} {J0 : mJ} {N ni c k : Nat} {I1 : mI} {J1 : mJ} {f : Nat → Option Nat} (h : NBI s0 I0 J0 N ni c sh I J k) (hs0 : sh 100 = some (.inl (.array .int, N, 2, f))) (hk : k < 23) (hI : ∀ a, ¬ a = 101 + k → I1 a = I a) (hJ : ∀ a, ¬ a = 101 + k → J1 a = J a) (hrow : ROW1 I1 ni c k) :
    NBI s0 I0 J0 N ni c (spt (spt sh (101 + k) (.inl (.int, 4, 0, fun _ => none))) 100 (.inl (.array .int, N, 2, va_up f k (some (101 + k))))) I1 J1 (k + 1) := by
  obtain ⟨⟨f2, g1, g2⟩, h2, h3, h4, h5⟩ := h
  have ef : f2 = f := by
    rw [hs0] at g1
    cases g1
    rfl
  subst ef
  refine ⟨⟨_, spt_s, fun j hj => ?_⟩, fun j hj => ?_, fun j h1 h9 => ?_, fun j hj => ?_, fun a ha => ⟨?_, ?_, ?_⟩⟩
  · unfold va_up
    by_cases q : j = k
    · rw [if_pos q, q]
    · rw [if_neg q]; exact g2 j (by omega)
  · rw [spt_o (by omega)]
    by_cases q : j = k
    · rw [q]; exact spt_s
    · rw [spt_o (by omega)]; exact h2 j (by omega)
  · rw [spt_o (by omega), spt_o (by omega)]; exact h3 j (by omega) h9
  · by_cases q : j = k
    · rw [q]; exact hrow
    · exact ROW1_c (fun a ha => hI a (by omega)) (h4 j (by omega))
  · rw [spt_o (by omega), spt_o (by omega)]; exact (h5 a ha).1
  · rw [hI a (by omega)]; exact (h5 a ha).2.1
  · rw [hJ a (by omega)]; exact (h5 a ha).2.2
theorem ROW1_0 {ni c : Nat} (hni : 1 ≤ ni) (g : ROW1 I ni c 0) : I 101 1 = 2 := by
  rcases g with g | g | g
  · exact g.2.2.1
  · omega
  · omega
theorem w_nets_l (hx : HX X L9 xs) (hxc : HXC X) {s0 : sM} {I0 : mI} {J0 : mJ} {N ni c g : Nat} (hN : N = ni + 2 * c + g) (hN23 : N ≤ 23) (hni : 1 ≤ ni) (k219 : ∀ (sh : sM) (I : mI) (J : mJ), NBI s0 I0 J0 N ni c sh I J N → LXf TT cl6 X mi_W_netsBy (40 + 5) (1000 + 200 * 5) D P PX 0 0 219 [(4, .ref 100)] [] (hp sh I J)) : ∀ (d k : Nat) (sh : sM) (I : mI) (J : mJ), k + d = N → NBI s0 I0 J0 N ni c sh I J k → LXf TT cl6 X mi_W_netsBy (40 + 5) (1000 + 200 * 5) D P PX d (4 * d) 15 [(5, .int (Int32.ofInt ((k : Nat) : Int))), (4, .ref 100), (0, .retAddr 1), (1, .int (Int32.ofInt ((ni : Nat) : Int))), (2, .int (Int32.ofInt ((c : Nat) : Int))), (3, .int (Int32.ofInt ((g : Nat) : Int)))] [] (hp sh I J) := by
  intro d
  induction d with
  | zero =>
    intro k sh I J hd hb
    obtain rfl : k = N := by omega
    obtain ⟨⟨f, hs0, hf⟩, hrr, hno, hrow, hfr⟩ := id hb
    refine lf_room (kc1 := 0) (ks1 := 0) (by omega) (by omega) ?_
    refine lf_iload d_W_netsBy_15 rfl ?_
    refine lf_aload d_W_netsBy_17 rfl rfl ?_
    refine gi_len d_W_netsBy_19 hs0 ?_
    refine gi_icmp_ge d_W_netsBy_20 (tgt := 219) (by decide) (by omega) (fun hb20 => ?_) (fun hb20 => False.elim (by omega))
    refine lf_sub [1] rfl ?_
    exact k219 sh I J hb
  | succ d ih =>
    intro k sh I J hd hb
    obtain ⟨⟨f, hs0, hf⟩, hrr, hno, hrow, hfr⟩ := id hb
    refine lf_room (kc1 := d + 1) (ks1 := 4 * d + 4) (by omega) (by omega) ?_
    by_cases hk1 : k < ni
    · refine lf_iload d_W_netsBy_15 rfl ?_
      refine lf_aload d_W_netsBy_17 rfl rfl ?_
      refine gi_len d_W_netsBy_19 hs0 ?_
      refine gi_icmp_ge d_W_netsBy_20 (tgt := 219) (by decide) (by omega) (fun hb20 => False.elim (by omega)) (fun hb20 => ?_)
      refine lf_iload d_W_netsBy_23 rfl ?_
      refine lf_iload_n d_W_netsBy_25 rfl rfl ?_
      refine gi_icmp_ge d_W_netsBy_26 (tgt := 57) (by decide) (by omega) (fun hb26 => False.elim (by omega)) (fun hb26 => ?_)
      refine lf_aload d_W_netsBy_29 rfl rfl ?_
      refine lf_iload d_W_netsBy_31 rfl ?_
      refine lf_iconst d_W_netsBy_33 (v := Int32.ofInt ((4 : Nat) : Int)) rfl ?_
      refine gi_newB_int d_W_netsBy_34 tA_int (m := 4) (B := 4) (q := (101 + k)) (by omega) (by decide) (hno k (Nat.le_refl k) (by omega)) ?_
      refine lf_dup d_W_netsBy_36 rfl ?_
      refine lf_iconst d_W_netsBy_37 (v := Int32.ofInt ((0 : Nat) : Int)) rfl ?_
      refine lf_bipush d_W_netsBy_38 (v := Int32.ofInt ((105 : Nat) : Int)) (by decide +kernel) ?_
      refine gi_iastoreN d_W_netsBy_40 spt_s (by omega) ?_
      refine lf_dup d_W_netsBy_41 rfl ?_
      refine lf_iconst d_W_netsBy_42 (v := Int32.ofInt ((1 : Nat) : Int)) rfl ?_
      refine lf_iconst d_W_netsBy_43 (v := Int32.ofInt ((2 : Nat) : Int)) rfl ?_
      refine gi_iastoreN d_W_netsBy_44 spt_s (by omega) ?_
      refine lf_dup d_W_netsBy_45 rfl ?_
      refine lf_iconst d_W_netsBy_46 (v := Int32.ofInt ((2 : Nat) : Int)) rfl ?_
      refine lf_iconst d_W_netsBy_47 (v := Int32.ofInt ((0 : Nat) : Int)) rfl ?_
      refine gi_iastoreN d_W_netsBy_48 spt_s (by omega) ?_
      refine lf_dup d_W_netsBy_49 rfl ?_
      refine lf_iconst d_W_netsBy_50 (v := Int32.ofInt ((3 : Nat) : Int)) rfl ?_
      refine lf_iconst d_W_netsBy_51 (v := Int32.ofInt ((0 : Nat) : Int)) rfl ?_
      refine gi_iastoreN d_W_netsBy_52 spt_s (by omega) ?_
      refine gi_aastI d_W_netsBy_53 ((spt_o (by omega)).trans hs0) spt_s (by omega) ?_
      refine lf_goto d_W_netsBy_54 (tgt := 213) (by decide) ?_
      refine gi_iincN d_W_netsBy_213 rfl (by decide +kernel) (L2 := [(5, _), (4, _), (0, _), (1, _), (2, _), (3, _)]) rfl ?_
      refine lf_goto d_W_netsBy_216 (tgt := 15) (by decide) ?_
      refine ih (k + 1) _ _ _ (by omega) (NBI_s hb hs0 (by omega) (fun a ha => ?_) (fun a ha => jzr_o ha) (Or.inl ⟨hk1, ?_, ?_, ?_, ?_⟩))
      · repeat (first | rw [ipt_o ha] | rw [izr_o ha])
      · rw [ipt_s, if_neg (by decide), ipt_s, if_neg (by decide), ipt_s, if_neg (by decide), ipt_s, if_pos rfl]; rfl
      · rw [ipt_s, if_neg (by decide), ipt_s, if_neg (by decide), ipt_s, if_pos rfl]; rfl
      · rw [ipt_s, if_neg (by decide), ipt_s, if_pos rfl]; rfl
      · rw [ipt_s, if_pos rfl]; rfl
    · by_cases hk2 : k < ni + 2 * c
      · refine lf_iload d_W_netsBy_15 rfl ?_
        refine lf_aload d_W_netsBy_17 rfl rfl ?_
        refine gi_len d_W_netsBy_19 hs0 ?_
        refine gi_icmp_ge d_W_netsBy_20 (tgt := 219) (by decide) (by omega) (fun hb20 => False.elim (by omega)) (fun hb20 => ?_)
        refine lf_iload d_W_netsBy_23 rfl ?_
        refine lf_iload_n d_W_netsBy_25 rfl rfl ?_
        refine gi_icmp_ge d_W_netsBy_26 (tgt := 57) (by decide) (by omega) (fun hb26 => ?_) (fun hb26 => False.elim (by omega))
        refine lf_iload d_W_netsBy_57 rfl ?_
        refine lf_iload_n d_W_netsBy_59 rfl rfl ?_
        refine lf_iconst d_W_netsBy_60 (v := Int32.ofInt ((2 : Nat) : Int)) rfl ?_
        refine lf_iload_n d_W_netsBy_61 rfl rfl ?_
        refine gi_imulN (a := 2) (b := c) d_W_netsBy_62 ?_
        refine gi_iaddN (a := ni) (b := (2 * c)) d_W_netsBy_63 ?_
        refine gi_icmp_ge d_W_netsBy_64 (tgt := 113) (by decide) (by omega) (fun hb64 => False.elim (by omega)) (fun hb64 => ?_)
        refine lf_aload d_W_netsBy_67 rfl rfl ?_
        refine lf_iload d_W_netsBy_69 rfl ?_
        refine lf_iconst d_W_netsBy_71 (v := Int32.ofInt ((4 : Nat) : Int)) rfl ?_
        refine gi_newB_int d_W_netsBy_72 tA_int (m := 4) (B := 4) (q := (101 + k)) (by omega) (by decide) (hno k (Nat.le_refl k) (by omega)) ?_
        refine lf_dup d_W_netsBy_74 rfl ?_
        refine lf_iconst d_W_netsBy_75 (v := Int32.ofInt ((0 : Nat) : Int)) rfl ?_
        refine lf_bipush d_W_netsBy_76 (v := Int32.ofInt ((99 : Nat) : Int)) (by decide +kernel) ?_
        refine gi_iastoreN d_W_netsBy_78 spt_s (by omega) ?_
        refine lf_dup d_W_netsBy_79 rfl ?_
        refine lf_iconst d_W_netsBy_80 (v := Int32.ofInt ((1 : Nat) : Int)) rfl ?_
        refine lf_iload d_W_netsBy_81 rfl ?_
        refine lf_iload_n d_W_netsBy_83 rfl rfl ?_
        refine gi_isubN (a := k) (b := ni) d_W_netsBy_84 (by omega) ?_
        refine lf_iconst d_W_netsBy_85 (v := Int32.ofInt ((2 : Nat) : Int)) rfl ?_
        refine gi_iremN (a := (k - ni)) (b := 2) d_W_netsBy_86 (by omega) ?_
        refine gi_iastoreN d_W_netsBy_87 spt_s (by omega) ?_
        refine lf_dup d_W_netsBy_88 rfl ?_
        refine lf_iconst d_W_netsBy_89 (v := Int32.ofInt ((2 : Nat) : Int)) rfl ?_
        refine lf_aload_n d_W_netsBy_90 rfl rfl rfl ?_
        refine lf_iconst d_W_netsBy_91 (v := Int32.ofInt ((5 : Nat) : Int)) rfl ?_
        refine lf_iload d_W_netsBy_92 rfl ?_
        refine gi_iaddN (a := 5) (b := k) d_W_netsBy_94 ?_
        refine lf_iconst d_W_netsBy_95 (v := Int32.ofInt ((2 : Nat) : Int)) rfl ?_
        refine gw_callI s_W_netsBy_96 (w_in hx (i := 5 + k) (n := 2) (by omega) (by omega) (by omega)) (S := [_, _, _, _, _]) rfl rfl gcR_1 (by decide) (by decide +kernel) (Nat.le_of_ble_eq_true rfl) (fun r96 I J w96 => ?_)
        obtain ⟨⟨z1, hz1, rfl⟩, rfl, rfl⟩ := w96
        refine gi_iastoreN d_W_netsBy_99 spt_s (by omega) ?_
        refine lf_dup d_W_netsBy_100 rfl ?_
        refine lf_iconst d_W_netsBy_101 (v := Int32.ofInt ((3 : Nat) : Int)) rfl ?_
        refine lf_iload d_W_netsBy_102 rfl ?_
        refine lf_iload_n d_W_netsBy_104 rfl rfl ?_
        refine gi_isubN (a := k) (b := ni) d_W_netsBy_105 (by omega) ?_
        refine lf_iconst d_W_netsBy_106 (v := Int32.ofInt ((2 : Nat) : Int)) rfl ?_
        refine gi_idivN (a := (k - ni)) (b := 2) d_W_netsBy_107 (by omega) ?_
        refine gi_iastoreN d_W_netsBy_108 spt_s (by omega) ?_
        refine gi_aastI d_W_netsBy_109 ((spt_o (by omega)).trans hs0) spt_s (by omega) ?_
        refine lf_goto d_W_netsBy_110 (tgt := 213) (by decide) ?_
        refine gi_iincN d_W_netsBy_213 rfl (by decide +kernel) (L2 := [(5, _), (4, _), (0, _), (1, _), (2, _), (3, _)]) rfl ?_
        refine lf_goto d_W_netsBy_216 (tgt := 15) (by decide) ?_
        refine ih (k + 1) _ _ _ (by omega) (NBI_s hb hs0 (by omega) (fun a ha => ?_) (fun a ha => jzr_o ha) (Or.inr (Or.inl ⟨by omega, hk2, ?_, ?_, ?_, ?_⟩)))
        · repeat (first | rw [ipt_o ha] | rw [izr_o ha])
        · rw [ipt_s, if_neg (by decide), ipt_s, if_neg (by decide), ipt_s, if_neg (by decide), ipt_s, if_pos rfl]; rfl
        · rw [ipt_s, if_neg (by decide), ipt_s, if_neg (by decide), ipt_s, if_pos rfl]
        · rw [ipt_s, if_neg (by decide), ipt_s, if_pos rfl]; omega
        · rw [ipt_s, if_pos rfl]
      · refine lf_iload d_W_netsBy_15 rfl ?_
        refine lf_aload d_W_netsBy_17 rfl rfl ?_
        refine gi_len d_W_netsBy_19 hs0 ?_
        refine gi_icmp_ge d_W_netsBy_20 (tgt := 219) (by decide) (by omega) (fun hb20 => False.elim (by omega)) (fun hb20 => ?_)
        refine lf_iload d_W_netsBy_23 rfl ?_
        refine lf_iload_n d_W_netsBy_25 rfl rfl ?_
        refine gi_icmp_ge d_W_netsBy_26 (tgt := 57) (by decide) (by omega) (fun hb26 => ?_) (fun hb26 => False.elim (by omega))
        refine lf_iload d_W_netsBy_57 rfl ?_
        refine lf_iload_n d_W_netsBy_59 rfl rfl ?_
        refine lf_iconst d_W_netsBy_60 (v := Int32.ofInt ((2 : Nat) : Int)) rfl ?_
        refine lf_iload_n d_W_netsBy_61 rfl rfl ?_
        refine gi_imulN (a := 2) (b := c) d_W_netsBy_62 ?_
        refine gi_iaddN (a := ni) (b := (2 * c)) d_W_netsBy_63 ?_
        refine gi_icmp_ge d_W_netsBy_64 (tgt := 113) (by decide) (by omega) (fun hb64 => ?_) (fun hb64 => False.elim (by omega))
        refine lf_aload_n d_W_netsBy_113 rfl rfl rfl ?_
        refine lf_bipush d_W_netsBy_114 (v := Int32.ofInt ((20 : Nat) : Int)) (by decide +kernel) ?_
        refine lf_iconst d_W_netsBy_116 (v := Int32.ofInt ((4 : Nat) : Int)) rfl ?_
        refine lf_iload d_W_netsBy_117 rfl ?_
        refine gi_imulN (a := 4) (b := k) d_W_netsBy_119 ?_
        refine gi_iaddN (a := 20) (b := (4 * k)) d_W_netsBy_120 ?_
        refine lf_iconst d_W_netsBy_121 (v := Int32.ofInt ((2 : Nat) : Int)) rfl ?_
        refine gw_callI s_W_netsBy_122 (w_in hx (i := 20 + 4 * k) (n := 2) (by omega) (by omega) (by omega)) (S := []) rfl rfl gcR_1 (by decide) (by decide +kernel) (Nat.le_of_ble_eq_true rfl) (fun r122 I J w122 => ?_)
        obtain ⟨⟨o1, ho1, rfl⟩, rfl, rfl⟩ := w122
        refine lf_istore d_W_netsBy_125 (by decide +kernel) (L2 := [(6, _), (5, _), (4, _), (0, _), (1, _), (2, _), (3, _)]) rfl ?_
        refine lf_aload d_W_netsBy_127 rfl rfl ?_
        refine lf_iload d_W_netsBy_129 rfl ?_
        refine lf_iconst d_W_netsBy_131 (v := Int32.ofInt ((4 : Nat) : Int)) rfl ?_
        refine gi_newB_int d_W_netsBy_132 tA_int (m := 4) (B := 4) (q := (101 + k)) (by omega) (by decide) (hno k (Nat.le_refl k) (by omega)) ?_
        refine lf_dup d_W_netsBy_134 rfl ?_
        refine lf_iconst d_W_netsBy_135 (v := Int32.ofInt ((0 : Nat) : Int)) rfl ?_
        refine gi_ldcX hxc ?_
        refine lf_aload_n d_W_netsBy_138 rfl rfl rfl ?_
        refine lf_bipush d_W_netsBy_139 (v := Int32.ofInt ((21 : Nat) : Int)) (by decide +kernel) ?_
        refine lf_iconst d_W_netsBy_141 (v := Int32.ofInt ((4 : Nat) : Int)) rfl ?_
        refine lf_iload d_W_netsBy_142 rfl ?_
        refine gi_imulN (a := 4) (b := k) d_W_netsBy_144 ?_
        refine gi_iaddN (a := 21) (b := (4 * k)) d_W_netsBy_145 ?_
        refine lf_bipush d_W_netsBy_146 (v := Int32.ofInt ((7 : Nat) : Int)) (by decide +kernel) ?_
        refine gw_callI s_W_netsBy_148 (w_in hx (i := 21 + 4 * k) (n := 7) (by omega) (by omega) (by omega)) (S := [_, _, _, _, _, _]) rfl rfl gcR_1 (by decide) (by decide +kernel) (Nat.le_of_ble_eq_true rfl) (fun r148 I J w148 => ?_)
        obtain ⟨⟨z1, hz1, rfl⟩, rfl, rfl⟩ := w148
        refine gi_charAt (hx_ok hx) hxc hz1 (by decide) (Nat.le_of_ble_eq_true rfl) ?_
        refine gi_topX (kdb_I z1 hz1) ?_
        refine gi_iastoreN d_W_netsBy_154 spt_s (by omega) ?_
        refine lf_dup d_W_netsBy_155 rfl ?_
        refine lf_iconst d_W_netsBy_156 (v := Int32.ofInt ((1 : Nat) : Int)) rfl ?_
        refine lf_iload d_W_netsBy_157 rfl ?_
        refine gi_iastoreN d_W_netsBy_159 spt_s (by omega) ?_
        refine lf_dup d_W_netsBy_160 rfl ?_
        refine lf_iconst d_W_netsBy_161 (v := Int32.ofInt ((2 : Nat) : Int)) rfl ?_
        refine lf_aload d_W_netsBy_162 rfl rfl ?_
        refine lf_iload d_W_netsBy_164 rfl ?_
        refine lf_iload d_W_netsBy_166 rfl ?_
        refine lf_aload_n d_W_netsBy_168 rfl rfl rfl ?_
        refine lf_bipush d_W_netsBy_169 (v := Int32.ofInt ((22 : Nat) : Int)) (by decide +kernel) ?_
        refine lf_iconst d_W_netsBy_171 (v := Int32.ofInt ((4 : Nat) : Int)) rfl ?_
        refine lf_iload d_W_netsBy_172 rfl ?_
        refine gi_imulN (a := 4) (b := k) d_W_netsBy_174 ?_
        refine gi_iaddN (a := 22) (b := (4 * k)) d_W_netsBy_175 ?_
        refine lf_sipush d_W_netsBy_176 (v := Int32.ofInt ((1000 : Nat) : Int)) (by decide +kernel) ?_
        refine gw_callI s_W_netsBy_179 (w_in hx (i := 22 + 4 * k) (n := 1000) (by omega) (by omega) (by omega)) (S := [_, _, _, _, _, _, _, _]) rfl rfl gcR_1 (by decide) (by decide +kernel) (Nat.le_of_ble_eq_true rfl) (fun r179 I J w179 => ?_)
        obtain ⟨⟨z2, hz2, rfl⟩, rfl, rfl⟩ := w179
        refine gw_callI s_W_netsBy_182 (w_lineBy (m := k) hx ((spt_o (by omega)).trans hs0) hf (fun j hj => (spt_o (by omega)).trans (hrr j hj)) (fun j hj => by (repeat (first | rw [ipt_o (by omega)] | rw [izr_o (by omega)])); exact ROW1_o (hrow j hj)) (by omega) (bl := k) (nt := o1) (by omega) (by omega) (by (repeat (first | rw [ipt_o (by omega)] | rw [izr_o (by omega)])); exact ROW1_0 hni (hrow 0 (by omega))) (by omega)) (S := [_, _, _, _, _]) rfl rfl gcR_1 (by decide) (by decide +kernel) (Nat.le_of_ble_eq_true rfl) (fun r182 I J w182 => ?_)
        obtain ⟨⟨x1, hx1, rfl, qx1⟩, rfl, rfl⟩ := w182
        refine gi_iastoreN d_W_netsBy_185 spt_s (by omega) ?_
        refine lf_dup d_W_netsBy_186 rfl ?_
        refine lf_iconst d_W_netsBy_187 (v := Int32.ofInt ((3 : Nat) : Int)) rfl ?_
        refine lf_aload d_W_netsBy_188 rfl rfl ?_
        refine lf_iload d_W_netsBy_190 rfl ?_
        refine lf_iload d_W_netsBy_192 rfl ?_
        refine lf_aload_n d_W_netsBy_194 rfl rfl rfl ?_
        refine lf_bipush d_W_netsBy_195 (v := Int32.ofInt ((23 : Nat) : Int)) (by decide +kernel) ?_
        refine lf_iconst d_W_netsBy_197 (v := Int32.ofInt ((4 : Nat) : Int)) rfl ?_
        refine lf_iload d_W_netsBy_198 rfl ?_
        refine gi_imulN (a := 4) (b := k) d_W_netsBy_200 ?_
        refine gi_iaddN (a := 23) (b := (4 * k)) d_W_netsBy_201 ?_
        refine lf_sipush d_W_netsBy_202 (v := Int32.ofInt ((1000 : Nat) : Int)) (by decide +kernel) ?_
        refine gw_callI s_W_netsBy_205 (w_in hx (i := 23 + 4 * k) (n := 1000) (by omega) (by omega) (by omega)) (S := [_, _, _, _, _, _, _, _]) rfl rfl gcR_1 (by decide) (by decide +kernel) (Nat.le_of_ble_eq_true rfl) (fun r205 I J w205 => ?_)
        obtain ⟨⟨z3, hz3, rfl⟩, rfl, rfl⟩ := w205
        refine gw_callI s_W_netsBy_208 (w_lineBy (m := k) hx ((spt_o (by omega)).trans hs0) hf (fun j hj => (spt_o (by omega)).trans (hrr j hj)) (fun j hj => by (repeat (first | rw [ipt_o (by omega)] | rw [izr_o (by omega)])); exact ROW1_o (hrow j hj)) (by omega) (bl := k) (nt := o1) (by omega) (by omega) (by (repeat (first | rw [ipt_o (by omega)] | rw [izr_o (by omega)])); exact ROW1_0 hni (hrow 0 (by omega))) (by omega)) (S := [_, _, _, _, _]) rfl rfl gcR_1 (by decide) (by decide +kernel) (Nat.le_of_ble_eq_true rfl) (fun r208 I J w208 => ?_)
        obtain ⟨⟨y1, hy1, rfl, qy1⟩, rfl, rfl⟩ := w208
        refine gi_iastoreN d_W_netsBy_211 spt_s (by omega) ?_
        refine gi_aastI d_W_netsBy_212 ((spt_o (by omega)).trans hs0) spt_s (by omega) ?_
        refine gi_iincN d_W_netsBy_213 rfl (by decide +kernel) (L2 := [(5, _), (6, _), (4, _), (0, _), (1, _), (2, _), (3, _)]) rfl ?_
        refine lf_goto d_W_netsBy_216 (tgt := 15) (by decide) ?_
        refine lf_sub [0, 2, 3, 4, 5, 6] rfl ?_
        refine ih (k + 1) _ _ _ (by omega) (NBI_s hb hs0 (by omega) (fun a ha => ?_) (fun a ha => jzr_o ha) (Or.inr (Or.inr ⟨by omega, ?_, o1, x1, y1, ?_, ho1, ?_, ?_, hx1, hy1, ?_, ?_⟩)))
        · repeat (first | rw [ipt_o ha] | rw [izr_o ha])
        · rw [ipt_s, if_neg (by decide), ipt_s, if_neg (by decide), ipt_s, if_neg (by decide), ipt_s, if_pos rfl]; exact kdI_q hz1
        · rw [ipt_s, if_neg (by decide), ipt_s, if_neg (by decide), ipt_s, if_pos rfl]
        · rw [ipt_s, if_neg (by decide), ipt_s, if_pos rfl]
        · rw [ipt_s, if_pos rfl]
        · repeat (first | rw [ipt_o (by omega)] at qx1 | rw [izr_o (by omega)] at qx1)
          repeat (first | rw [ipt_o (by omega)] | rw [izr_o (by omega)])
          exact qx1
        · repeat (first | rw [ipt_o (by omega)] at qy1 | rw [izr_o (by omega)] at qy1)
          repeat (first | rw [ipt_o (by omega)] | rw [izr_o (by omega)])
          exact qy1
theorem w_netsBy (hx : HX X L9 xs) (hxc : HXC X) {N ni c g : Nat} (hN : N = ni + 2 * c + g) (hN23 : N ≤ 23) (hni : 1 ≤ ni) (hfree : ∀ a, 100 ≤ a → a ≤ 123 → sh a = none) : EVa TT cl6 X mi_W_netsBy 5 (N + 1) (4 * N + N) [.retAddr 1, .int (Int32.ofInt ((ni : Nat) : Int)), .int (Int32.ofInt ((c : Nat) : Int)), .int (Int32.ofInt ((g : Nat) : Int))] sh I J (fun v s1 I1 J1 => v = some (.ref 100) ∧ NBI sh I J N ni c s1 I1 J1 N) := by
  refine gw_enter (hx_ok hx) (by decide +kernel) (Nat.le_of_ble_eq_true rfl) (L := [(0, _), (1, _), (2, _), (3, _)]) rfl ?_
  refine lf_iload_n d_W_netsBy_0 rfl rfl ?_
  refine lf_iconst d_W_netsBy_1 (v := Int32.ofInt ((2 : Nat) : Int)) rfl ?_
  refine lf_iload_n d_W_netsBy_2 rfl rfl ?_
  refine gi_imulN (a := 2) (b := c) d_W_netsBy_3 ?_
  refine gi_iaddN (a := ni) (b := (2 * c)) d_W_netsBy_4 ?_
  refine lf_iload_n d_W_netsBy_5 rfl rfl ?_
  refine gi_iaddN (a := (ni + (2 * c))) (b := g) d_W_netsBy_6 ?_
  refine gi_top (show ((ni + 2 * c + g : Nat) : Int) = ((N : Nat) : Int) from by omega) ?_
  refine gi_anewI (m := N) (B := N) (q := 100) d_W_netsBy_7 rfl (Nat.le_refl _) (by omega) (hfree 100 (by decide) (by decide)) ?_
  refine lf_astore d_W_netsBy_10 (by decide +kernel) rfl (L2 := [(4, _), (0, _), (1, _), (2, _), (3, _)]) rfl ?_
  refine lf_iconst d_W_netsBy_12 (v := Int32.ofInt ((0 : Nat) : Int)) rfl ?_
  refine lf_istore d_W_netsBy_13 (by decide +kernel) (L2 := [(5, _), (4, _), (0, _), (1, _), (2, _), (3, _)]) rfl ?_
  refine w_nets_l hx hxc hN hN23 hni (fun s1 I1 J1 hb => ?_) N 0 _ _ _ (by omega) ⟨⟨_, spt_s, fun j hj => absurd hj (Nat.not_lt_zero j)⟩, fun j hj => absurd hj (Nat.not_lt_zero j), fun j h1 h2 => by rw [spt_o (by omega)]; exact hfree _ (by omega) (by omega), fun j hj => absurd hj (Nat.not_lt_zero j), fun a ha => ⟨spt_o (by omega), izr_o (by omega), jzr_o (by omega)⟩⟩
  refine lf_aload d_W_netsBy_219 rfl rfl ?_
  refine gw_aret d_W_netsBy_221 rfl (Or.inr ⟨_, rfl⟩) ?_
  exact ⟨rfl, hb⟩
end LW2
