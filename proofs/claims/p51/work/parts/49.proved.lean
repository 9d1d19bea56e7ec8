section TT15
variable {X : XT} {L9 : Nat} {xs : Nat → Int32} {sh : sM} {I : mI} {J : mJ}

variable {D : mF} {P : Option Value → mF → Prop} {PX : String → mF → Prop} {kc ks : Nat}

theorem t_search_k (hx : HX X L9 xs) {cc S9 n w : Nat} (hT : clT sh cc S9) (hV : clV sh n w) (h : I 24 13 = I 15 9) (hr9 : -2147483648 ≤ I 15 9 ∧ I 15 9 < 2147483648) : EVn TT cl6 X mi_T_search 5 [.ref 24] sh I J := by
  refine gw_enter (hx_ok hx) (by decide +kernel) (Nat.le_of_ble_eq_true rfl) (L := [(0, _)]) rfl ?_
  refine lf_aload_n d_T_search_0 rfl rfl rfl ?_
  refine gi_geti s_T_search_1 (c_24 hT) rfl ?_
  refine lf_aload_n d_T_search_4 rfl rfl rfl ?_
  refine gi_getr s_T_search_5 (c_24 hT) rfl ?_
  refine gi_geti s_T_search_8 (c_15 hV) rfl ?_
  refine gi_icmp_ne d_T_search_11 (tgt := 15) (by decide) (by omega) (fun hb11 => False.elim (by omega)) (fun hb11 => ?_)
  refine gw_ret d_T_search_14 rfl ?_
  exact ⟨rfl, rfl, rfl, rfl⟩
theorem t_pb_l (hx : HX X L9 xs) {cc w s ni no n : Nat} {dt : Nat → Nat} {ot : Nat → Nat → Nat} (hT : clT sh cc (2 ^ (s - ni))) (hV : clV sh n w) (hcc : cc = 2 ^ s) (hs7 : s ≤ 7) (hi9 : I 24 2 = ni) (hi3 : I 24 3 = ((2 ^ (s - ni) : Nat) : Int)) (hnis : ni ≤ s) (hc6 : ∀ c, c < 2 ^ ni → c < 64) (hfk : FK I J w s ni dt ot no) {m : Nat → Bool} (hm : ∀ y, y < 2 ^ (s - ni) → I 42 y = bz (m y)) {k : Nat} {r : Int} (hr : r = bz (!anyB (CP (KP J) ni (unl2 J w s ot no) (m)) (2 ^ s))) (hret : P (some (.int (Int32.ofInt (r)))) (hp sh I J)) : ∀ d x : Nat, x + d = 2 ^ (s - ni) → (∀ c, c < x * 2 ^ ni → CP (KP J) ni (unl2 J w s ot no) m c = false) → LXf TT cl6 X mi_T_isProvedBy (40 + 6) (1000 + 200 * 6) D P PX kc ks 48 [(2, .int (Int32.ofInt ((x : Nat) : Int))), (0, .ref 24), (1, .int (Int32.ofInt ((k : Nat) : Int)))] [] (hp sh I J) := by
  have hn128 : 2 ^ ni ≤ 128 := pow2_7 (by omega)
  have hS128 : 2 ^ (s - ni) ≤ 128 := pow2_7 (by omega)
  intro d
  induction d with
  | zero =>
    intro x hd hg
    have hr1 : r = 1 := by
      rw [hr, anyB_f.mpr (fun c hc => hg c (by rw [show x = 2 ^ (s - ni) by omega, pow_sp hnis]; exact hc))]; rfl
    subst hr1
    refine lf_iload_n d_T_isProvedBy_48 rfl rfl ?_
    refine lf_aload_n d_T_isProvedBy_49 rfl rfl rfl ?_
    refine gi_geti s_T_isProvedBy_50 (c_24 hT) rfl ?_
    refine gi_top hi3 ?_
    refine gi_icmp_ge d_T_isProvedBy_53 (tgt := 84) (by decide) (by omega) (fun hb53 => ?_) (fun hb53 => False.elim (by omega))
    refine lf_iconst d_T_isProvedBy_84 (v := Int32.ofInt ((1 : Nat) : Int)) rfl ?_
    exact lf_ireturn d_T_isProvedBy_85 rfl rfl hret
  | succ d ih =>
    intro x hd hg
    have hxS : x < 2 ^ (s - ni) := by omega
    have hmx1 := hm x hxS
    have k78 : (∀ ch, ch < 2 ^ ni → CP (KP J) ni (unl2 J w s ot no) m (x * 2 ^ ni + ch) = false) → LXf TT cl6 X mi_T_isProvedBy (40 + 6) (1000 + 200 * 6) D P PX kc ks 78 [(2, .int (Int32.ofInt ((x : Nat) : Int))), (0, .ref 24), (1, .int (Int32.ofInt ((k : Nat) : Int)))] [] (hp sh I J) := by
      intro h
      refine gi_iincN d_T_isProvedBy_78 rfl (by decide +kernel) (L2 := [(2, _), (0, _), (1, _)]) rfl ?_
      refine lf_goto d_T_isProvedBy_81 (tgt := 48) (by decide) ?_
      refine ih (x + 1) (by omega) (fun c hc => ?_)
      rw [Nat.add_mul, Nat.one_mul] at hc
      rcases Nat.lt_or_ge c (x * 2 ^ ni) with q | q
      · exact hg c q
      · have := h (c - x * 2 ^ ni) (by omega)
        rw [show x * 2 ^ ni + (c - x * 2 ^ ni) = c by omega] at this
        exact this
    cases hmx : m x with
    | true =>
      rw [hmx] at hmx1
      by_cases hcd : ∃ ch, ch < 2 ^ ni ∧ lb (J 15 11) ch = true ∧ unl2 J w s ot no (chc ni x ch) = true
      · have hr0 : r = 0 := by
          obtain ⟨ch, h1, h2, h3⟩ := hcd
          have hlt : x * 2 ^ ni + ch < 2 ^ s := by rw [← chc_a h1]; exact chc_lt hnis hxS h1
          rw [hr, anyB_t.mpr ⟨x * 2 ^ ni + ch, hlt, by rw [CP_at h1, hmx, show KP J ch = true from h2, h3]; rfl⟩]; rfl
        subst hr0
        refine lf_iload_n d_T_isProvedBy_48 rfl rfl ?_
        refine lf_aload_n d_T_isProvedBy_49 rfl rfl rfl ?_
        refine gi_geti s_T_isProvedBy_50 (c_24 hT) rfl ?_
        refine gi_top hi3 ?_
        refine gi_icmp_ge d_T_isProvedBy_53 (tgt := 84) (by decide) (by omega) (fun hb53 => False.elim (by omega)) (fun hb53 => ?_)
        refine lf_aload_n d_T_isProvedBy_56 rfl rfl rfl ?_
        refine gi_getr s_T_isProvedBy_57 (c_24 hT) rfl ?_
        refine lf_iload_n d_T_isProvedBy_60 rfl rfl ?_
        refine gw_callP s_T_isProvedBy_61 (m_numberAtN hx (c_42 hT) (by omega)) (S := []) rfl rfl gcR_4 (by decide) (by decide +kernel) (Nat.le_of_ble_eq_true rfl) ?_
        refine gi_top (show I 42 x = ((1 : Nat) : Int) from hmx1) ?_
        refine lf_iconst d_T_isProvedBy_64 (v := Int32.ofInt ((1 : Nat) : Int)) rfl ?_
        refine gi_icmp_ne d_T_isProvedBy_65 (tgt := 78) (by decide) (by omega) (fun hb65 => False.elim (by omega)) (fun hb65 => ?_)
        refine lf_aload_n d_T_isProvedBy_68 rfl rfl rfl ?_
        refine lf_iload_n d_T_isProvedBy_69 rfl rfl ?_
        refine gw_callP s_T_isProvedBy_70 (t_canDiffer hx hT hcc hs7 hi9 hnis hfk hV hxS hc6 (r := ((1 : Nat) : Int)) (Or.inl ⟨rfl, hcd⟩)) (S := []) rfl rfl (gcR_2 (c_24 hT)) (by decide) (by decide +kernel) (Nat.le_of_ble_eq_true rfl) ?_
        refine gi_if_eq d_T_isProvedBy_73 (tgt := 78) (by decide) (by omega) (fun hb73 => False.elim (by omega)) (fun hb73 => ?_)
        refine lf_iconst d_T_isProvedBy_76 (v := Int32.ofInt ((0 : Nat) : Int)) rfl ?_
        exact lf_ireturn d_T_isProvedBy_77 rfl rfl hret
      · have hcd2 : ∀ ch, ch < 2 ^ ni → lb (J 15 11) ch = true → unl2 J w s ot no (chc ni x ch) = false := fun ch h1 h2 => by
          cases h9 : unl2 J w s ot no (chc ni x ch) with
          | false => rfl
          | true => exact absurd ⟨ch, h1, h2, h9⟩ hcd
        refine lf_iload_n d_T_isProvedBy_48 rfl rfl ?_
        refine lf_aload_n d_T_isProvedBy_49 rfl rfl rfl ?_
        refine gi_geti s_T_isProvedBy_50 (c_24 hT) rfl ?_
        refine gi_top hi3 ?_
        refine gi_icmp_ge d_T_isProvedBy_53 (tgt := 84) (by decide) (by omega) (fun hb53 => False.elim (by omega)) (fun hb53 => ?_)
        refine lf_aload_n d_T_isProvedBy_56 rfl rfl rfl ?_
        refine gi_getr s_T_isProvedBy_57 (c_24 hT) rfl ?_
        refine lf_iload_n d_T_isProvedBy_60 rfl rfl ?_
        refine gw_callP s_T_isProvedBy_61 (m_numberAtN hx (c_42 hT) (by omega)) (S := []) rfl rfl gcR_4 (by decide) (by decide +kernel) (Nat.le_of_ble_eq_true rfl) ?_
        refine gi_top (show I 42 x = ((1 : Nat) : Int) from hmx1) ?_
        refine lf_iconst d_T_isProvedBy_64 (v := Int32.ofInt ((1 : Nat) : Int)) rfl ?_
        refine gi_icmp_ne d_T_isProvedBy_65 (tgt := 78) (by decide) (by omega) (fun hb65 => False.elim (by omega)) (fun hb65 => ?_)
        refine lf_aload_n d_T_isProvedBy_68 rfl rfl rfl ?_
        refine lf_iload_n d_T_isProvedBy_69 rfl rfl ?_
        refine gw_callP s_T_isProvedBy_70 (t_canDiffer hx hT hcc hs7 hi9 hnis hfk hV hxS hc6 (r := ((0 : Nat) : Int)) (Or.inr ⟨rfl, hcd2⟩)) (S := []) rfl rfl (gcR_2 (c_24 hT)) (by decide) (by decide +kernel) (Nat.le_of_ble_eq_true rfl) ?_
        refine gi_if_eq d_T_isProvedBy_73 (tgt := 78) (by decide) (by omega) (fun hb73 => ?_) (fun hb73 => False.elim (by omega))
        refine k78 (fun ch hch => ?_)
        rw [CP_at hch, hmx, Bool.true_and]
        cases h9 : KP J ch with
        | false => rfl
        | true => exact hcd2 ch hch h9
    | false =>
      rw [hmx] at hmx1
      refine lf_iload_n d_T_isProvedBy_48 rfl rfl ?_
      refine lf_aload_n d_T_isProvedBy_49 rfl rfl rfl ?_
      refine gi_geti s_T_isProvedBy_50 (c_24 hT) rfl ?_
      refine gi_top hi3 ?_
      refine gi_icmp_ge d_T_isProvedBy_53 (tgt := 84) (by decide) (by omega) (fun hb53 => False.elim (by omega)) (fun hb53 => ?_)
      refine lf_aload_n d_T_isProvedBy_56 rfl rfl rfl ?_
      refine gi_getr s_T_isProvedBy_57 (c_24 hT) rfl ?_
      refine lf_iload_n d_T_isProvedBy_60 rfl rfl ?_
      refine gw_callP s_T_isProvedBy_61 (m_numberAtN hx (c_42 hT) (by omega)) (S := []) rfl rfl gcR_4 (by decide) (by decide +kernel) (Nat.le_of_ble_eq_true rfl) ?_
      refine gi_top (show I 42 x = ((0 : Nat) : Int) from hmx1) ?_
      refine lf_iconst d_T_isProvedBy_64 (v := Int32.ofInt ((1 : Nat) : Int)) rfl ?_
      refine gi_icmp_ne d_T_isProvedBy_65 (tgt := 78) (by decide) (by omega) (fun hb65 => ?_) (fun hb65 => False.elim (by omega))
      exact k78 (fun ch hch => by rw [CP_at hch, hmx]; rfl)
theorem t_pb_m (hx : HX X L9 xs) {cc w s ni no n : Nat} {dt : Nat → Nat} {ot : Nat → Nat → Nat} (hT : clT sh cc (2 ^ (s - ni))) (hV : clV sh n w) (hcc : cc = 2 ^ s) (hs7 : s ≤ 7) (hi9 : I 24 2 = ni) (hi3 : I 24 3 = ((2 ^ (s - ni) : Nat) : Int)) (hnis : ni ≤ s) (hc6 : ∀ c, c < 2 ^ ni → c < 64) (hfk : FK I J w s ni dt ot no) {k : Nat} (hk : k ≤ 100) (k46 : ∀ I1 : mI, (∀ a, ¬ a = 42 → ¬ a = 43 → I1 a = I a) ∧ (∀ y, y < 2 ^ (s - ni) → I1 42 y = bz (alkN (KP J) ni s (unl2 J w s ot no) (fun c => nxt J w s ni dt c) (k) y)) → LXf TT cl6 X mi_T_isProvedBy (40 + 6) (1000 + 200 * 6) D P PX kc ks 46 [(0, .ref 24), (1, .int (Int32.ofInt ((k : Nat) : Int)))] [] (hp sh I1 J)) : ∀ (d i : Nat) (I1 : mI), i + d = k → (∀ a, ¬ a = 42 → ¬ a = 43 → I1 a = I a) ∧ (∀ y, y < 2 ^ (s - ni) → I1 42 y = bz (alkN (KP J) ni s (unl2 J w s ot no) (fun c => nxt J w s ni dt c) (i) y)) → LXf TT cl6 X mi_T_isProvedBy (40 + 6) (1000 + 200 * 6) D P PX kc ks 31 [(2, .int (Int32.ofInt ((i : Nat) : Int))), (0, .ref 24), (1, .int (Int32.ofInt ((k : Nat) : Int)))] [] (hp sh I1 J) := by
  intro d
  induction d with
  | zero =>
    intro i I1 hd he
    obtain rfl : i = k := by omega
    refine lf_iload_n d_T_isProvedBy_31 rfl rfl ?_
    refine lf_iload_n d_T_isProvedBy_32 rfl rfl ?_
    refine gi_icmp_ge d_T_isProvedBy_33 (tgt := 46) (by decide) (by omega) (fun hb33 => ?_) (fun hb33 => False.elim (by omega))
    refine lf_sub [1, 2] rfl ?_
    exact k46 I1 he
  | succ d ih =>
    intro i I1 hd he
    refine lf_iload_n d_T_isProvedBy_31 rfl rfl ?_
    refine lf_iload_n d_T_isProvedBy_32 rfl rfl ?_
    refine gi_icmp_ge d_T_isProvedBy_33 (tgt := 46) (by decide) (by omega) (fun hb33 => False.elim (by omega)) (fun hb33 => ?_)
    refine lf_aload_n d_T_isProvedBy_36 rfl rfl rfl ?_
    refine gw_callV s_T_isProvedBy_37 (t_stepAlike hx hT hV hcc hs7 (by rw [he.1 24 (by decide) (by decide)]; exact hi9) (by rw [he.1 24 (by decide) (by decide)]; exact hi3) hnis hc6 (FK_2 (by rw [he.1 24 (by decide) (by decide)]) (fun q => by rw [he.1 36 (by decide) (by decide)]) hfk) he.2) (S := []) rfl rfl (gcR_2 (c_24 hT)) (by decide) (by decide +kernel) (Nat.le_of_ble_eq_true rfl) (fun I J w37 => ?_)
    obtain ⟨w1, w2, rfl⟩ := w37
    refine gi_iincN d_T_isProvedBy_40 rfl (by decide +kernel) (L2 := [(2, _), (0, _), (1, _)]) rfl ?_
    refine lf_goto d_T_isProvedBy_43 (tgt := 31) (by decide) ?_
    exact ih (i + 1) I (by omega) ⟨fun a h1 h2 => (w1 a h1 h2).trans (he.1 a h1 h2), w2⟩
theorem t_pb_21b (hx : HX X L9 xs) {cc w s ni no n : Nat} {dt : Nat → Nat} {ot : Nat → Nat → Nat} (hT : clT sh cc (2 ^ (s - ni))) (hV : clV sh n w) (hcc : cc = 2 ^ s) (hs7 : s ≤ 7) (hi9 : I 24 2 = ni) (hi3 : I 24 3 = ((2 ^ (s - ni) : Nat) : Int)) (hnis : ni ≤ s) (hc6 : ∀ c, c < 2 ^ ni → c < 64) (hfk : FK I J w s ni dt ot no) {k : Nat} (hk : k ≤ 100) {r : Int} (hr : r = bz (!anyB (CP (KP J) ni (unl2 J w s ot no) (alkN (KP J) ni s (unl2 J w s ot no) (fun c => nxt J w s ni dt c) k)) (2 ^ s))) (hret : ∀ I1 : mI, (∀ a, ¬ a = 42 → ¬ a = 43 → I1 a = I a) → P (some (.int (Int32.ofInt (r)))) (hp sh I1 J)) {I2 : mI} {J2 : mJ} (h26 : (∀ a, ¬ a = 42 → I2 a = I a) ∧ (∀ j, j < 2 ^ (s - ni) → I2 42 j = ((1 : Nat) : Int)) ∧ J2 = J) : LXf TT cl6 X mi_T_isProvedBy (40 + 6) (1000 + 200 * 6) D P PX kc ks 29 [(0, .ref 24), (1, .int (Int32.ofInt ((k : Nat) : Int)))] [] (hp sh I2 J2) := by
  obtain ⟨w26a, w26b, rfl⟩ := h26
  refine lf_iconst d_T_isProvedBy_29 (v := Int32.ofInt ((0 : Nat) : Int)) rfl ?_
  refine lf_istore_n d_T_isProvedBy_30 rfl (by decide +kernel) (L2 := [(2, _), (0, _), (1, _)]) rfl ?_
  refine t_pb_m hx hT hV hcc hs7 hi9 hi3 hnis hc6 hfk hk (fun I1 he => ?_) k 0 I2 (by omega) ⟨fun a h1 _ => w26a a h1, fun y hy => w26b y hy⟩
  refine lf_iconst d_T_isProvedBy_46 (v := Int32.ofInt ((0 : Nat) : Int)) rfl ?_
  refine lf_istore_n d_T_isProvedBy_47 rfl (by decide +kernel) (L2 := [(2, _), (0, _), (1, _)]) rfl ?_
  exact t_pb_l hx hT hV hcc hs7 (by rw [he.1 24 (by decide) (by decide)]; exact hi9) (by rw [he.1 24 (by decide) (by decide)]; exact hi3) hnis hc6 (FK_2 (by rw [he.1 24 (by decide) (by decide)]) (fun q => by rw [he.1 36 (by decide) (by decide)]) hfk) he.2 hr (hret I1 he.1) (2 ^ (s - ni)) 0 (by omega) (fun c hc => by omega)
theorem t_pb_21 (hx : HX X L9 xs) {cc w s ni no n : Nat} {dt : Nat → Nat} {ot : Nat → Nat → Nat} (hT : clT sh cc (2 ^ (s - ni))) (hV : clV sh n w) (hcc : cc = 2 ^ s) (hs7 : s ≤ 7) (hi9 : I 24 2 = ni) (hi3 : I 24 3 = ((2 ^ (s - ni) : Nat) : Int)) (hnis : ni ≤ s) (hc6 : ∀ c, c < 2 ^ ni → c < 64) (hfk : FK I J w s ni dt ot no) {k : Nat} (hk : k ≤ 100) {r : Int} (hr : r = bz (!anyB (CP (KP J) ni (unl2 J w s ot no) (alkN (KP J) ni s (unl2 J w s ot no) (fun c => nxt J w s ni dt c) k)) (2 ^ s))) (hret : ∀ I1 : mI, (∀ a, ¬ a = 42 → ¬ a = 43 → I1 a = I a) → P (some (.int (Int32.ofInt (r)))) (hp sh I1 J)) : LXf TT cl6 X mi_T_isProvedBy (40 + 6) (1000 + 200 * 6) D P PX kc ks 21 [(0, .ref 24), (1, .int (Int32.ofInt ((k : Nat) : Int)))] [] (hp sh I J) := by
  have hS128 : 2 ^ (s - ni) ≤ 128 := pow2_7 (by omega)
  refine lf_aload_n d_T_isProvedBy_21 rfl rfl rfl ?_
  refine gi_getr s_T_isProvedBy_22 (c_24 hT) rfl ?_
  refine lf_iconst d_T_isProvedBy_25 (v := Int32.ofInt ((1 : Nat) : Int)) rfl ?_
  refine gw_callV s_T_isProvedBy_26 (j_fill (x := ((1 : Nat) : Int)) hx (c_42 hT) (by omega)) (S := []) rfl rfl gcR_1 (by decide) (by decide +kernel) (Nat.le_of_ble_eq_true rfl) (fun I J w26 => ?_)
  exact t_pb_21b hx hT hV hcc hs7 hi9 hi3 hnis hc6 hfk hk hr hret w26

theorem zand_t {p q : Prop} [Decidable p] [Decidable q] (h : ¬ (p ∧ q)) (b : Bool) : (!(decide p && decide q) && b) = b := by
  rw [← Bool.decide_and, decide_eq_false h]; rfl
theorem t_isProvedBy (hx : HX X L9 xs) {cc w s ni no n : Nat} {dt : Nat → Nat} {ot : Nat → Nat → Nat} (hT : clT sh cc (2 ^ (s - ni))) (hV : clV sh n w) (hcc : cc = 2 ^ s) (hs7 : s ≤ 7) (hi9 : I 24 2 = ni) (hi3 : I 24 3 = ((2 ^ (s - ni) : Nat) : Int)) (hnis : ni ≤ s) (hc6 : ∀ c, c < 2 ^ ni → c < 64) (hfk : FK I J w s ni dt ot no) {k : Nat} (hk : k ≤ 100) {da : Int} (hda : I 24 15 = da) (hda2 : -1 ≤ da ∧ da < 1000) (hsd : I 24 13 = I 15 9) (hr9 : -2147483648 ≤ I 15 9 ∧ I 15 9 < 2147483648) : EVi TT cl6 X mi_T_isProvedBy 6 [.ref 24, .int (Int32.ofInt ((k : Nat) : Int))] sh I J (fun r I1 J1 => r = bz (!(decide (0 ≤ da) && decide (da < ((k : Nat) : Int))) && !anyB (CP (KP J) ni (unl2 J w s ot no) (alkN (KP J) ni s (unl2 J w s ot no) (fun c => nxt J w s ni dt c) k)) (2 ^ s)) ∧ (∀ a, ¬ a = 42 → ¬ a = 43 → I1 a = I a) ∧ J1 = J) := by
  refine gw_enter (hx_ok hx) (by decide +kernel) (Nat.le_of_ble_eq_true rfl) (L := [(0, _), (1, _)]) rfl ?_
  refine lf_aload_n d_T_isProvedBy_0 rfl rfl rfl ?_
  refine gw_callN s_T_isProvedBy_1 (t_search_k hx hT hV hsd hr9) (S := []) rfl rfl (gcR_2 (c_24 hT)) (by decide) (by decide +kernel) (Nat.le_of_ble_eq_true rfl) ?_
  refine lf_aload_n d_T_isProvedBy_4 rfl rfl rfl ?_
  refine gi_geti s_T_isProvedBy_5 (c_24 hT) rfl ?_
  refine gi_top hda ?_
  refine gi_if_lt d_T_isProvedBy_8 (tgt := 21) (by decide) (by omega) (fun hb8 => ?_) (fun hb8 => ?_)
  · refine t_pb_21 hx hT hV hcc hs7 hi9 hi3 hnis hc6 hfk hk (r := bz (!(decide (0 ≤ da) && decide (da < ((k : Nat) : Int))) && !anyB (CP (KP J) ni (unl2 J w s ot no) (alkN (KP J) ni s (unl2 J w s ot no) (fun c => nxt J w s ni dt c) k)) (2 ^ s))) ?_ (fun I1 h => ⟨_, _, _, rfl, rfl, _, rfl, rfl, h, rfl⟩)
    rw [zand_t (by omega)]
  · refine lf_aload_n d_T_isProvedBy_11 rfl rfl rfl ?_
    refine gi_geti s_T_isProvedBy_12 (c_24 hT) rfl ?_
    refine gi_top hda ?_
    refine lf_iload_n d_T_isProvedBy_15 rfl rfl ?_
    refine gi_icmp_ge d_T_isProvedBy_16 (tgt := 21) (by decide) (by omega) (fun hb16 => ?_) (fun hb16 => ?_)
    · refine t_pb_21 hx hT hV hcc hs7 hi9 hi3 hnis hc6 hfk hk (r := bz (!(decide (0 ≤ da) && decide (da < ((k : Nat) : Int))) && !anyB (CP (KP J) ni (unl2 J w s ot no) (alkN (KP J) ni s (unl2 J w s ot no) (fun c => nxt J w s ni dt c) k)) (2 ^ s))) ?_ (fun I1 h => ⟨_, _, _, rfl, rfl, _, rfl, rfl, h, rfl⟩)
      rw [zand_t (by omega)]
    · refine lf_iconst d_T_isProvedBy_19 (v := Int32.ofInt ((0 : Nat) : Int)) rfl ?_
      refine gw_zret d_T_isProvedBy_20 rfl (by omega) ?_
      exact ⟨rfl, _, rfl, by rw [decide_eq_true (show 0 ≤ da by omega), decide_eq_true (show da < ((k : Nat) : Int) by omega)]; rfl, fun _ _ _ => rfl, rfl⟩
end TT15
