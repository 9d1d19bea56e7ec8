section LW6
variable {X : XT} {L9 : Nat} {xs : Nat → Int32} {sh : sM} {I : mI} {J : mJ}

variable {D : mF} {P : Option Value → mF → Prop} {PX : String → mF → Prop} {kc ks : Nat}

theorem gw_callAI {mi ci : MI} {pc lev lev1 kc0 ks0 kc1 ks1 len t n rc : Nat} {L : List (Nat × Value)} {S a S0 : List Value} {z : Int} {F : sM → mI → mJ → Prop} (hk : kCall TT cl6 X mi pc len ci t n rc) (he : EVa TT cl6 X ci lev1 kc1 ks1 a sh I J (fun v s I1 J1 => v = some (.int (Int32.ofInt z)) ∧ F s I1 J1)) (hS0 : a.reverse ++ S = S0) (hkc : kc1 + kc = kc0) (hks : ks1 + ks = ks0) (hn : a.length = n) (hrc : gcR sh a t rc) (hlev : lev1 < lev) (hml : ci.2.2.1 ≤ 181) (hst : (S.map fun v => v.category).sum ≤ 8)
    (kk : ∀ s1 I1 J1, F s1 I1 J1 → LXf TT cl6 X mi (40 + lev) (1000 + 200 * lev) D P PX kc ks (pc + len) L (.int (Int32.ofInt z) :: S) (hp s1 I1 J1)) :
    LXf TT cl6 X mi (40 + lev) (1000 + 200 * lev) D P PX kc0 ks0 pc L S0 (hp sh I J) := by
  refine gw_callA hk he hS0 hkc hks hn hrc hlev hml hst (fun v s1 I1 J1 w _ => ?_)
  obtain ⟨rfl, w⟩ := w
  exact kk s1 I1 J1 w
theorem RW_K {I1 : mI} {N : Nat} {kd : Nat → Int} {ow r2 r3 : Nat → Nat} (h : ∀ a, 100 < a → a < 124 → I1 a = I a) (hN : N ≤ 23) (g : RW sh I N kd ow r2 r3) : RW sh I1 N kd ow r2 r3 := ⟨g.1, g.2.1, fun j hj => by rw [h (101 + j) (by omega) (by omega)]; exact g.2.2 j hj⟩
theorem RW_ow {N ni s : Nat} {kd : Nat → Int} {ow r2 r3 : Nat → Nat} (g : RW sh I N kd ow r2 r3) (hrk : RKq N ni s kd ow r2 r3) : (∀ j, j < N → 0 ≤ I (101 + j) 1 ∧ I (101 + j) 1 ≤ 2) ∧ I 101 1 = 2 := by
  obtain ⟨ki, kc9, kg, hni1, hnis, hsN, hN23, hs7⟩ := hrk
  refine ⟨fun j hj => ?_, ?_⟩
  · rw [(g.2.2 j hj).2.1]
    rcases Nat.lt_or_ge j ni with q | q
    · have := ki j q; omega
    · rcases Nat.lt_or_ge j s with q1 | q1
      · have := kc9 j q q1; omega
      · have := (kg j q1 hj).2.1; omega
  · have := (g.2.2 0 (by omega)).2.1
    have h2 := (ki 0 (by omega)).2
    rw [h2] at this
    exact this
theorem NR_o {I1 : mI} (h3 : I1 3 = I 3) (h4 : I1 4 = I 4) (h : NR I) : NR I1 := by
  unfold NR at *
  rw [h3, h4]
  exact h
def DT (I0 I : mI) (N ni s k : Nat) : Prop := (∀ a, ¬ a = 5 → ¬ a = 124 → I a = I0 a) ∧ (∀ j, j < k → ni ≤ j → j < s → ∃ d : Nat, d < N ∧ I 124 j = d ∧ I 5 j = d) ∧ (∀ j, ¬ (j < k ∧ ni ≤ j ∧ j < s) → I 5 j = I0 5 j)
theorem DT_n {I0 : mI} {N ni s k : Nat} (h : DT I0 I N ni s k) (hk : ¬ (ni ≤ k ∧ k < s)) : DT I0 I N ni s (k + 1) :=
  ⟨h.1, fun j h1 h2 h3 => h.2.1 j (by omega) h2 h3, fun j hj => h.2.2 j (by omega)⟩
theorem DT_c {I0 : mI} {N ni s k d : Nat} (h : DT I0 I N ni s k) (hk : ni ≤ k ∧ k < s) (hd : d < N) : DT I0 (ipt (ipt I 124 k ((d : Nat) : Int)) 5 k ((d : Nat) : Int)) N ni s (k + 1) := by
  refine ⟨fun a h1 h2 => by rw [ipt_o h1, ipt_o h2]; exact h.1 a h1 h2, fun j h1 h2 h3 => ?_, fun j hj => ?_⟩
  · rw [ipt_o (show ¬ 124 = 5 by decide), ipt_s, ipt_s]
    by_cases e : j = k
    · exact ⟨d, hd, if_pos e, if_pos e⟩
    · rw [if_neg e, if_neg e, ipt_o (show ¬ 5 = 124 by decide)]
      exact h.2.1 j (by omega) h2 h3
  · rw [ipt_s, if_neg (by omega), ipt_o (show ¬ 5 = 124 by decide)]
    exact h.2.2 j (by omega)
theorem w_bl2 (hx : HX X L9 xs) {I0 : mI} {N ni s : Nat} {kd : Nat → Int} {ow r2 r3 : Nat → Nat} (hN : clN sh) (hM : clM sh .null) (h124 : sh 124 = some (.inl (.int, N, 0, fun _ => none))) (hrw : RW sh I N kd ow r2 r3) (hrk : RKq N ni s kd ow r2 r3) (hB : BT I0 I N ni s kd ow r2 r3 N) (hI10 : I 10 = fun _ => 0) (k245 : ∀ I1 : mI, DT I I1 N ni s N → LXf TT cl6 X mi_W_isBuilt (40 + 10) (1000 + 200 * 10) D P PX kc ks 245 [(6, .int (Int32.ofInt ((s : Nat) : Int))), (5, .int (Int32.ofInt ((1 : Nat) : Int))), (0, .ref 0), (1, .retAddr 1), (2, .ref 100), (3, .ref 124), (4, .ref 125)] [] (hp sh I1 J)) : ∀ (d k : Nat) (I1 : mI), k + d = N → DT I I1 N ni s k → LXf TT cl6 X mi_W_isBuilt (40 + 10) (1000 + 200 * 10) D P PX (d + kc) (6 * d + ks) 159 [(7, .int (Int32.ofInt ((k : Nat) : Int))), (6, .int (Int32.ofInt ((s : Nat) : Int))), (5, .int (Int32.ofInt ((1 : Nat) : Int))), (0, .ref 0), (1, .retAddr 1), (2, .ref 100), (3, .ref 124), (4, .ref 125)] [] (hp sh I1 J) := by
  obtain ⟨ki, kc9, kg, hni1, hnis, hsN, hN23, hs7⟩ := id hrk
  obtain ⟨⟨f, hs0, hf⟩, hr, hR⟩ := id hrw
  obtain ⟨b1, ⟨b21, b22, b23, b24⟩, b3, b4, b5, b6, b7, b8⟩ := hB
  intro d
  induction d with
  | zero =>
    intro k I1 hd hb
    obtain rfl : N = k := by omega
    refine lf_room (kc1 := kc) (ks1 := ks) (by omega) (by omega) ?_
    refine lf_iload d_W_isBuilt_159 rfl ?_
    refine lf_aload_n d_W_isBuilt_161 rfl rfl rfl ?_
    refine gi_len d_W_isBuilt_162 hs0 ?_
    refine gi_icmp_ge d_W_isBuilt_163 (tgt := 245) (by decide) (by omega) (fun hb163 => ?_) (fun hb163 => False.elim (by omega))
    refine lf_sub [1, 2, 3, 4, 5, 6, 7] rfl ?_
    exact k245 I1 hb
  | succ d ih =>
    intro k I1 hd hb
    have hrw1 := RW_K (I1 := I1) (fun a h1 h2 => hb.1 a (by omega) (by omega)) hN23 hrw
    obtain ⟨how, h0⟩ := RW_ow hrw1 hrk
    have hR1 := hrw1.2.2
    have g0 : I1 (101 + k) 0 = kd k := (hR1 k (by omega)).1
    have g1 : I1 (101 + k) 1 = ow k := (hR1 k (by omega)).2.1
    by_cases hc : ni ≤ k ∧ k < s
    · obtain ⟨hq9, howk, hfi, hna⟩ := kc9 k hc.1 hc.2
      refine lf_room (kc1 := (d + kc) + 1) (ks1 := (6 * d + ks) + 6) (by omega) (by omega) ?_
      refine lf_iload d_W_isBuilt_159 rfl ?_
      refine lf_aload_n d_W_isBuilt_161 rfl rfl rfl ?_
      refine gi_len d_W_isBuilt_162 hs0 ?_
      refine gi_icmp_ge d_W_isBuilt_163 (tgt := 245) (by decide) (by omega) (fun hb163 => False.elim (by omega)) (fun hb163 => ?_)
      refine lf_aload_n d_W_isBuilt_166 rfl rfl rfl ?_
      refine lf_iload d_W_isBuilt_167 rfl ?_
      refine gi_aald (kd := 0) d_W_isBuilt_169 rfl hs0 (by omega) (hf k (by omega)) ?_
      refine lf_iconst d_W_isBuilt_170 (v := Int32.ofInt ((0 : Nat) : Int)) rfl ?_
      refine gi_ialoadN d_W_isBuilt_171 (hr k (by omega)) (by omega) ?_
      refine gi_top (g0.trans hq9) ?_
      refine lf_bipush d_W_isBuilt_172 (v := Int32.ofInt ((99 : Nat) : Int)) (by decide +kernel) ?_
      refine gi_icmp_ne d_W_isBuilt_174 (tgt := 239) (by decide) (by omega) (fun hb174 => False.elim (by omega)) (fun hb174 => ?_)
      refine lf_aload_n d_W_isBuilt_177 rfl rfl rfl ?_
      refine lf_iload d_W_isBuilt_178 rfl ?_
      refine lf_aload_n d_W_isBuilt_180 rfl rfl rfl ?_
      refine lf_aload_n d_W_isBuilt_181 rfl rfl rfl ?_
      refine gi_len d_W_isBuilt_182 hs0 ?_
      refine lf_aload_n d_W_isBuilt_183 rfl rfl rfl ?_
      refine lf_iload d_W_isBuilt_184 rfl ?_
      refine gi_aald (kd := 0) d_W_isBuilt_186 rfl hs0 (by omega) (hf k (by omega)) ?_
      refine lf_iconst d_W_isBuilt_187 (v := Int32.ofInt ((1 : Nat) : Int)) rfl ?_
      refine gi_ialoadN d_W_isBuilt_188 (hr k (by omega)) (by omega) ?_
      refine gi_top g1 ?_
      refine lf_aload_n d_W_isBuilt_189 rfl rfl rfl ?_
      refine lf_sipush d_W_isBuilt_190 (v := Int32.ofInt ((300 : Nat) : Int)) (by decide +kernel) ?_
      refine lf_iload d_W_isBuilt_193 rfl ?_
      refine gi_iaddN (a := 300) (b := k) d_W_isBuilt_195 ?_
      refine lf_sipush d_W_isBuilt_196 (v := Int32.ofInt ((1000 : Nat) : Int)) (by decide +kernel) ?_
      refine gw_callI s_W_isBuilt_199 (w_in hx (i := 300 + k) (n := 1000) (by omega) (by omega) (by omega)) (S := [_, _, _, _, _]) rfl rfl gcR_1 (by decide) (by decide +kernel) (Nat.le_of_ble_eq_true rfl) (fun r199 I199 J199 w199 => ?_)
      obtain ⟨⟨z1, hz1, rfl⟩, hi9, hj9⟩ := w199
      rw [hi9, hj9]
      clear hi9 hj9
      refine gw_callI s_W_isBuilt_202 (w_lineBy (m := N) hx hs0 hf hr how (by omega) (bl := N) (nt := ow k) (by omega) (by omega) h0 (by omega)) (S := [_, _]) rfl rfl gcR_1 (by decide) (by decide +kernel) (Nat.le_of_ble_eq_true rfl) (fun r202 I202 J202 w202 => ?_)
      obtain ⟨⟨d1, hd1, rfl, qd⟩, hi9, hj9⟩ := w202
      rw [hi9, hj9]
      clear hi9 hj9
      have h59 : ∀ j, -2147483648 ≤ ipt I1 124 k ((d1 : Nat) : Int) 5 j ∧ ipt I1 124 k ((d1 : Nat) : Int) 5 j < 2147483648 := fun j => by
        rw [ipt_o (by decide)]
        by_cases e : j < k ∧ ni ≤ j ∧ j < s
        · obtain ⟨d2, z1, z2, z3⟩ := hb.2.1 j e.1 e.2.1 e.2.2
          omega
        · rw [hb.2.2 j e]
          exact b5 j
      have hO : ∀ j, 0 ≤ ipt I1 124 k ((d1 : Nat) : Int) 10 j ∧ ipt I1 124 k ((d1 : Nat) : Int) 10 j ≤ 4 := fun j => by
        rw [ipt_o (by decide), hb.1 10 (by decide) (by decide), hI10]
        show (0 : Int) ≤ 0 ∧ (0 : Int) ≤ 4
        decide
      have hfit : ipt I1 124 k ((d1 : Nat) : Int) 4 d1 = (ow k : Int) ∨ ipt I1 124 k ((d1 : Nat) : Int) 4 d1 = 2 := by
        rw [ipt_o (by decide), hb.1 4 (by decide) (by decide), (b6 d1 hd1).2]
        rw [(hR1 d1 hd1).2.1] at qd
        omega
      refine gi_iastoreN d_W_isBuilt_205 h124 (by omega) ?_
      refine lf_iload d_W_isBuilt_206 rfl ?_
      refine lf_aload_n d_W_isBuilt_208 rfl rfl rfl ?_
      refine gw_callX s_W_isBuilt_209 (w_close_2 hx hM (EVt_x (m_close_t2 hx hN hM (NR_o (I := I) ((ipt_o (by decide)).trans (hb.1 3 (by decide) (by decide))) ((ipt_o (by decide)).trans (hb.1 4 (by decide) (by decide))) b3) h59 hO (n := N) ((congrFun (ipt_o (by decide)) 11).trans ((congrFun (hb.1 1 (by decide) (by decide)) 11).trans b21)) (by omega) (Or.inr (by rw [ipt_o (by decide), hb.1 10 (by decide) (by decide), hI10]; decide)))) (lev := 9) (by decide)) (S := [_]) rfl rfl gcR_1 (by decide) (by decide +kernel) (Nat.le_of_ble_eq_true rfl) (fun I209 J209 w209 => ?_)
      obtain ⟨hi9, hj9⟩ := w209
      rw [hi9, hj9]
      clear hi9 hj9
      refine gi_pushi s_W_isBuilt_212 ?_
      refine gi_icmp_ne d_W_isBuilt_214 (tgt := 235) (by decide) (by omega) (fun hb214 => False.elim (by omega)) (fun hb214 => ?_)
      refine lf_aload_n d_W_isBuilt_217 rfl rfl rfl ?_
      refine lf_iload d_W_isBuilt_218 rfl ?_
      refine lf_aload_n d_W_isBuilt_220 rfl rfl rfl ?_
      refine lf_iload d_W_isBuilt_221 rfl ?_
      refine gi_ialoadN d_W_isBuilt_223 h124 (by omega) ?_
      refine gi_top ipt_e ?_
      refine gw_callI s_W_isBuilt_224 (wI_data hx hM (m_data hx hN hM (NR_o (I := I) ((ipt_o (by decide)).trans (hb.1 3 (by decide) (by decide))) ((ipt_o (by decide)).trans (hb.1 4 (by decide) (by decide))) b3) (n := N) ((congrFun (ipt_o (by decide)) 11).trans ((congrFun (hb.1 1 (by decide) (by decide)) 11).trans b21)) (by omega) (by omega) hd1 (by rw [ipt_o (by decide), hb.1 3 (by decide) (by decide), (b6 k (by omega)).1]; exact hq9) (by rw [ipt_o (by decide), hb.1 4 (by decide) (by decide)]; exact (b6 k (by omega)).2) (by omega) hfit) (lev := 9) (by decide)) (S := [_]) rfl rfl gcR_1 (by decide) (by decide +kernel) (Nat.le_of_ble_eq_true rfl) (fun r224 I224 J224 w224 => ?_)
      obtain ⟨e9, rfl, hj9⟩ := w224
      rw [hj9]
      clear hj9
      have e5 : r224 = -1 := e9.trans ((congrFun (ipt_o (by decide)) k).trans ((hb.2.2 k (by omega)).trans (b7 k (by omega) hc.1 hc.2).1))
      refine lf_iconst d_W_isBuilt_227 (v := Int32.ofInt (-1)) rfl ?_
      refine gi_icmp_ne d_W_isBuilt_228 (tgt := 235) (by decide) (by omega) (fun hb228 => False.elim (by omega)) (fun hb228 => ?_)
      refine lf_iconst d_W_isBuilt_231 (v := Int32.ofInt ((1 : Nat) : Int)) rfl ?_
      refine lf_goto d_W_isBuilt_232 (tgt := 236) (by decide) ?_
      refine gi_iandN (a := 1) (b := 1) d_W_isBuilt_236 ?_
      refine gi_top rfl ?_
      refine lf_istore d_W_isBuilt_237 (by decide +kernel) (L2 := [(5, _), (7, _), (6, _), (0, _), (1, _), (2, _), (3, _), (4, _)]) rfl ?_
      refine gi_iincN d_W_isBuilt_239 rfl (by decide +kernel) (L2 := [(7, _), (5, _), (6, _), (0, _), (1, _), (2, _), (3, _), (4, _)]) rfl ?_
      refine lf_goto d_W_isBuilt_242 (tgt := 159) (by decide) ?_
      refine lf_sub [0, 2, 1, 3, 4, 5, 6, 7] rfl ?_
      exact ih (k + 1) _ (by omega) (DT_c hb hc hd1)
    · have hrn : -2147483648 ≤ kd k ∧ kd k < 2147483648 := by
        have := b3.1 k
        rw [(b6 k (by omega)).1] at this
        omega
      have hq9 : ¬ kd k = 99 := by
        rcases Nat.lt_or_ge k ni with q | q
        · have := (ki k q).1; omega
        · have := (kg k (by omega) (by omega)).1
          unfold KDq at this; omega
      refine lf_room (kc1 := d + kc) (ks1 := 6 * d + ks) (by omega) (by omega) ?_
      refine lf_iload d_W_isBuilt_159 rfl ?_
      refine lf_aload_n d_W_isBuilt_161 rfl rfl rfl ?_
      refine gi_len d_W_isBuilt_162 hs0 ?_
      refine gi_icmp_ge d_W_isBuilt_163 (tgt := 245) (by decide) (by omega) (fun hb163 => False.elim (by omega)) (fun hb163 => ?_)
      refine lf_aload_n d_W_isBuilt_166 rfl rfl rfl ?_
      refine lf_iload d_W_isBuilt_167 rfl ?_
      refine gi_aald (kd := 0) d_W_isBuilt_169 rfl hs0 (by omega) (hf k (by omega)) ?_
      refine lf_iconst d_W_isBuilt_170 (v := Int32.ofInt ((0 : Nat) : Int)) rfl ?_
      refine gi_ialoadN d_W_isBuilt_171 (hr k (by omega)) (by omega) ?_
      refine gi_top g0 ?_
      refine lf_bipush d_W_isBuilt_172 (v := Int32.ofInt ((99 : Nat) : Int)) (by decide +kernel) ?_
      refine gi_icmp_ne d_W_isBuilt_174 (tgt := 239) (by decide) (by omega) (fun hb174 => ?_) (fun hb174 => False.elim (by omega))
      refine gi_iincN d_W_isBuilt_239 rfl (by decide +kernel) (L2 := [(7, _), (6, _), (5, _), (0, _), (1, _), (2, _), (3, _), (4, _)]) rfl ?_
      refine lf_goto d_W_isBuilt_242 (tgt := 159) (by decide) ?_
      exact ih (k + 1) _ (by omega) (DT_n hb hc)
def OT (I0 I : mI) (N t k : Nat) : Prop := (∀ a, ¬ a = 9 → ¬ a = 10 → ¬ a = 126 + t → I a = I0 a) ∧ I 10 t = (k : Int) ∧ (∀ t1, ¬ t1 = t → I 10 t1 = I0 10 t1) ∧ (∀ j, j < k → ∃ d : Nat, d < N ∧ I (126 + t) j = d ∧ I 9 (t * 4 + j) = d) ∧ (∀ q, ¬ (t * 4 ≤ q ∧ q < t * 4 + k) → I 9 q = I0 9 q)
theorem OT_s {I0 : mI} {N t k d : Nat} (h : OT I0 I N t k) (hd : d < N) : OT I0 (ipt (ipt (ipt I (126 + t) k ((d : Nat) : Int)) 9 (t * 4 + k) ((d : Nat) : Int)) 10 t ((k + 1 : Nat) : Int)) N t (k + 1) := by
  obtain ⟨h1, h2, h3, h4, h5⟩ := h
  refine ⟨fun a a1 a2 a3 => by rw [ipt_o a2, ipt_o a1, ipt_o a3]; exact h1 a a1 a2 a3, by rw [ipt_s, if_pos rfl], fun t1 ht1 => ?_, fun j hj => ?_, fun q hq => ?_⟩
  · rw [ipt_s, if_neg ht1, ipt_o (by decide), ipt_o (by omega)]
    exact h3 t1 ht1
  · rw [ipt_o (show ¬ 126 + t = 10 by omega), ipt_o (show ¬ 126 + t = 9 by omega), ipt_s, ipt_o (show ¬ 9 = 10 by decide), ipt_s]
    by_cases e : j = k
    · exact ⟨d, hd, if_pos e, if_pos (by omega)⟩
    · rw [if_neg e, if_neg (by omega), ipt_o (by omega)]
      exact h4 j (by omega)
  · rw [ipt_o (show ¬ 9 = 10 by decide), ipt_s, if_neg (by omega), ipt_o (by omega)]
    exact h5 q (by omega)
theorem w_bl3 (hx : HX X L9 xs) {N ni s no : Nat} {kd : Nat → Int} {ow r2 r3 : Nat → Nat} (hN : clN sh) (hM : clM sh .null) {f5 : Nat → Option Nat} (h125 : sh 125 = some (.inl (.array .int, 2, 2, f5))) (hf5 : ∀ t, t < 2 → f5 t = some (126 + t)) (h126 : ∀ t, t < 2 → sh (126 + t) = some (.inl (.int, no, 0, fun _ => none))) (hrw : RW sh I N kd ow r2 r3) (hrk : RKq N ni s kd ow r2 r3) (hno : no ≤ 2) {t : Nat} (ht : t < 2) (hNR : NR I) (hn1 : I 1 11 = (N : Int)) (h4 : ∀ j, j < N → I 4 j = ow j) (k337 : ∀ I1 : mI, OT I I1 N t no → LXf TT cl6 X mi_W_isBuilt (40 + 10) (1000 + 200 * 10) D P PX kc ks 337 [(7, .int (Int32.ofInt ((t : Nat) : Int))), (6, .int (Int32.ofInt ((s : Nat) : Int))), (5, .int (Int32.ofInt ((1 : Nat) : Int))), (0, .ref 0), (1, .retAddr 1), (2, .ref 100), (3, .ref 124), (4, .ref 125)] [] (hp sh I1 J)) : ∀ (d k : Nat) (I1 : mI), k + d = no → OT I I1 N t k → LXf TT cl6 X mi_W_isBuilt (40 + 10) (1000 + 200 * 10) D P PX kc ks 257 [(8, .int (Int32.ofInt ((k : Nat) : Int))), (7, .int (Int32.ofInt ((t : Nat) : Int))), (6, .int (Int32.ofInt ((s : Nat) : Int))), (5, .int (Int32.ofInt ((1 : Nat) : Int))), (0, .ref 0), (1, .retAddr 1), (2, .ref 100), (3, .ref 124), (4, .ref 125)] [] (hp sh I1 J) := by
  obtain ⟨ki, kc9, kg, hni1, hnis, hsN, hN23, hs7⟩ := id hrk
  obtain ⟨⟨f, hs0, hf⟩, hr, hR⟩ := id hrw
  intro d
  induction d with
  | zero =>
    intro k I1 hd hb
    obtain rfl : no = k := by omega
    refine lf_iload d_W_isBuilt_257 rfl ?_
    refine lf_aload d_W_isBuilt_259 rfl rfl ?_
    refine lf_iload d_W_isBuilt_261 rfl ?_
    refine gi_aald (kd := 0) d_W_isBuilt_263 rfl h125 (by omega) (hf5 t ht) ?_
    refine gi_len d_W_isBuilt_264 (h126 t ht) ?_
    refine gi_icmp_ge d_W_isBuilt_265 (tgt := 337) (by decide) (by omega) (fun hb265 => ?_) (fun hb265 => False.elim (by omega))
    refine lf_sub [1, 2, 3, 4, 5, 6, 7, 8] rfl ?_
    exact k337 I1 hb
  | succ d ih =>
    intro k I1 hd hb
    have hrw1 := RW_K (I1 := I1) (fun a h1 h2 => hb.1 a (by omega) (by omega) (by omega)) hN23 hrw
    obtain ⟨how, h0⟩ := RW_ow hrw1 hrk
    have hR1 := hrw1.2.2
    refine lf_iload d_W_isBuilt_257 rfl ?_
    refine lf_aload d_W_isBuilt_259 rfl rfl ?_
    refine lf_iload d_W_isBuilt_261 rfl ?_
    refine gi_aald (kd := 0) d_W_isBuilt_263 rfl h125 (by omega) (hf5 t ht) ?_
    refine gi_len d_W_isBuilt_264 (h126 t ht) ?_
    refine gi_icmp_ge d_W_isBuilt_265 (tgt := 337) (by decide) (by omega) (fun hb265 => False.elim (by omega)) (fun hb265 => ?_)
    refine lf_aload d_W_isBuilt_268 rfl rfl ?_
    refine lf_iload d_W_isBuilt_270 rfl ?_
    refine gi_aald (kd := 0) d_W_isBuilt_272 rfl h125 (by omega) (hf5 t ht) ?_
    refine lf_iload d_W_isBuilt_273 rfl ?_
    refine lf_aload_n d_W_isBuilt_275 rfl rfl rfl ?_
    refine lf_aload_n d_W_isBuilt_276 rfl rfl rfl ?_
    refine gi_len d_W_isBuilt_277 hs0 ?_
    refine lf_iload d_W_isBuilt_278 rfl ?_
    refine lf_aload_n d_W_isBuilt_280 rfl rfl rfl ?_
    refine lf_sipush d_W_isBuilt_281 (v := Int32.ofInt ((320 : Nat) : Int)) (by decide +kernel) ?_
    refine lf_iconst d_W_isBuilt_284 (v := Int32.ofInt ((4 : Nat) : Int)) rfl ?_
    refine lf_iload d_W_isBuilt_285 rfl ?_
    refine gi_imulN (a := 4) (b := t) d_W_isBuilt_287 ?_
    refine gi_iaddN (a := 320) (b := (4 * t)) d_W_isBuilt_288 ?_
    refine lf_iload d_W_isBuilt_289 rfl ?_
    refine gi_iaddN (a := (320 + (4 * t))) (b := k) d_W_isBuilt_291 ?_
    refine lf_sipush d_W_isBuilt_292 (v := Int32.ofInt ((1000 : Nat) : Int)) (by decide +kernel) ?_
    refine gw_callI s_W_isBuilt_295 (w_in hx (i := 320 + 4 * t + k) (n := 1000) (by omega) (by omega) (by omega)) (S := [_, _, _, _, _]) rfl rfl gcR_1 (by decide) (by decide +kernel) (Nat.le_of_ble_eq_true rfl) (fun r295 I295 J295 w295 => ?_)
    obtain ⟨⟨z1, hz1, rfl⟩, hi9, hj9⟩ := w295
    rw [hi9, hj9]
    clear hi9 hj9
    refine gw_callI s_W_isBuilt_298 (w_lineBy (m := N) hx hs0 hf hr how (by omega) (bl := N) (nt := t) (by omega) (by omega) h0 (by omega)) (S := [_, _]) rfl rfl gcR_1 (by decide) (by decide +kernel) (Nat.le_of_ble_eq_true rfl) (fun r298 I298 J298 w298 => ?_)
    obtain ⟨⟨d1, hd1, rfl, qd⟩, hi9, hj9⟩ := w298
    rw [hi9, hj9]
    clear hi9 hj9
    have hfit : ipt I1 (126 + t) k ((d1 : Nat) : Int) 4 d1 = (t : Int) ∨ ipt I1 (126 + t) k ((d1 : Nat) : Int) 4 d1 = 2 := by
      rw [ipt_o (by omega), hb.1 4 (by decide) (by decide) (by omega), h4 d1 hd1]
      rw [(hR1 d1 hd1).2.1] at qd
      omega
    refine gi_iastoreN d_W_isBuilt_301 (h126 t ht) (by omega) ?_
    refine lf_iload d_W_isBuilt_302 rfl ?_
    refine lf_aload_n d_W_isBuilt_304 rfl rfl rfl ?_
    refine lf_iload d_W_isBuilt_305 rfl ?_
    refine lf_aload d_W_isBuilt_307 rfl rfl ?_
    refine lf_iload d_W_isBuilt_309 rfl ?_
    refine gi_aald (kd := 0) d_W_isBuilt_311 rfl h125 (by omega) (hf5 t ht) ?_
    refine lf_iload d_W_isBuilt_312 rfl ?_
    refine gi_ialoadN d_W_isBuilt_314 (h126 t ht) (by omega) ?_
    refine gi_top ipt_e ?_
    refine gw_callI s_W_isBuilt_315 (wI_output hx hM (m_output hx hN hM (NR_o (I := I) ((ipt_o (by omega)).trans (hb.1 3 (by decide) (by decide) (by omega))) ((ipt_o (by omega)).trans (hb.1 4 (by decide) (by decide) (by omega))) hNR) (n := N) ((congrFun (ipt_o (by omega)) 11).trans ((congrFun (hb.1 1 (by decide) (by decide) (by omega)) 11).trans hn1)) (by omega) ht hd1 hfit ((congrFun (ipt_o (by omega)) t).trans hb.2.1) (by omega)) (lev := 9) (by decide)) (S := [_]) rfl rfl gcR_1 (by decide) (by decide +kernel) (Nat.le_of_ble_eq_true rfl) (fun r315 I315 J315 w315 => ?_)
    obtain ⟨rfl, rfl, hj9⟩ := w315
    rw [hj9]
    clear hj9
    refine lf_iload d_W_isBuilt_318 rfl ?_
    refine gi_icmp_ne d_W_isBuilt_320 (tgt := 327) (by decide) (by omega) (fun hb320 => False.elim (by omega)) (fun hb320 => ?_)
    refine lf_iconst d_W_isBuilt_323 (v := Int32.ofInt ((1 : Nat) : Int)) rfl ?_
    refine lf_goto d_W_isBuilt_324 (tgt := 328) (by decide) ?_
    refine gi_iandN (a := 1) (b := 1) d_W_isBuilt_328 ?_
    refine gi_top rfl ?_
    refine lf_istore d_W_isBuilt_329 (by decide +kernel) (L2 := [(5, _), (8, _), (7, _), (6, _), (0, _), (1, _), (2, _), (3, _), (4, _)]) rfl ?_
    refine gi_iincN d_W_isBuilt_331 rfl (by decide +kernel) (L2 := [(8, _), (5, _), (7, _), (6, _), (0, _), (1, _), (2, _), (3, _), (4, _)]) rfl ?_
    refine lf_goto d_W_isBuilt_334 (tgt := 257) (by decide) ?_
    refine lf_sub [0, 2, 3, 1, 4, 5, 6, 7, 8] rfl ?_
    exact ih (k + 1) _ (by omega) (OT_s hb hd1)
/-- what isBuilt leaves -/
def BUI (sh0 : sM) (I0 : mI) (J0 : mJ) (sh : sM) (I : mI) (J : mJ) (N ni s no w : Nat) (kd : Nat → Int) (r2 r3 dt : Nat → Nat) (ot : Nat → Nat → Nat) : Prop :=
  SHC sh N s ni w ∧ CLB I J N s ni no w (I 3) r2 (pbF kd r2 r3) r2 dt ot ∧ (∀ j, j < N → I 3 j = kd j) ∧ (∀ a, 80 < a → sh a = sh0 a ∧ J a = J0 a) ∧ (∀ a, 80 < a → ¬ a = 124 → ¬ a = 126 → ¬ a = 127 → I a = I0 a) ∧
  (∀ j, ni ≤ j → j < s → I 124 j = dt j ∧ dt j < N) ∧ (∀ t j, t < 2 → j < no → I (126 + t) j = ot t j ∧ ot t j < N) ∧ (∀ j, 0 ≤ I 13 j ∧ I 13 j ≤ 1) ∧
  (I 15 9 = 0 ∧ J 15 11 = Int64.ofInt (-1) ∧ (∀ u, u < w → J 29 u = evr s) ∧ (∀ q, J 30 q = 0)) ∧ I 17 4 = 0 ∧ I 24 12 = 0 ∧ I 24 13 = -1
theorem w_isBuilt (hx : HX X L9 xs) {N ni s no : Nat} {kd : Nat → Int} {ow r2 r3 : Nat → Nat} {w : Nat} (hN : clN sh) (hM : clM sh .null) (h124 : sh 124 = some (.inl (.int, N, 0, fun _ => none))) {f5 : Nat → Option Nat} (h125 : sh 125 = some (.inl (.array .int, 2, 2, f5))) (hf5 : ∀ t, t < 2 → f5 t = some (126 + t)) (h126 : ∀ t, t < 2 → sh (126 + t) = some (.inl (.int, no, 0, fun _ => none))) (hrw : RW sh I N kd ow r2 r3) (hrk : RKq N ni s kd ow r2 r3) (hni3 : ni ≤ 3) (hno : 1 ≤ no ∧ no ≤ 2) (hsw : (s ≤ 6 ∧ w = 1) ∨ (s = 7 ∧ w = 2)) (hz : (∀ a, 3 ≤ a → a ≤ 13 → I a = fun _ => 0) ∧ I 1 11 = 0 ∧ I 1 12 = 0) (hfree : ∀ a, 14 ≤ a → a ≤ 80 → sh a = none) : EVa TT cl6 X mi_W_isBuilt 10 (N + 69) (6 * N + 5550) [.ref 0, .retAddr 1, .ref 100, .ref 124, .ref 125] sh I J (fun v s1 I1 J1 => v = some (.int (Int32.ofInt ((1 : Nat) : Int))) ∧ ∃ (dt : Nat → Nat) (ot : Nat → Nat → Nat), BUI sh I J s1 I1 J1 N ni s no w kd r2 r3 dt ot) := by
  obtain ⟨ki, kc9, kg, hni1, hnis, hsN, hN23, hs7⟩ := id hrk
  obtain ⟨⟨f, hs0, hf⟩, hr, hR⟩ := id hrw
  obtain ⟨hzz, hz1, hz2⟩ := hz
  refine gw_enter (hx_ok hx) (by decide +kernel) (Nat.le_of_ble_eq_true rfl) (L := [(0, _), (1, _), (2, _), (3, _), (4, _)]) rfl ?_
  refine lf_iconst d_W_isBuilt_0 (v := Int32.ofInt ((1 : Nat) : Int)) rfl ?_
  refine lf_istore d_W_isBuilt_1 (by decide +kernel) (L2 := [(5, _), (0, _), (1, _), (2, _), (3, _), (4, _)]) rfl ?_
  refine lf_iconst d_W_isBuilt_3 (v := Int32.ofInt ((0 : Nat) : Int)) rfl ?_
  refine lf_istore d_W_isBuilt_4 (by decide +kernel) (L2 := [(6, _), (5, _), (0, _), (1, _), (2, _), (3, _), (4, _)]) rfl ?_
  refine lf_iconst d_W_isBuilt_6 (v := Int32.ofInt ((0 : Nat) : Int)) rfl ?_
  refine lf_istore d_W_isBuilt_7 (by decide +kernel) (L2 := [(7, _), (6, _), (5, _), (0, _), (1, _), (2, _), (3, _), (4, _)]) rfl ?_
  have hzr : ∀ a, 3 ≤ a → a ≤ 13 → ∀ j, I a j = 0 := fun a h1 h2 j => congrFun (hzz a h1 h2) j
  refine lf_eqL (L1 := [(7, .int (Int32.ofInt ((0 : Nat) : Int))), (6, .int (Int32.ofInt ((min (0) s : Nat) : Int))), (5, .int (Int32.ofInt ((1 : Nat) : Int))), (0, .ref 0), (1, .retAddr 1), (2, .ref 100), (3, .ref 124), (4, .ref 125)]) (by rw [Nat.zero_min]) ?_
  refine w_bl1 hx hN hM hrw hrk hni3 (fun Ia hB => ?_) N 0 _ (by omega) ⟨fun a _ _ _ _ _ _ _ _ => rfl, ⟨hz1, by rw [Nat.zero_min]; exact hz2, by rw [hzr 11 (by decide) (by decide), Nat.zero_min, Nat.zero_sub] <;> rfl, by rw [hzr 11 (by decide) (by decide), Nat.zero_min, Nat.zero_sub] <;> rfl⟩, ⟨fun j => by have := hzr 3 (by decide) (by decide) j; omega, fun j => by have := hzr 4 (by decide) (by decide) j; omega⟩, fun j => by have := hzr 8 (by decide) (by decide) j; omega, fun j => by have := hzr 5 (by decide) (by decide) j; omega, fun j hj => absurd hj (Nat.not_lt_zero j), fun j hj => absurd hj (Nat.not_lt_zero j), fun j hj => absurd hj (Nat.not_lt_zero j)⟩
  obtain ⟨b1, ⟨b21, b22, b23, b24⟩, b3, b4, b5, b6, b7, b8⟩ := id hB
  rw [show min N ni = ni by omega] at b22
  rw [show min N s = s by omega] at b23 b24
  have hrwa := RW_K (I1 := Ia) (fun a h1 h2 => b1 a (by omega) (by omega) (by omega) (by omega) (by omega) (by omega) (by omega) (by omega)) hN23 hrw
  have z10 : Ia 10 = fun _ => 0 := (b1 10 (by decide) (by decide) (by decide) (by decide) (by decide) (by decide) (by decide) (by decide)).trans (hzz 10 (by decide) (by decide))
  refine lf_iconst d_W_isBuilt_156 (v := Int32.ofInt ((0 : Nat) : Int)) rfl ?_
  refine lf_istore d_W_isBuilt_157 (by decide +kernel) (L2 := [(7, _), (6, _), (5, _), (0, _), (1, _), (2, _), (3, _), (4, _)]) rfl ?_
  refine w_bl2 (I := Ia) hx hN hM h124 hrwa hrk hB z10 (fun Ib q1 => ?_) N 0 _ (by omega) ⟨fun a _ _ => rfl, fun j hj => absurd hj (Nat.not_lt_zero j), fun j _ => rfl⟩
  have hrwb := RW_K (I1 := Ib) (fun a h1 h2 => q1.1 a (by omega) (by omega)) hN23 hrwa
  have nrb : NR Ib := NR_o (q1.1 3 (by decide) (by decide)) (q1.1 4 (by decide) (by decide)) b3
  have n1b : Ib 1 11 = (N : Int) := (congrFun (q1.1 1 (by decide) (by decide)) 11).trans b21
  have f4b : ∀ j, j < N → Ib 4 j = ow j := fun j hj => (congrFun (q1.1 4 (by decide) (by decide)) j).trans (b6 j hj).2
  have z10b : Ib 10 = fun _ => 0 := (q1.1 10 (by decide) (by decide)).trans z10
  refine lf_iconst d_W_isBuilt_245 (v := Int32.ofInt ((0 : Nat) : Int)) rfl ?_
  refine lf_istore d_W_isBuilt_246 (by decide +kernel) (L2 := [(7, _), (6, _), (5, _), (0, _), (1, _), (2, _), (3, _), (4, _)]) rfl ?_
  refine lf_iload d_W_isBuilt_248 rfl ?_
  refine lf_iconst d_W_isBuilt_250 (v := Int32.ofInt ((2 : Nat) : Int)) rfl ?_
  refine gi_icmp_ge d_W_isBuilt_251 (tgt := 343) (by decide) (by omega) (fun hb251 => False.elim (by omega)) (fun hb251 => ?_)
  refine lf_iconst d_W_isBuilt_254 (v := Int32.ofInt ((0 : Nat) : Int)) rfl ?_
  refine lf_istore d_W_isBuilt_255 (by decide +kernel) (L2 := [(8, _), (7, _), (6, _), (5, _), (0, _), (1, _), (2, _), (3, _), (4, _)]) rfl ?_
  refine w_bl3 (I := Ib) (t := 0) hx hN hM h125 hf5 h126 hrwb hrk hno.2 (by decide) nrb n1b f4b (fun Ic q2 => ?_) no 0 _ (by omega) ⟨fun a _ _ _ => rfl, by rw [z10b]; rfl, fun t1 _ => rfl, fun j hj => absurd hj (Nat.not_lt_zero j), fun q _ => rfl⟩
  have hrwc := RW_K (I1 := Ic) (fun a h1 h2 => q2.1 a (by omega) (by omega) (by omega)) hN23 hrwb
  have nrc : NR Ic := NR_o (q2.1 3 (by decide) (by decide) (by decide)) (q2.1 4 (by decide) (by decide) (by decide)) nrb
  have n1c : Ic 1 11 = (N : Int) := (congrFun (q2.1 1 (by decide) (by decide) (by decide)) 11).trans n1b
  have f4c : ∀ j, j < N → Ic 4 j = ow j := fun j hj => (congrFun (q2.1 4 (by decide) (by decide) (by decide)) j).trans (f4b j hj)
  refine gi_iincN d_W_isBuilt_337 rfl (by decide +kernel) (L2 := [(7, _), (6, _), (5, _), (0, _), (1, _), (2, _), (3, _), (4, _)]) rfl ?_
  refine lf_goto d_W_isBuilt_340 (tgt := 248) (by decide) ?_
  refine lf_iload d_W_isBuilt_248 rfl ?_
  refine lf_iconst d_W_isBuilt_250 (v := Int32.ofInt ((2 : Nat) : Int)) rfl ?_
  refine gi_icmp_ge d_W_isBuilt_251 (tgt := 343) (by decide) (by omega) (fun hb251 => False.elim (by omega)) (fun hb251 => ?_)
  refine lf_iconst d_W_isBuilt_254 (v := Int32.ofInt ((0 : Nat) : Int)) rfl ?_
  refine lf_istore d_W_isBuilt_255 (by decide +kernel) (L2 := [(8, _), (7, _), (6, _), (5, _), (0, _), (1, _), (2, _), (3, _), (4, _)]) rfl ?_
  refine w_bl3 (I := Ic) (t := 1) hx hN hM h125 hf5 h126 hrwc hrk hno.2 (by decide) nrc n1c f4c (fun Id q3 => ?_) no 0 _ (by omega) ⟨fun a _ _ _ => rfl, by rw [q2.2.2.1 1 (by decide), z10b]; rfl, fun t1 _ => rfl, fun j hj => absurd hj (Nat.not_lt_zero j), fun q _ => rfl⟩
  refine gi_iincN d_W_isBuilt_337 rfl (by decide +kernel) (L2 := [(7, _), (6, _), (5, _), (0, _), (1, _), (2, _), (3, _), (4, _)]) rfl ?_
  refine lf_goto d_W_isBuilt_340 (tgt := 248) (by decide) ?_
  refine lf_iload d_W_isBuilt_248 rfl ?_
  refine lf_iconst d_W_isBuilt_250 (v := Int32.ofInt ((2 : Nat) : Int)) rfl ?_
  refine gi_icmp_ge d_W_isBuilt_251 (tgt := 343) (by decide) (by omega) (fun hb251 => ?_) (fun hb251 => False.elim (by omega))
  refine lf_sub [1, 2, 3, 4, 5, 6, 7] rfl ?_
  have eI : ∀ a, ¬ a = 5 → ¬ a = 9 → ¬ a = 10 → ¬ a = 124 → ¬ a = 126 → ¬ a = 127 → Id a = Ia a := fun a h1 h2 h3 h4 h5 h6 => (q3.1 a h2 h3 h6).trans ((q2.1 a h2 h3 h5).trans (q1.1 a h1 h4))
  have e5 : Id 5 = Ib 5 := (q3.1 5 (by decide) (by decide) (by decide)).trans (q2.1 5 (by decide) (by decide) (by decide))
  have e124 : Id 124 = Ib 124 := (q3.1 124 (by decide) (by decide) (by decide)).trans (q2.1 124 (by decide) (by decide) (by decide))
  have f3 : ∀ j, j < N → Id 3 j = kd j := fun j hj => (congrFun (eI 3 (by decide) (by decide) (by decide) (by decide) (by decide) (by decide)) j).trans (b6 j hj).1
  have f10 : ∀ t, t < 2 → Id 10 t = (no : Int) := fun t ht => by
    rcases (show t = 0 ∨ t = 1 by omega) with rfl | rfl
    · exact (q3.2.2.1 0 (by decide)).trans q2.2.1
    · exact q3.2.1
  have hdt : ∀ j, ni ≤ j → j < s → Id 124 j = (((Id 124 j).toNat : Nat) : Int) ∧ (Id 124 j).toNat < N ∧ Id 5 j = (((Id 124 j).toNat : Nat) : Int) := fun j h1 h2 => by
    obtain ⟨d, z1, z2, z3⟩ := q1.2.1 j (by omega) h1 h2
    rw [e124, e5]
    omega
  have hot : ∀ t j, t < 2 → j < no → Id (126 + t) j = (((Id (126 + t) j).toNat : Nat) : Int) ∧ (Id (126 + t) j).toNat < N ∧ Id 9 (t * 4 + j) = (((Id (126 + t) j).toNat : Nat) : Int) := fun t j ht hj => by
    rcases (show t = 0 ∨ t = 1 by omega) with rfl | rfl
    · obtain ⟨d, z1, z2, z3⟩ := q2.2.2.2.1 j hj
      have y1 := congrFun (q3.1 (126 + 0) (by decide) (by decide) (by decide)) j
      have y2 := q3.2.2.2.2 (0 * 4 + j) (by omega)
      omega
    · obtain ⟨d, z1, z2, z3⟩ := q3.2.2.2.1 j hj
      omega
  have nrd : NR Id := NR_o (eI 3 (by decide) (by decide) (by decide) (by decide) (by decide) (by decide)) (eI 4 (by decide) (by decide) (by decide) (by decide) (by decide) (by decide)) b3
  have h59 : ∀ j, -2147483648 ≤ Id 5 j ∧ Id 5 j < 2147483648 := fun j => by
    by_cases e : j < N ∧ ni ≤ j ∧ j < s
    · have := hdt j e.2.1 e.2.2
      omega
    · rw [e5, q1.2.2 j e]
      exact b5 j
  have hO : ∀ j, 0 ≤ Id 10 j ∧ Id 10 j ≤ 4 := fun j => by
    by_cases e : j < 2
    · rw [f10 j e]; omega
    · rw [q3.2.2.1 j (by omega), q2.2.2.1 j (by omega), z10b]
      show (0 : Int) ≤ 0 ∧ (0 : Int) ≤ 4
      decide
  have e1 := eI 1 (by decide) (by decide) (by decide) (by decide) (by decide) (by decide)
  have e11 := eI 11 (by decide) (by decide) (by decide) (by decide) (by decide) (by decide)
  have hsc : Id 1 12 + Id 11 0 + Id 11 1 = (s : Int) := by
    rw [e1, e11, b22, b23, b24]
    omega
  have hclose := m_close (I := Id) (J := J) (n := N) (s := s) (ni := ni) (no := no) (w := w) (pa := r2) (pb := pbF kd r2 r3) (fi := r2) (dt := fun j => (Id 124 j).toNat) (ot := fun t j => (Id (126 + t) j).toNat) hx hN hM hfree nrd h59 hO ((congrFun e1 11).trans b21) (by omega) ((congrFun e1 12).trans b22) hsc ⟨hnis, hsN, hs7⟩ hsw (fun k hk => (f3 k (by omega)).trans (ki k hk).1)
    (fun k h1 h2 => ⟨(f3 k (by omega)).trans (kc9 k h1 h2).1, (hdt k h1 h2).2.2, (hdt k h1 h2).2.1, (congrFun (eI 7 (by decide) (by decide) (by decide) (by decide) (by decide) (by decide)) k).trans (b7 k (by omega) h1 h2).2.1, (kc9 k h1 h2).2.2.1⟩)
    (fun k h1 h2 => by
      obtain ⟨g1, g2, g3, g4, -⟩ := kg k h1 h2
      refine ⟨by rw [f3 k h2]; exact g1, ?_, (congrFun (eI 6 (by decide) (by decide) (by decide) (by decide) (by decide) (by decide)) k).trans (b8 k h2 h1).2, g3, pb_lt g3 g4⟩
      rw [e5, q1.2.2 k (by omega)]
      exact (b8 k h2 h1).1)
    f10 ⟨hno.1, by omega⟩ (fun t j ht hj => ⟨(hot t j ht hj).2.2, (hot t j ht hj).2.1⟩)
  refine lf_iload d_W_isBuilt_343 rfl ?_
  refine gi_if_eq d_W_isBuilt_345 (tgt := 379) (by decide) (by omega) (fun hb345 => False.elim (by omega)) (fun hb345 => ?_)
  refine lf_aload_n d_W_isBuilt_348 rfl rfl rfl ?_
  refine gw_callAI s_W_isBuilt_349 (w_close hx hM hclose (fun v s1 I1 J1 w => ⟨_, w.1⟩) (lev := 9) (by decide)) (S := []) rfl (kc := 2) (ks := 12) rfl rfl rfl gcR_1 (by decide) (by decide +kernel) (Nat.le_of_ble_eq_true rfl) (fun sh1 I1 J1 w349 => ?_)
  obtain ⟨hSH, hC, hold, h13, ⟨h159, h1510, h1511, h29, h30⟩, h174, h2412, h2413⟩ := w349
  have hM1 := hSH.1
  have e31 := hC.2.2.2.1
  have hC2 : CLB I1 J1 N s ni no w (I1 3) r2 (pbF kd r2 r3) r2 (fun j => (Id 124 j).toNat) (fun t j => (Id (126 + t) j).toNat) := by
    rw [e31]
    exact hC
  refine lf_iload d_W_isBuilt_352 rfl ?_
  refine gi_icmp_ne d_W_isBuilt_354 (tgt := 379) (by decide) (by omega) (fun hb354 => False.elim (by omega)) (fun hb354 => ?_)
  refine lf_aload_n d_W_isBuilt_357 rfl rfl rfl ?_
  refine gw_callX s_W_isBuilt_358 (w_close_2 hx hM1 (EVt_x (m_close_t hx hM1)) (lev := 9) (by decide)) (S := []) rfl rfl gcR_1 (by decide) (by decide +kernel) (Nat.le_of_ble_eq_true rfl) (fun I2 J2 w358 => ?_)
  obtain ⟨hi9, hj9⟩ := w358
  rw [hi9, hj9]
  clear hi9 hj9
  refine gi_pushi s_W_isBuilt_361 ?_
  refine gi_icmp_ne d_W_isBuilt_363 (tgt := 379) (by decide) (by omega) (fun hb363 => False.elim (by omega)) (fun hb363 => ?_)
  refine lf_aload_n d_W_isBuilt_366 rfl rfl rfl ?_
  refine gw_callX s_W_isBuilt_367 (w_input_2 hx hM1 (EVt_x (m_input_t hx hM1)) (lev := 9) (by decide)) (S := []) rfl rfl gcR_1 (by decide) (by decide +kernel) (Nat.le_of_ble_eq_true rfl) (fun I2 J2 w367 => ?_)
  obtain ⟨hi9, hj9⟩ := w367
  rw [hi9, hj9]
  clear hi9 hj9
  refine gi_pushi s_W_isBuilt_370 ?_
  refine gi_icmp_ne d_W_isBuilt_372 (tgt := 379) (by decide) (by omega) (fun hb372 => False.elim (by omega)) (fun hb372 => ?_)
  refine lf_iconst d_W_isBuilt_375 (v := Int32.ofInt ((1 : Nat) : Int)) rfl ?_
  refine lf_goto d_W_isBuilt_376 (tgt := 380) (by decide) ?_
  refine gw_zret d_W_isBuilt_380 rfl (by omega) ?_
  refine ⟨rfl, _, _, hSH, hC2, fun j hj => ?_, fun a ha => ⟨(hold a ha).1, (hold a ha).2.2⟩, fun a h1 h2 h3 h4 => ?_, fun j h1 h2 => ?_, fun t j ht hj => ?_, fun j => ?_, ⟨h159, h1511, h29, h30⟩, h174, h2412, h2413⟩
  · rw [e31]
    exact f3 j hj
  · rw [(hold a h1).2.1, eI a (by omega) (by omega) (by omega) h2 h3 h4]
    exact b1 a (by omega) (by omega) (by omega) (by omega) (by omega) (by omega) (by omega) (by omega)
  · rw [(hold 124 (by decide)).2.1]
    exact ⟨(hdt j h1 h2).1, (hdt j h1 h2).2.1⟩
  · rw [(hold (126 + t) (by omega)).2.1]
    exact ⟨(hot t j ht hj).1, (hot t j ht hj).2.1⟩
  · rw [h13, eI 13 (by decide) (by decide) (by decide) (by decide) (by decide) (by decide), b1 13 (by decide) (by decide) (by decide) (by decide) (by decide) (by decide) (by decide) (by decide), hzr 13 (by decide) (by decide)]
    exact ⟨Int.le_refl 0, by decide⟩
end LW6
