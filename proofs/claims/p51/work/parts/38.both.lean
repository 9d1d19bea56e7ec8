section AT2
variable {X : XT} {L9 : Nat} {xs : Nat → Int32} {sh : sM} {I : mI} {J : mJ}

variable {D : mF} {P : Option Value → mF → Prop} {PX : String → mF → Prop} {kc ks : Nat}

def ABq (I : mI) (J : mJ) (s m : Nat) (lo hi : Nat → Nat) (T : (Nat → Bool) → Bool) (r : Int) (I1 : mI) (J1 : mJ) : Prop :=
  ∃ (m1 r1 : Nat) (lo1 hi1 : Nat → Nat), r = (r1 : Int) ∧ (m1 = m ∨ m1 = m + 1) ∧ r1 < 2 * m1 ∧ AI I1 s m1 lo1 hi1 ∧ (∀ j, j < m → lo1 j = lo j ∧ hi1 j = hi j) ∧ (∀ a q, ¬ a = 31 → ¬ a = 32 → ¬ (a = 16 ∧ q = 5) → I1 a q = I a q) ∧ J1 = J ∧ ∀ src, lit (ndv s lo1 hi1 src m1) r1 = T src
theorem ABq_old {s m x : Nat} {lo hi : Nat → Nat} {T : (Nat → Bool) → Bool} (hI : AI I s m lo hi) (hx : x < 2 * m) (h : ∀ src, lit (ndv s lo hi src m) x = T src) : ABq I J s m lo hi T (x : Int) I J :=
  ⟨m, x, lo, hi, rfl, Or.inl rfl, hx, hI, fun _ _ => ⟨rfl, rfl⟩, fun _ _ _ _ _ => rfl, rfl, h⟩
theorem lit_0 {v : Nat → Bool} (h : v 0 = false) : lit v 0 = false := by unfold lit; rw [show 0 / 2 = 0 from rfl, h]; rfl
theorem lit_1 {v : Nat → Bool} (h : v 0 = false) : lit v 1 = true := by unfold lit; rw [show 1 / 2 = 0 from rfl, h]; rfl
/-- a literal that is an and, or one turned -/
theorem lit_and {s m q : Nat} {lo hi : Nat → Nat} {src : Nat → Bool} (h : s < q / 2) (hq : q / 2 < m) (h7 : lo (q / 2) < 2 * (q / 2) ∧ hi (q / 2) < 2 * (q / 2)) : lit (ndv s lo hi src m) q = ((lit (ndv s lo hi src m) (lo (q / 2)) && lit (ndv s lo hi src m) (hi (q / 2))) ^^ decide (q % 2 = 1)) := by
  rw [← ndv_and h hq h7.1 h7.2]
  rfl
theorem a_both_k (hx : HX X L9 xs) (hA : clA sh) {s m : Nat} {lo hi : Nat → Nat} (hI : AI I s m lo hi) {T : (Nat → Bool) → Bool} (hret : ∀ r I1 J1, ABq I J s m lo hi T r I1 J1 → P (some (.int (Int32.ofInt r))) (hp sh I1 J1)) (hm9 : m < 250) {r : Nat} {p q : Nat} (hpq : p ≤ q) (hq : q < 2 * m) (hpT : ∀ src, (lit (ndv s lo hi src m) p && lit (ndv s lo hi src m) q) = T src) {c d : Nat} {v1 v2 : Int32} (hc : lo (q / 2) = c) (hd : hi (q / 2) = d) (hin : s < q / 2 ∧ q / 2 < m) (hor : (p = c ∨ p = d) ∨ (p = c ^^^ 1 ∨ p = d ^^^ 1)) (ih : ∀ p q : Nat, p ≤ q → q < 2 * m → (∀ src, (lit (ndv s lo hi src m) p && lit (ndv s lo hi src m) q) = T src) → LXf TT cl6 X mi_A_both (40 + 3) (1000 + 200 * 3) D P PX kc ks 16 [(5, .int (Int32.ofInt ((r + 1 : Nat) : Int))), (4, .int (Int32.ofInt ((q : Nat) : Int))), (3, .int (Int32.ofInt ((p : Nat) : Int))), (0, .ref 16), (1, .int v1), (2, .int v2)] [] (hp sh I J)) : LXf TT cl6 X mi_A_both (40 + 3) (1000 + 200 * 3) D P PX kc ks 162 [(11, .int (Int32.ofInt (if q % 2 = 1 then 1 else 0))), (10, .int (Int32.ofInt (if p = c ^^^ 1 ∨ p = d ^^^ 1 then 1 else 0))), (9, .int (Int32.ofInt (if p = c ∨ p = d then 1 else 0))), (8, .int (Int32.ofInt (if s < q / 2 ∧ q / 2 < m then 1 else 0))), (7, .int (Int32.ofInt ((d : Nat) : Int))), (6, .int (Int32.ofInt ((c : Nat) : Int))), (5, .int (Int32.ofInt ((r : Nat) : Int))), (4, .int (Int32.ofInt ((q : Nat) : Int))), (3, .int (Int32.ofInt ((p : Nat) : Int))), (0, .ref 16), (1, .int v1), (2, .int v2)] [] (hp sh I J) := by
  have hI0 := hI
  obtain ⟨hI1, hI2, hI3, hI4, hI5, hI6, hI7⟩ := hI
  have hI := hI0
  have h7 := hI7 (q / 2) hin.1 hin.2
  rw [hc, hd] at h7
  have hqv : ∀ src, lit (ndv s lo hi src m) q = ((lit (ndv s lo hi src m) c && lit (ndv s lo hi src m) d) ^^ decide (q % 2 = 1)) := fun src => by
    rw [← hc, ← hd]; exact lit_and hin.1 hin.2 (by rw [hc, hd]; exact h7)
  have hcx := x1_lt (x := c) (m := m) (by omega)
  have hdx := x1_lt (x := d) (m := m) (by omega)
  rcases Decidable.em (q % 2 = 1) with hod | hod
  · rcases Decidable.em (p = c ^^^ 1 ∨ p = d ^^^ 1) with htu | htu
    · skip
      refine lf_iload d_A_both_162 rfl ?_
      refine gb_if_ne d_A_both_164 (tgt := 179) (by decide) (fun hb164 => ?_) (fun hb164 => False.elim (by exact hb164 hod))
      refine lf_iload d_A_both_179 rfl ?_
      refine gb_if_eq d_A_both_181 (tgt := 186) (by decide) (fun hb181 => False.elim (by exact hb181 htu)) (fun hb181 => ?_)
      refine lf_iload_n d_A_both_184 rfl rfl ?_
      refine lf_ireturn d_A_both_185 rfl rfl (hret _ _ _ (ABq_old hI0 (by omega) (fun src => ?_)))
      rw [← hpT src, hqv src, decide_eq_true hod]
      have k : lit (ndv s lo hi src m) p = true → (lit (ndv s lo hi src m) c && lit (ndv s lo hi src m) d) = false := fun z => by
        rcases htu with e | e
        · rw [e, lit_x] at z
          rw [Bool.not_eq_true'] at z
          rw [z]; rfl
        · rw [e, lit_x] at z
          rw [Bool.not_eq_true'] at z
          rw [z, Bool.and_false]
      cases hz : lit (ndv s lo hi src m) p with
      | false => rfl
      | true => rw [k hz]; rfl
    · have hpin : p = c ∨ p = d := hor.resolve_right htu
      rcases Decidable.em (p = c) with hpc | hpc
      · skip
        refine lf_iload d_A_both_162 rfl ?_
        refine gb_if_ne d_A_both_164 (tgt := 179) (by decide) (fun hb164 => ?_) (fun hb164 => False.elim (by exact hb164 hod))
        refine lf_iload d_A_both_179 rfl ?_
        refine gb_if_eq d_A_both_181 (tgt := 186) (by decide) (fun hb181 => ?_) (fun hb181 => False.elim (by exact htu hb181))
        refine lf_iload_n d_A_both_186 rfl rfl ?_
        refine lf_iload d_A_both_187 rfl ?_
        refine gi_icmp_ne d_A_both_189 (tgt := 197) (by decide) (by omega) (fun hb189 => False.elim (by omega)) (fun hb189 => ?_)
        refine lf_iload d_A_both_192 rfl ?_
        refine lf_goto d_A_both_194 (tgt := 199) (by decide) ?_
        refine lf_iconst d_A_both_199 (v := Int32.ofInt ((1 : Nat) : Int)) rfl ?_
        refine gi_ixorN (a := d) (b := 1) d_A_both_200 ?_
        refine lf_istore d_A_both_201 (by decide +kernel) (L2 := [(12, _), (11, _), (10, _), (9, _), (8, _), (7, _), (6, _), (5, _), (4, _), (3, _), (0, _), (1, _), (2, _)]) rfl ?_
        refine lf_iload_n d_A_both_203 rfl rfl ?_
        refine lf_iload d_A_both_204 rfl ?_
        refine gi_max d_A_both_206 tmaxL_A_78 tmaxS tMI tmaxC (Nat.le_of_ble_eq_true rfl) (by omega) ?_
        refine gi_top (show max ((p : Nat) : Int) ((d ^^^ 1 : Nat) : Int) = ((max p (d ^^^ 1) : Nat) : Int) from by omega) ?_
        refine lf_istore d_A_both_209 (by decide +kernel) (L2 := [(4, _), (12, _), (11, _), (10, _), (9, _), (8, _), (7, _), (6, _), (5, _), (3, _), (0, _), (1, _), (2, _)]) rfl ?_
        refine lf_iload_n d_A_both_211 rfl rfl ?_
        refine lf_iload d_A_both_212 rfl ?_
        refine gi_min d_A_both_214 tminL_A_73 tminS tMI tminC (Nat.le_of_ble_eq_true rfl) (by omega) ?_
        refine gi_top (show min ((p : Nat) : Int) ((d ^^^ 1 : Nat) : Int) = ((min p (d ^^^ 1) : Nat) : Int) from by omega) ?_
        refine lf_istore_n d_A_both_217 rfl (by decide +kernel) (L2 := [(3, _), (4, _), (12, _), (11, _), (10, _), (9, _), (8, _), (7, _), (6, _), (5, _), (0, _), (1, _), (2, _)]) rfl ?_
        refine gi_iincN d_A_both_218 rfl (by decide +kernel) (L2 := [(5, _), (3, _), (4, _), (12, _), (11, _), (10, _), (9, _), (8, _), (7, _), (6, _), (0, _), (1, _), (2, _)]) rfl ?_
        refine lf_goto d_A_both_221 (tgt := 16) (by decide) ?_
        refine lf_sub [0, 2, 1, 10, 11, 12] rfl ?_
        refine ih _ _ (by omega) (by omega) (fun src => ?_)
        rw [← hpT src, hqv src, decide_eq_true hod]
        have e1 : ∀ a b : Bool, (a && (a && b ^^ true)) = (a && !b) := by decide
        have e2 : ∀ a b : Bool, (a && (b && a ^^ true)) = (a && !b) := by decide
        rcases Nat.le_total p (d ^^^ 1) with z | z
        · rw [show min p (d ^^^ 1) = p by omega, show max p (d ^^^ 1) = d ^^^ 1 by omega, lit_x, ← hpc, e1]
        · rw [show min p (d ^^^ 1) = d ^^^ 1 by omega, show max p (d ^^^ 1) = p by omega, lit_x, Bool.and_comm, ← hpc, e1]
      · have hpd : p = d := hpin.resolve_left hpc
        refine lf_iload d_A_both_162 rfl ?_
        refine gb_if_ne d_A_both_164 (tgt := 179) (by decide) (fun hb164 => ?_) (fun hb164 => False.elim (by exact hb164 hod))
        refine lf_iload d_A_both_179 rfl ?_
        refine gb_if_eq d_A_both_181 (tgt := 186) (by decide) (fun hb181 => ?_) (fun hb181 => False.elim (by exact htu hb181))
        refine lf_iload_n d_A_both_186 rfl rfl ?_
        refine lf_iload d_A_both_187 rfl ?_
        refine gi_icmp_ne d_A_both_189 (tgt := 197) (by decide) (by omega) (fun hb189 => ?_) (fun hb189 => False.elim (by omega))
        refine lf_iload d_A_both_197 rfl ?_
        refine lf_iconst d_A_both_199 (v := Int32.ofInt ((1 : Nat) : Int)) rfl ?_
        refine gi_ixorN (a := c) (b := 1) d_A_both_200 ?_
        refine lf_istore d_A_both_201 (by decide +kernel) (L2 := [(12, _), (11, _), (10, _), (9, _), (8, _), (7, _), (6, _), (5, _), (4, _), (3, _), (0, _), (1, _), (2, _)]) rfl ?_
        refine lf_iload_n d_A_both_203 rfl rfl ?_
        refine lf_iload d_A_both_204 rfl ?_
        refine gi_max d_A_both_206 tmaxL_A_78 tmaxS tMI tmaxC (Nat.le_of_ble_eq_true rfl) (by omega) ?_
        refine gi_top (show max ((p : Nat) : Int) ((c ^^^ 1 : Nat) : Int) = ((max p (c ^^^ 1) : Nat) : Int) from by omega) ?_
        refine lf_istore d_A_both_209 (by decide +kernel) (L2 := [(4, _), (12, _), (11, _), (10, _), (9, _), (8, _), (7, _), (6, _), (5, _), (3, _), (0, _), (1, _), (2, _)]) rfl ?_
        refine lf_iload_n d_A_both_211 rfl rfl ?_
        refine lf_iload d_A_both_212 rfl ?_
        refine gi_min d_A_both_214 tminL_A_73 tminS tMI tminC (Nat.le_of_ble_eq_true rfl) (by omega) ?_
        refine gi_top (show min ((p : Nat) : Int) ((c ^^^ 1 : Nat) : Int) = ((min p (c ^^^ 1) : Nat) : Int) from by omega) ?_
        refine lf_istore_n d_A_both_217 rfl (by decide +kernel) (L2 := [(3, _), (4, _), (12, _), (11, _), (10, _), (9, _), (8, _), (7, _), (6, _), (5, _), (0, _), (1, _), (2, _)]) rfl ?_
        refine gi_iincN d_A_both_218 rfl (by decide +kernel) (L2 := [(5, _), (3, _), (4, _), (12, _), (11, _), (10, _), (9, _), (8, _), (7, _), (6, _), (0, _), (1, _), (2, _)]) rfl ?_
        refine lf_goto d_A_both_221 (tgt := 16) (by decide) ?_
        refine lf_sub [0, 2, 1, 10, 11, 12] rfl ?_
        refine ih _ _ (by omega) (by omega) (fun src => ?_)
        rw [← hpT src, hqv src, decide_eq_true hod]
        have e1 : ∀ a b : Bool, (a && (a && b ^^ true)) = (a && !b) := by decide
        have e2 : ∀ a b : Bool, (a && (b && a ^^ true)) = (a && !b) := by decide
        rcases Nat.le_total p (c ^^^ 1) with z | z
        · rw [show min p (c ^^^ 1) = p by omega, show max p (c ^^^ 1) = c ^^^ 1 by omega, lit_x, ← hpd, e2]
        · rw [show min p (c ^^^ 1) = c ^^^ 1 by omega, show max p (c ^^^ 1) = p by omega, lit_x, Bool.and_comm, ← hpd, e2]
  · rcases Decidable.em (p = c ^^^ 1 ∨ p = d ^^^ 1) with htu | htu
    · skip
      refine lf_iload d_A_both_162 rfl ?_
      refine gb_if_ne d_A_both_164 (tgt := 179) (by decide) (fun hb164 => False.elim (by exact hod hb164)) (fun hb164 => ?_)
      refine lf_iload d_A_both_167 rfl ?_
      refine gb_if_eq d_A_both_169 (tgt := 176) (by decide) (fun hb169 => False.elim (by exact hb169 htu)) (fun hb169 => ?_)
      refine lf_iconst d_A_both_172 (v := Int32.ofInt ((0 : Nat) : Int)) rfl ?_
      refine lf_goto d_A_both_173 (tgt := 178) (by decide) ?_
      refine lf_ireturn d_A_both_178 rfl rfl (hret _ _ _ (ABq_old hI0 (x := 0) (by omega) (fun src => ?_)))
      rw [← hpT src, hqv src, decide_eq_false hod, lit_0 ndv_0]
      have k : lit (ndv s lo hi src m) p = true → (lit (ndv s lo hi src m) c && lit (ndv s lo hi src m) d) = false := fun z => by
        rcases htu with e | e
        · rw [e, lit_x] at z
          rw [Bool.not_eq_true'] at z
          rw [z]; rfl
        · rw [e, lit_x] at z
          rw [Bool.not_eq_true'] at z
          rw [z, Bool.and_false]
      cases hz : lit (ndv s lo hi src m) p with
      | false => rfl
      | true => rw [k hz]; rfl
    · have hpin : p = c ∨ p = d := hor.resolve_right htu
      refine lf_iload d_A_both_162 rfl ?_
      refine gb_if_ne d_A_both_164 (tgt := 179) (by decide) (fun hb164 => False.elim (by exact hod hb164)) (fun hb164 => ?_)
      refine lf_iload d_A_both_167 rfl ?_
      refine gb_if_eq d_A_both_169 (tgt := 176) (by decide) (fun hb169 => ?_) (fun hb169 => False.elim (by exact htu hb169))
      refine lf_iload d_A_both_176 rfl ?_
      refine lf_ireturn d_A_both_178 rfl rfl (hret _ _ _ (ABq_old hI0 (by omega) (fun src => ?_)))
      rw [← hpT src, hqv src, decide_eq_false hod]
      rcases hpin with e | e
      · rw [← e]; cases lit (ndv s lo hi src m) p <;> simp
      · rw [← e]; cases lit (ndv s lo hi src m) p <;> simp
theorem a_both_j (hx : HX X L9 xs) (hA : clA sh) {s m : Nat} {lo hi : Nat → Nat} (hI : AI I s m lo hi) {T : (Nat → Bool) → Bool} (hret : ∀ r I1 J1, ABq I J s m lo hi T r I1 J1 → P (some (.int (Int32.ofInt r))) (hp sh I1 J1)) (hm9 : m < 250) {r : Nat} {p q : Nat} (hpq : p ≤ q) (hq : q < 2 * m) (hpT : ∀ src, (lit (ndv s lo hi src m) p && lit (ndv s lo hi src m) q) = T src) {c d : Nat} {v1 v2 : Int32} (hc : lo (q / 2) = c) (hd : hi (q / 2) = d) (ih : ∀ p q : Nat, p ≤ q → q < 2 * m → (∀ src, (lit (ndv s lo hi src m) p && lit (ndv s lo hi src m) q) = T src) → LXf TT cl6 X mi_A_both (40 + 3) (1000 + 200 * 3) D P PX kc ks 16 [(5, .int (Int32.ofInt ((r + 1 : Nat) : Int))), (4, .int (Int32.ofInt ((q : Nat) : Int))), (3, .int (Int32.ofInt ((p : Nat) : Int))), (0, .ref 16), (1, .int v1), (2, .int v2)] [] (hp sh I J)) : LXf TT cl6 X mi_A_both (40 + 3) (1000 + 200 * 3) D P PX kc ks 139 [(11, .int (Int32.ofInt (if q % 2 = 1 then 1 else 0))), (10, .int (Int32.ofInt (if p = c ^^^ 1 ∨ p = d ^^^ 1 then 1 else 0))), (9, .int (Int32.ofInt (if p = c ∨ p = d then 1 else 0))), (8, .int (Int32.ofInt (if s < q / 2 ∧ q / 2 < m then 1 else 0))), (7, .int (Int32.ofInt ((d : Nat) : Int))), (6, .int (Int32.ofInt ((c : Nat) : Int))), (5, .int (Int32.ofInt ((r : Nat) : Int))), (4, .int (Int32.ofInt ((q : Nat) : Int))), (3, .int (Int32.ofInt ((p : Nat) : Int))), (0, .ref 16), (1, .int v1), (2, .int v2)] [] (hp sh I J) := by
  have hI0 := hI
  obtain ⟨hI1, hI2, hI3, hI4, hI5, hI6, hI7⟩ := hI
  have hI := hI0
  by_cases hin : s < q / 2 ∧ q / 2 < m
  · by_cases hpin : p = c ∨ p = d
    · skip
      refine lf_iload d_A_both_139 rfl ?_
      refine gb_if_eq d_A_both_141 (tgt := 154) (by decide) (fun hb141 => False.elim (by exact hb141 hin)) (fun hb141 => ?_)
      refine lf_iload d_A_both_144 rfl ?_
      refine gb_if_ne d_A_both_146 (tgt := 162) (by decide) (fun hb146 => ?_) (fun hb146 => False.elim (by exact hb146 hpin))
      exact a_both_k hx hA hI0 hret hm9 hpq hq hpT hc hd hin (Or.inl hpin) ih
    · by_cases htu : p = c ^^^ 1 ∨ p = d ^^^ 1
      · skip
        refine lf_iload d_A_both_139 rfl ?_
        refine gb_if_eq d_A_both_141 (tgt := 154) (by decide) (fun hb141 => False.elim (by exact hb141 hin)) (fun hb141 => ?_)
        refine lf_iload d_A_both_144 rfl ?_
        refine gb_if_ne d_A_both_146 (tgt := 162) (by decide) (fun hb146 => False.elim (by exact hpin hb146)) (fun hb146 => ?_)
        refine lf_iload d_A_both_149 rfl ?_
        refine gb_if_ne d_A_both_151 (tgt := 162) (by decide) (fun hb151 => ?_) (fun hb151 => False.elim (by exact hb151 htu))
        exact a_both_k hx hA hI0 hret hm9 hpq hq hpT hc hd hin (Or.inr htu) ih
      · skip
        refine lf_iload d_A_both_139 rfl ?_
        refine gb_if_eq d_A_both_141 (tgt := 154) (by decide) (fun hb141 => False.elim (by exact hb141 hin)) (fun hb141 => ?_)
        refine lf_iload d_A_both_144 rfl ?_
        refine gb_if_ne d_A_both_146 (tgt := 162) (by decide) (fun hb146 => False.elim (by exact hpin hb146)) (fun hb146 => ?_)
        refine lf_iload d_A_both_149 rfl ?_
        refine gb_if_ne d_A_both_151 (tgt := 162) (by decide) (fun hb151 => False.elim (by exact htu hb151)) (fun hb151 => ?_)
        refine lf_aload_n d_A_both_154 rfl rfl rfl ?_
        refine lf_iload_n d_A_both_155 rfl rfl ?_
        refine lf_iload d_A_both_156 rfl ?_
        refine gw_callI s_A_both_158 (a_nodeOf hx hA hI0 hm9 (by omega) hq) (S := []) rfl rfl (gcR_2 (c_16 hA)) (by decide) (by decide +kernel) (Nat.le_of_ble_eq_true rfl) (fun r158 I J w158 => ?_)
        refine lf_ireturn d_A_both_161 rfl rfl (hret _ _ _ ?_)
        obtain ⟨m1, r1, lo1, hi1, g1, g2, g3, g4, g5, g6, g7, g8⟩ := w158
        exact ⟨m1, r1, lo1, hi1, g1, g2, g3, g4, g5, g6, g7, fun src => (g8 src).trans (hpT src)⟩
  · skip
    refine lf_iload d_A_both_139 rfl ?_
    refine gb_if_eq d_A_both_141 (tgt := 154) (by decide) (fun hb141 => ?_) (fun hb141 => False.elim (by exact hin hb141))
    refine lf_aload_n d_A_both_154 rfl rfl rfl ?_
    refine lf_iload_n d_A_both_155 rfl rfl ?_
    refine lf_iload d_A_both_156 rfl ?_
    refine gw_callI s_A_both_158 (a_nodeOf hx hA hI0 hm9 (by omega) hq) (S := []) rfl rfl (gcR_2 (c_16 hA)) (by decide) (by decide +kernel) (Nat.le_of_ble_eq_true rfl) (fun r158 I J w158 => ?_)
    refine lf_ireturn d_A_both_161 rfl rfl (hret _ _ _ ?_)
    obtain ⟨m1, r1, lo1, hi1, g1, g2, g3, g4, g5, g6, g7, g8⟩ := w158
    exact ⟨m1, r1, lo1, hi1, g1, g2, g3, g4, g5, g6, g7, fun src => (g8 src).trans (hpT src)⟩
theorem a_both_l (hx : HX X L9 xs) (hA : clA sh) {s m : Nat} {lo hi : Nat → Nat} (hI : AI I s m lo hi) {T : (Nat → Bool) → Bool} (hret : ∀ r I1 J1, ABq I J s m lo hi T r I1 J1 → P (some (.int (Int32.ofInt r))) (hp sh I1 J1)) (hm9 : m < 250) {v1 v2 : Int32} : ∀ (c r p q : Nat), r + c = 256 → p ≤ q → q < 2 * m → (∀ src, (lit (ndv s lo hi src m) p && lit (ndv s lo hi src m) q) = T src) → LXf TT cl6 X mi_A_both (40 + 3) (1000 + 200 * 3) D P PX kc ks 16 [(5, .int (Int32.ofInt ((r : Nat) : Int))), (4, .int (Int32.ofInt ((q : Nat) : Int))), (3, .int (Int32.ofInt ((p : Nat) : Int))), (0, .ref 16), (1, .int v1), (2, .int v2)] [] (hp sh I J) := by
  have hI0 := hI
  obtain ⟨hI1, hI2, hI3, hI4, hI5, hI6, hI7⟩ := hI
  have hI := hI0
  intro c
  induction c with
  | zero =>
    intro r p q hr hpq hq hpT
    obtain rfl : r = 256 := by omega
    refine lf_iload d_A_both_16 rfl ?_
    refine lf_sipush d_A_both_18 (v := Int32.ofInt ((256 : Nat) : Int)) (by decide +kernel) ?_
    refine gi_icmp_ge d_A_both_21 (tgt := 224) (by decide) (by omega) (fun hb21 => ?_) (fun hb21 => False.elim (by omega))
    refine lf_aload_n d_A_both_224 rfl rfl rfl ?_
    refine lf_iload_n d_A_both_225 rfl rfl ?_
    refine lf_iload d_A_both_226 rfl ?_
    refine gw_callI s_A_both_228 (a_nodeOf hx hA hI0 hm9 (by omega) hq) (S := []) rfl rfl (gcR_2 (c_16 hA)) (by decide) (by decide +kernel) (Nat.le_of_ble_eq_true rfl) (fun r228 I J w228 => ?_)
    refine lf_ireturn d_A_both_231 rfl rfl (hret _ _ _ ?_)
    obtain ⟨m1, r1, lo1, hi1, g1, g2, g3, g4, g5, g6, g7, g8⟩ := w228
    exact ⟨m1, r1, lo1, hi1, g1, g2, g3, g4, g5, g6, g7, fun src => (g8 src).trans (hpT src)⟩
  | succ c ih =>
    intro r p q hr hpq hq hpT
    have hpx := x1_lt (x := p) (m := m) (by omega)
    have hlx : q / 2 < m := by omega
    have hll : lo (q / 2) < 4294967 ∧ hi (q / 2) < 4294967 := by
      rcases Nat.lt_or_ge s (q / 2) with z | z
      · have := hI7 (q / 2) z hlx; omega
      · have := hI6 (q / 2) z; omega
    have hlo1 := x1_lt (x := lo (q / 2)) (m := 4294967) (by omega)
    have hhi1 := x1_lt (x := hi (q / 2)) (m := 4294967) (by omega)
    refine lf_iload d_A_both_16 rfl ?_
    refine lf_sipush d_A_both_18 (v := Int32.ofInt ((256 : Nat) : Int)) (by decide +kernel) ?_
    refine gi_icmp_ge d_A_both_21 (tgt := 224) (by decide) (by omega) (fun hb21 => False.elim (by omega)) (fun hb21 => ?_)
    refine lf_iload_n d_A_both_24 rfl rfl ?_
    refine gi_if_eq d_A_both_25 (tgt := 36) (by decide) (by omega) (fun hb25 => ?_) (fun hb25 => ?_)
    · refine lf_iconst d_A_both_36 (v := Int32.ofInt ((0 : Nat) : Int)) rfl ?_
      refine lf_ireturn d_A_both_37 rfl rfl (hret _ _ _ (ABq_old hI0 (x := 0) (by omega) (fun src => ?_)))
      rw [← hpT src, lit_0 ndv_0]
      rcases Decidable.em (p = 0) with e | e
      · rw [e, lit_0 ndv_0]; rfl
      · have e : p ^^^ 1 = q := by omega
        rw [← e, lit_x]
        cases lit (ndv s lo hi src m) p <;> rfl
    · refine lf_iload_n d_A_both_28 rfl rfl ?_
      refine lf_iconst d_A_both_29 (v := Int32.ofInt ((1 : Nat) : Int)) rfl ?_
      refine gi_ixorN (a := p) (b := 1) d_A_both_30 ?_
      refine lf_iload d_A_both_31 rfl ?_
      refine gi_icmp_ne d_A_both_33 (tgt := 38) (by decide) (by omega) (fun hb33 => ?_) (fun hb33 => ?_)
      · refine lf_iload_n d_A_both_38 rfl rfl ?_
        refine lf_iconst d_A_both_39 (v := Int32.ofInt ((1 : Nat) : Int)) rfl ?_
        refine gi_icmp_eq d_A_both_40 (tgt := 49) (by decide) (by omega) (fun hb40 => ?_) (fun hb40 => ?_)
        · refine lf_iload d_A_both_49 rfl ?_
          refine lf_ireturn d_A_both_51 rfl rfl (hret _ _ _ (ABq_old hI0 hq (fun src => ?_)))
          rw [← hpT src]
          first
            | (have e : p = 1 := by omega
               rw [e, lit_1 ndv_0]; rfl)
            | (have e : p = q := by omega
               rw [e, Bool.and_self])
        · refine lf_iload_n d_A_both_43 rfl rfl ?_
          refine lf_iload d_A_both_44 rfl ?_
          refine gi_icmp_ne d_A_both_46 (tgt := 52) (by decide) (by omega) (fun hb46 => ?_) (fun hb46 => ?_)
          · refine lf_aload_n d_A_both_52 rfl rfl rfl ?_
            refine lf_iload d_A_both_53 rfl ?_
            refine lf_iconst d_A_both_55 (v := Int32.ofInt ((1 : Nat) : Int)) rfl ?_
            refine gi_ishrN (a := q) (s := 1) d_A_both_56 (by omega) (by omega) ?_
            refine gi_top (show ((q / 2 ^ 1 : Nat) : Int) = ((q / 2 : Nat) : Int) from rfl) ?_
            refine gw_callP s_A_both_57 (a_lesserPin hx hA (by omega) (hI5 (q / 2) (by omega)).1) (S := []) rfl rfl (gcR_2 (c_16 hA)) (by decide) (by decide +kernel) (Nat.le_of_ble_eq_true rfl) ?_
            refine lf_istore d_A_both_60 (by decide +kernel) (L2 := [(6, _), (5, _), (4, _), (3, _), (0, _), (1, _), (2, _)]) rfl ?_
            refine lf_aload_n d_A_both_62 rfl rfl rfl ?_
            refine lf_iload d_A_both_63 rfl ?_
            refine lf_iconst d_A_both_65 (v := Int32.ofInt ((1 : Nat) : Int)) rfl ?_
            refine gi_ishrN (a := q) (s := 1) d_A_both_66 (by omega) (by omega) ?_
            refine gi_top (show ((q / 2 ^ 1 : Nat) : Int) = ((q / 2 : Nat) : Int) from rfl) ?_
            refine gw_callP s_A_both_67 (a_greaterPin hx hA (by omega) (hI5 (q / 2) (by omega)).2) (S := []) rfl rfl (gcR_2 (c_16 hA)) (by decide) (by decide +kernel) (Nat.le_of_ble_eq_true rfl) ?_
            refine lf_istore d_A_both_70 (by decide +kernel) (L2 := [(7, _), (6, _), (5, _), (4, _), (3, _), (0, _), (1, _), (2, _)]) rfl ?_
            refine lf_aload_n d_A_both_72 rfl rfl rfl ?_
            refine lf_iload d_A_both_73 rfl ?_
            refine lf_iconst d_A_both_75 (v := Int32.ofInt ((1 : Nat) : Int)) rfl ?_
            refine gi_ishrN (a := q) (s := 1) d_A_both_76 (by omega) (by omega) ?_
            refine gi_top (show ((q / 2 ^ 1 : Nat) : Int) = ((q / 2 : Nat) : Int) from rfl) ?_
            refine gw_callP s_A_both_77 (a_isAnd hx hA hI0 (by omega)) (S := []) rfl rfl (gcR_2 (c_16 hA)) (by decide) (by decide +kernel) (Nat.le_of_ble_eq_true rfl) ?_
            refine lf_istore d_A_both_80 (by decide +kernel) (L2 := [(8, _), (7, _), (6, _), (5, _), (4, _), (3, _), (0, _), (1, _), (2, _)]) rfl ?_
            refine lf_iload_n d_A_both_82 rfl rfl ?_
            refine lf_iload d_A_both_83 rfl ?_
            refine gi_icmp_eq d_A_both_85 (tgt := 94) (by decide) (by omega) (fun hb85 => ?_) (fun hb85 => ?_)
            · refine lf_iconst d_A_both_94 (v := Int32.ofInt ((1 : Nat) : Int)) rfl ?_
              refine lf_goto d_A_both_95 (tgt := 99) (by decide) ?_
              refine lf_istore d_A_both_99 (by decide +kernel) (L2 := [(9, _), (8, _), (7, _), (6, _), (5, _), (4, _), (3, _), (0, _), (1, _), (2, _)]) rfl ?_
              refine lf_iload_n d_A_both_101 rfl rfl ?_
              refine lf_iload d_A_both_102 rfl ?_
              refine lf_iconst d_A_both_104 (v := Int32.ofInt ((1 : Nat) : Int)) rfl ?_
              refine gi_ixorN (a := (lo (q / 2))) (b := 1) d_A_both_105 ?_
              refine gi_icmp_eq d_A_both_106 (tgt := 117) (by decide) (by omega) (fun hb106 => ?_) (fun hb106 => ?_)
              · refine lf_iconst d_A_both_117 (v := Int32.ofInt ((1 : Nat) : Int)) rfl ?_
                refine lf_goto d_A_both_118 (tgt := 122) (by decide) ?_
                refine lf_istore d_A_both_122 (by decide +kernel) (L2 := [(10, _), (9, _), (8, _), (7, _), (6, _), (5, _), (4, _), (3, _), (0, _), (1, _), (2, _)]) rfl ?_
                refine lf_iload d_A_both_124 rfl ?_
                refine lf_iconst d_A_both_126 (v := Int32.ofInt ((1 : Nat) : Int)) rfl ?_
                refine gi_iandN (a := q) (b := 1) d_A_both_127 ?_
                refine gi_top (show ((q &&& 1 : Nat) : Int) = ((q % 2 : Nat) : Int) from by rw [Nat.and_one_is_mod]) ?_
                refine lf_iconst d_A_both_128 (v := Int32.ofInt ((1 : Nat) : Int)) rfl ?_
                refine gi_icmp_ne d_A_both_129 (tgt := 136) (by decide) (by omega) (fun hb129 => ?_) (fun hb129 => ?_)
                · refine lf_iconst d_A_both_136 (v := Int32.ofInt ((0 : Nat) : Int)) rfl ?_
                  refine lf_istore d_A_both_137 (by decide +kernel) (L2 := [(11, _), (10, _), (9, _), (8, _), (7, _), (6, _), (5, _), (4, _), (3, _), (0, _), (1, _), (2, _)]) rfl ?_
                  refine lf_eqL (L1 := [(11, .int (Int32.ofInt (if q % 2 = 1 then 1 else 0))), (10, .int (Int32.ofInt (if p = lo (q / 2) ^^^ 1 ∨ p = hi (q / 2) ^^^ 1 then 1 else 0))), (9, .int (Int32.ofInt (if p = lo (q / 2) ∨ p = hi (q / 2) then 1 else 0))), (8, .int (Int32.ofInt (if s < q / 2 ∧ q / 2 < m then 1 else 0))), (7, .int (Int32.ofInt ((hi (q / 2) : Nat) : Int))), (6, .int (Int32.ofInt ((lo (q / 2) : Nat) : Int))), (5, .int (Int32.ofInt ((r : Nat) : Int))), (4, .int (Int32.ofInt ((q : Nat) : Int))), (3, .int (Int32.ofInt ((p : Nat) : Int))), (0, .ref 16), (1, .int v1), (2, .int v2)]) (by (first | rw [if_pos (show p = lo (q / 2) ∨ p = hi (q / 2) by omega)] | rw [if_neg (show ¬ (p = lo (q / 2) ∨ p = hi (q / 2)) by omega)]); (first | rw [if_pos (show p = lo (q / 2) ^^^ 1 ∨ p = hi (q / 2) ^^^ 1 by omega)] | rw [if_neg (show ¬ (p = lo (q / 2) ^^^ 1 ∨ p = hi (q / 2) ^^^ 1) by omega)]); (first | rw [if_pos (show q % 2 = 1 by omega)] | rw [if_neg (show ¬ (q % 2 = 1) by omega)]); try rfl) ?_
                  exact a_both_j hx hA hI0 hret hm9 hpq hq hpT rfl rfl (fun p q => ih (r + 1) p q (by omega))
                · refine lf_iconst d_A_both_132 (v := Int32.ofInt ((1 : Nat) : Int)) rfl ?_
                  refine lf_goto d_A_both_133 (tgt := 137) (by decide) ?_
                  refine lf_istore d_A_both_137 (by decide +kernel) (L2 := [(11, _), (10, _), (9, _), (8, _), (7, _), (6, _), (5, _), (4, _), (3, _), (0, _), (1, _), (2, _)]) rfl ?_
                  refine lf_eqL (L1 := [(11, .int (Int32.ofInt (if q % 2 = 1 then 1 else 0))), (10, .int (Int32.ofInt (if p = lo (q / 2) ^^^ 1 ∨ p = hi (q / 2) ^^^ 1 then 1 else 0))), (9, .int (Int32.ofInt (if p = lo (q / 2) ∨ p = hi (q / 2) then 1 else 0))), (8, .int (Int32.ofInt (if s < q / 2 ∧ q / 2 < m then 1 else 0))), (7, .int (Int32.ofInt ((hi (q / 2) : Nat) : Int))), (6, .int (Int32.ofInt ((lo (q / 2) : Nat) : Int))), (5, .int (Int32.ofInt ((r : Nat) : Int))), (4, .int (Int32.ofInt ((q : Nat) : Int))), (3, .int (Int32.ofInt ((p : Nat) : Int))), (0, .ref 16), (1, .int v1), (2, .int v2)]) (by (first | rw [if_pos (show p = lo (q / 2) ∨ p = hi (q / 2) by omega)] | rw [if_neg (show ¬ (p = lo (q / 2) ∨ p = hi (q / 2)) by omega)]); (first | rw [if_pos (show p = lo (q / 2) ^^^ 1 ∨ p = hi (q / 2) ^^^ 1 by omega)] | rw [if_neg (show ¬ (p = lo (q / 2) ^^^ 1 ∨ p = hi (q / 2) ^^^ 1) by omega)]); (first | rw [if_pos (show q % 2 = 1 by omega)] | rw [if_neg (show ¬ (q % 2 = 1) by omega)]); try rfl) ?_
                  exact a_both_j hx hA hI0 hret hm9 hpq hq hpT rfl rfl (fun p q => ih (r + 1) p q (by omega))
              · refine lf_iload_n d_A_both_109 rfl rfl ?_
                refine lf_iload d_A_both_110 rfl ?_
                refine lf_iconst d_A_both_112 (v := Int32.ofInt ((1 : Nat) : Int)) rfl ?_
                refine gi_ixorN (a := (hi (q / 2))) (b := 1) d_A_both_113 ?_
                refine gi_icmp_ne d_A_both_114 (tgt := 121) (by decide) (by omega) (fun hb114 => ?_) (fun hb114 => ?_)
                · refine lf_iconst d_A_both_121 (v := Int32.ofInt ((0 : Nat) : Int)) rfl ?_
                  refine lf_istore d_A_both_122 (by decide +kernel) (L2 := [(10, _), (9, _), (8, _), (7, _), (6, _), (5, _), (4, _), (3, _), (0, _), (1, _), (2, _)]) rfl ?_
                  refine lf_iload d_A_both_124 rfl ?_
                  refine lf_iconst d_A_both_126 (v := Int32.ofInt ((1 : Nat) : Int)) rfl ?_
                  refine gi_iandN (a := q) (b := 1) d_A_both_127 ?_
                  refine gi_top (show ((q &&& 1 : Nat) : Int) = ((q % 2 : Nat) : Int) from by rw [Nat.and_one_is_mod]) ?_
                  refine lf_iconst d_A_both_128 (v := Int32.ofInt ((1 : Nat) : Int)) rfl ?_
                  refine gi_icmp_ne d_A_both_129 (tgt := 136) (by decide) (by omega) (fun hb129 => ?_) (fun hb129 => ?_)
                  · refine lf_iconst d_A_both_136 (v := Int32.ofInt ((0 : Nat) : Int)) rfl ?_
                    refine lf_istore d_A_both_137 (by decide +kernel) (L2 := [(11, _), (10, _), (9, _), (8, _), (7, _), (6, _), (5, _), (4, _), (3, _), (0, _), (1, _), (2, _)]) rfl ?_
                    refine lf_eqL (L1 := [(11, .int (Int32.ofInt (if q % 2 = 1 then 1 else 0))), (10, .int (Int32.ofInt (if p = lo (q / 2) ^^^ 1 ∨ p = hi (q / 2) ^^^ 1 then 1 else 0))), (9, .int (Int32.ofInt (if p = lo (q / 2) ∨ p = hi (q / 2) then 1 else 0))), (8, .int (Int32.ofInt (if s < q / 2 ∧ q / 2 < m then 1 else 0))), (7, .int (Int32.ofInt ((hi (q / 2) : Nat) : Int))), (6, .int (Int32.ofInt ((lo (q / 2) : Nat) : Int))), (5, .int (Int32.ofInt ((r : Nat) : Int))), (4, .int (Int32.ofInt ((q : Nat) : Int))), (3, .int (Int32.ofInt ((p : Nat) : Int))), (0, .ref 16), (1, .int v1), (2, .int v2)]) (by (first | rw [if_pos (show p = lo (q / 2) ∨ p = hi (q / 2) by omega)] | rw [if_neg (show ¬ (p = lo (q / 2) ∨ p = hi (q / 2)) by omega)]); (first | rw [if_pos (show p = lo (q / 2) ^^^ 1 ∨ p = hi (q / 2) ^^^ 1 by omega)] | rw [if_neg (show ¬ (p = lo (q / 2) ^^^ 1 ∨ p = hi (q / 2) ^^^ 1) by omega)]); (first | rw [if_pos (show q % 2 = 1 by omega)] | rw [if_neg (show ¬ (q % 2 = 1) by omega)]); try rfl) ?_
                    exact a_both_j hx hA hI0 hret hm9 hpq hq hpT rfl rfl (fun p q => ih (r + 1) p q (by omega))
                  · refine lf_iconst d_A_both_132 (v := Int32.ofInt ((1 : Nat) : Int)) rfl ?_
                    refine lf_goto d_A_both_133 (tgt := 137) (by decide) ?_
                    refine lf_istore d_A_both_137 (by decide +kernel) (L2 := [(11, _), (10, _), (9, _), (8, _), (7, _), (6, _), (5, _), (4, _), (3, _), (0, _), (1, _), (2, _)]) rfl ?_
                    refine lf_eqL (L1 := [(11, .int (Int32.ofInt (if q % 2 = 1 then 1 else 0))), (10, .int (Int32.ofInt (if p = lo (q / 2) ^^^ 1 ∨ p = hi (q / 2) ^^^ 1 then 1 else 0))), (9, .int (Int32.ofInt (if p = lo (q / 2) ∨ p = hi (q / 2) then 1 else 0))), (8, .int (Int32.ofInt (if s < q / 2 ∧ q / 2 < m then 1 else 0))), (7, .int (Int32.ofInt ((hi (q / 2) : Nat) : Int))), (6, .int (Int32.ofInt ((lo (q / 2) : Nat) : Int))), (5, .int (Int32.ofInt ((r : Nat) : Int))), (4, .int (Int32.ofInt ((q : Nat) : Int))), (3, .int (Int32.ofInt ((p : Nat) : Int))), (0, .ref 16), (1, .int v1), (2, .int v2)]) (by (first | rw [if_pos (show p = lo (q / 2) ∨ p = hi (q / 2) by omega)] | rw [if_neg (show ¬ (p = lo (q / 2) ∨ p = hi (q / 2)) by omega)]); (first | rw [if_pos (show p = lo (q / 2) ^^^ 1 ∨ p = hi (q / 2) ^^^ 1 by omega)] | rw [if_neg (show ¬ (p = lo (q / 2) ^^^ 1 ∨ p = hi (q / 2) ^^^ 1) by omega)]); (first | rw [if_pos (show q % 2 = 1 by omega)] | rw [if_neg (show ¬ (q % 2 = 1) by omega)]); try rfl) ?_
                    exact a_both_j hx hA hI0 hret hm9 hpq hq hpT rfl rfl (fun p q => ih (r + 1) p q (by omega))
                · refine lf_iconst d_A_both_117 (v := Int32.ofInt ((1 : Nat) : Int)) rfl ?_
                  refine lf_goto d_A_both_118 (tgt := 122) (by decide) ?_
                  refine lf_istore d_A_both_122 (by decide +kernel) (L2 := [(10, _), (9, _), (8, _), (7, _), (6, _), (5, _), (4, _), (3, _), (0, _), (1, _), (2, _)]) rfl ?_
                  refine lf_iload d_A_both_124 rfl ?_
                  refine lf_iconst d_A_both_126 (v := Int32.ofInt ((1 : Nat) : Int)) rfl ?_
                  refine gi_iandN (a := q) (b := 1) d_A_both_127 ?_
                  refine gi_top (show ((q &&& 1 : Nat) : Int) = ((q % 2 : Nat) : Int) from by rw [Nat.and_one_is_mod]) ?_
                  refine lf_iconst d_A_both_128 (v := Int32.ofInt ((1 : Nat) : Int)) rfl ?_
                  refine gi_icmp_ne d_A_both_129 (tgt := 136) (by decide) (by omega) (fun hb129 => ?_) (fun hb129 => ?_)
                  · refine lf_iconst d_A_both_136 (v := Int32.ofInt ((0 : Nat) : Int)) rfl ?_
                    refine lf_istore d_A_both_137 (by decide +kernel) (L2 := [(11, _), (10, _), (9, _), (8, _), (7, _), (6, _), (5, _), (4, _), (3, _), (0, _), (1, _), (2, _)]) rfl ?_
                    refine lf_eqL (L1 := [(11, .int (Int32.ofInt (if q % 2 = 1 then 1 else 0))), (10, .int (Int32.ofInt (if p = lo (q / 2) ^^^ 1 ∨ p = hi (q / 2) ^^^ 1 then 1 else 0))), (9, .int (Int32.ofInt (if p = lo (q / 2) ∨ p = hi (q / 2) then 1 else 0))), (8, .int (Int32.ofInt (if s < q / 2 ∧ q / 2 < m then 1 else 0))), (7, .int (Int32.ofInt ((hi (q / 2) : Nat) : Int))), (6, .int (Int32.ofInt ((lo (q / 2) : Nat) : Int))), (5, .int (Int32.ofInt ((r : Nat) : Int))), (4, .int (Int32.ofInt ((q : Nat) : Int))), (3, .int (Int32.ofInt ((p : Nat) : Int))), (0, .ref 16), (1, .int v1), (2, .int v2)]) (by (first | rw [if_pos (show p = lo (q / 2) ∨ p = hi (q / 2) by omega)] | rw [if_neg (show ¬ (p = lo (q / 2) ∨ p = hi (q / 2)) by omega)]); (first | rw [if_pos (show p = lo (q / 2) ^^^ 1 ∨ p = hi (q / 2) ^^^ 1 by omega)] | rw [if_neg (show ¬ (p = lo (q / 2) ^^^ 1 ∨ p = hi (q / 2) ^^^ 1) by omega)]); (first | rw [if_pos (show q % 2 = 1 by omega)] | rw [if_neg (show ¬ (q % 2 = 1) by omega)]); try rfl) ?_
                    exact a_both_j hx hA hI0 hret hm9 hpq hq hpT rfl rfl (fun p q => ih (r + 1) p q (by omega))
                  · refine lf_iconst d_A_both_132 (v := Int32.ofInt ((1 : Nat) : Int)) rfl ?_
                    refine lf_goto d_A_both_133 (tgt := 137) (by decide) ?_
                    refine lf_istore d_A_both_137 (by decide +kernel) (L2 := [(11, _), (10, _), (9, _), (8, _), (7, _), (6, _), (5, _), (4, _), (3, _), (0, _), (1, _), (2, _)]) rfl ?_
                    refine lf_eqL (L1 := [(11, .int (Int32.ofInt (if q % 2 = 1 then 1 else 0))), (10, .int (Int32.ofInt (if p = lo (q / 2) ^^^ 1 ∨ p = hi (q / 2) ^^^ 1 then 1 else 0))), (9, .int (Int32.ofInt (if p = lo (q / 2) ∨ p = hi (q / 2) then 1 else 0))), (8, .int (Int32.ofInt (if s < q / 2 ∧ q / 2 < m then 1 else 0))), (7, .int (Int32.ofInt ((hi (q / 2) : Nat) : Int))), (6, .int (Int32.ofInt ((lo (q / 2) : Nat) : Int))), (5, .int (Int32.ofInt ((r : Nat) : Int))), (4, .int (Int32.ofInt ((q : Nat) : Int))), (3, .int (Int32.ofInt ((p : Nat) : Int))), (0, .ref 16), (1, .int v1), (2, .int v2)]) (by (first | rw [if_pos (show p = lo (q / 2) ∨ p = hi (q / 2) by omega)] | rw [if_neg (show ¬ (p = lo (q / 2) ∨ p = hi (q / 2)) by omega)]); (first | rw [if_pos (show p = lo (q / 2) ^^^ 1 ∨ p = hi (q / 2) ^^^ 1 by omega)] | rw [if_neg (show ¬ (p = lo (q / 2) ^^^ 1 ∨ p = hi (q / 2) ^^^ 1) by omega)]); (first | rw [if_pos (show q % 2 = 1 by omega)] | rw [if_neg (show ¬ (q % 2 = 1) by omega)]); try rfl) ?_
                    exact a_both_j hx hA hI0 hret hm9 hpq hq hpT rfl rfl (fun p q => ih (r + 1) p q (by omega))
            · refine lf_iload_n d_A_both_88 rfl rfl ?_
              refine lf_iload d_A_both_89 rfl ?_
              refine gi_icmp_ne d_A_both_91 (tgt := 98) (by decide) (by omega) (fun hb91 => ?_) (fun hb91 => ?_)
              · refine lf_iconst d_A_both_98 (v := Int32.ofInt ((0 : Nat) : Int)) rfl ?_
                refine lf_istore d_A_both_99 (by decide +kernel) (L2 := [(9, _), (8, _), (7, _), (6, _), (5, _), (4, _), (3, _), (0, _), (1, _), (2, _)]) rfl ?_
                refine lf_iload_n d_A_both_101 rfl rfl ?_
                refine lf_iload d_A_both_102 rfl ?_
                refine lf_iconst d_A_both_104 (v := Int32.ofInt ((1 : Nat) : Int)) rfl ?_
                refine gi_ixorN (a := (lo (q / 2))) (b := 1) d_A_both_105 ?_
                refine gi_icmp_eq d_A_both_106 (tgt := 117) (by decide) (by omega) (fun hb106 => ?_) (fun hb106 => ?_)
                · refine lf_iconst d_A_both_117 (v := Int32.ofInt ((1 : Nat) : Int)) rfl ?_
                  refine lf_goto d_A_both_118 (tgt := 122) (by decide) ?_
                  refine lf_istore d_A_both_122 (by decide +kernel) (L2 := [(10, _), (9, _), (8, _), (7, _), (6, _), (5, _), (4, _), (3, _), (0, _), (1, _), (2, _)]) rfl ?_
                  refine lf_iload d_A_both_124 rfl ?_
                  refine lf_iconst d_A_both_126 (v := Int32.ofInt ((1 : Nat) : Int)) rfl ?_
                  refine gi_iandN (a := q) (b := 1) d_A_both_127 ?_
                  refine gi_top (show ((q &&& 1 : Nat) : Int) = ((q % 2 : Nat) : Int) from by rw [Nat.and_one_is_mod]) ?_
                  refine lf_iconst d_A_both_128 (v := Int32.ofInt ((1 : Nat) : Int)) rfl ?_
                  refine gi_icmp_ne d_A_both_129 (tgt := 136) (by decide) (by omega) (fun hb129 => ?_) (fun hb129 => ?_)
                  · refine lf_iconst d_A_both_136 (v := Int32.ofInt ((0 : Nat) : Int)) rfl ?_
                    refine lf_istore d_A_both_137 (by decide +kernel) (L2 := [(11, _), (10, _), (9, _), (8, _), (7, _), (6, _), (5, _), (4, _), (3, _), (0, _), (1, _), (2, _)]) rfl ?_
                    refine lf_eqL (L1 := [(11, .int (Int32.ofInt (if q % 2 = 1 then 1 else 0))), (10, .int (Int32.ofInt (if p = lo (q / 2) ^^^ 1 ∨ p = hi (q / 2) ^^^ 1 then 1 else 0))), (9, .int (Int32.ofInt (if p = lo (q / 2) ∨ p = hi (q / 2) then 1 else 0))), (8, .int (Int32.ofInt (if s < q / 2 ∧ q / 2 < m then 1 else 0))), (7, .int (Int32.ofInt ((hi (q / 2) : Nat) : Int))), (6, .int (Int32.ofInt ((lo (q / 2) : Nat) : Int))), (5, .int (Int32.ofInt ((r : Nat) : Int))), (4, .int (Int32.ofInt ((q : Nat) : Int))), (3, .int (Int32.ofInt ((p : Nat) : Int))), (0, .ref 16), (1, .int v1), (2, .int v2)]) (by (first | rw [if_pos (show p = lo (q / 2) ∨ p = hi (q / 2) by omega)] | rw [if_neg (show ¬ (p = lo (q / 2) ∨ p = hi (q / 2)) by omega)]); (first | rw [if_pos (show p = lo (q / 2) ^^^ 1 ∨ p = hi (q / 2) ^^^ 1 by omega)] | rw [if_neg (show ¬ (p = lo (q / 2) ^^^ 1 ∨ p = hi (q / 2) ^^^ 1) by omega)]); (first | rw [if_pos (show q % 2 = 1 by omega)] | rw [if_neg (show ¬ (q % 2 = 1) by omega)]); try rfl) ?_
                    exact a_both_j hx hA hI0 hret hm9 hpq hq hpT rfl rfl (fun p q => ih (r + 1) p q (by omega))
                  · refine lf_iconst d_A_both_132 (v := Int32.ofInt ((1 : Nat) : Int)) rfl ?_
                    refine lf_goto d_A_both_133 (tgt := 137) (by decide) ?_
                    refine lf_istore d_A_both_137 (by decide +kernel) (L2 := [(11, _), (10, _), (9, _), (8, _), (7, _), (6, _), (5, _), (4, _), (3, _), (0, _), (1, _), (2, _)]) rfl ?_
                    refine lf_eqL (L1 := [(11, .int (Int32.ofInt (if q % 2 = 1 then 1 else 0))), (10, .int (Int32.ofInt (if p = lo (q / 2) ^^^ 1 ∨ p = hi (q / 2) ^^^ 1 then 1 else 0))), (9, .int (Int32.ofInt (if p = lo (q / 2) ∨ p = hi (q / 2) then 1 else 0))), (8, .int (Int32.ofInt (if s < q / 2 ∧ q / 2 < m then 1 else 0))), (7, .int (Int32.ofInt ((hi (q / 2) : Nat) : Int))), (6, .int (Int32.ofInt ((lo (q / 2) : Nat) : Int))), (5, .int (Int32.ofInt ((r : Nat) : Int))), (4, .int (Int32.ofInt ((q : Nat) : Int))), (3, .int (Int32.ofInt ((p : Nat) : Int))), (0, .ref 16), (1, .int v1), (2, .int v2)]) (by (first | rw [if_pos (show p = lo (q / 2) ∨ p = hi (q / 2) by omega)] | rw [if_neg (show ¬ (p = lo (q / 2) ∨ p = hi (q / 2)) by omega)]); (first | rw [if_pos (show p = lo (q / 2) ^^^ 1 ∨ p = hi (q / 2) ^^^ 1 by omega)] | rw [if_neg (show ¬ (p = lo (q / 2) ^^^ 1 ∨ p = hi (q / 2) ^^^ 1) by omega)]); (first | rw [if_pos (show q % 2 = 1 by omega)] | rw [if_neg (show ¬ (q % 2 = 1) by omega)]); try rfl) ?_
                    exact a_both_j hx hA hI0 hret hm9 hpq hq hpT rfl rfl (fun p q => ih (r + 1) p q (by omega))
                · refine lf_iload_n d_A_both_109 rfl rfl ?_
                  refine lf_iload d_A_both_110 rfl ?_
                  refine lf_iconst d_A_both_112 (v := Int32.ofInt ((1 : Nat) : Int)) rfl ?_
                  refine gi_ixorN (a := (hi (q / 2))) (b := 1) d_A_both_113 ?_
                  refine gi_icmp_ne d_A_both_114 (tgt := 121) (by decide) (by omega) (fun hb114 => ?_) (fun hb114 => ?_)
                  · refine lf_iconst d_A_both_121 (v := Int32.ofInt ((0 : Nat) : Int)) rfl ?_
                    refine lf_istore d_A_both_122 (by decide +kernel) (L2 := [(10, _), (9, _), (8, _), (7, _), (6, _), (5, _), (4, _), (3, _), (0, _), (1, _), (2, _)]) rfl ?_
                    refine lf_iload d_A_both_124 rfl ?_
                    refine lf_iconst d_A_both_126 (v := Int32.ofInt ((1 : Nat) : Int)) rfl ?_
                    refine gi_iandN (a := q) (b := 1) d_A_both_127 ?_
                    refine gi_top (show ((q &&& 1 : Nat) : Int) = ((q % 2 : Nat) : Int) from by rw [Nat.and_one_is_mod]) ?_
                    refine lf_iconst d_A_both_128 (v := Int32.ofInt ((1 : Nat) : Int)) rfl ?_
                    refine gi_icmp_ne d_A_both_129 (tgt := 136) (by decide) (by omega) (fun hb129 => ?_) (fun hb129 => ?_)
                    · refine lf_iconst d_A_both_136 (v := Int32.ofInt ((0 : Nat) : Int)) rfl ?_
                      refine lf_istore d_A_both_137 (by decide +kernel) (L2 := [(11, _), (10, _), (9, _), (8, _), (7, _), (6, _), (5, _), (4, _), (3, _), (0, _), (1, _), (2, _)]) rfl ?_
                      refine lf_eqL (L1 := [(11, .int (Int32.ofInt (if q % 2 = 1 then 1 else 0))), (10, .int (Int32.ofInt (if p = lo (q / 2) ^^^ 1 ∨ p = hi (q / 2) ^^^ 1 then 1 else 0))), (9, .int (Int32.ofInt (if p = lo (q / 2) ∨ p = hi (q / 2) then 1 else 0))), (8, .int (Int32.ofInt (if s < q / 2 ∧ q / 2 < m then 1 else 0))), (7, .int (Int32.ofInt ((hi (q / 2) : Nat) : Int))), (6, .int (Int32.ofInt ((lo (q / 2) : Nat) : Int))), (5, .int (Int32.ofInt ((r : Nat) : Int))), (4, .int (Int32.ofInt ((q : Nat) : Int))), (3, .int (Int32.ofInt ((p : Nat) : Int))), (0, .ref 16), (1, .int v1), (2, .int v2)]) (by (first | rw [if_pos (show p = lo (q / 2) ∨ p = hi (q / 2) by omega)] | rw [if_neg (show ¬ (p = lo (q / 2) ∨ p = hi (q / 2)) by omega)]); (first | rw [if_pos (show p = lo (q / 2) ^^^ 1 ∨ p = hi (q / 2) ^^^ 1 by omega)] | rw [if_neg (show ¬ (p = lo (q / 2) ^^^ 1 ∨ p = hi (q / 2) ^^^ 1) by omega)]); (first | rw [if_pos (show q % 2 = 1 by omega)] | rw [if_neg (show ¬ (q % 2 = 1) by omega)]); try rfl) ?_
                      exact a_both_j hx hA hI0 hret hm9 hpq hq hpT rfl rfl (fun p q => ih (r + 1) p q (by omega))
                    · refine lf_iconst d_A_both_132 (v := Int32.ofInt ((1 : Nat) : Int)) rfl ?_
                      refine lf_goto d_A_both_133 (tgt := 137) (by decide) ?_
                      refine lf_istore d_A_both_137 (by decide +kernel) (L2 := [(11, _), (10, _), (9, _), (8, _), (7, _), (6, _), (5, _), (4, _), (3, _), (0, _), (1, _), (2, _)]) rfl ?_
                      refine lf_eqL (L1 := [(11, .int (Int32.ofInt (if q % 2 = 1 then 1 else 0))), (10, .int (Int32.ofInt (if p = lo (q / 2) ^^^ 1 ∨ p = hi (q / 2) ^^^ 1 then 1 else 0))), (9, .int (Int32.ofInt (if p = lo (q / 2) ∨ p = hi (q / 2) then 1 else 0))), (8, .int (Int32.ofInt (if s < q / 2 ∧ q / 2 < m then 1 else 0))), (7, .int (Int32.ofInt ((hi (q / 2) : Nat) : Int))), (6, .int (Int32.ofInt ((lo (q / 2) : Nat) : Int))), (5, .int (Int32.ofInt ((r : Nat) : Int))), (4, .int (Int32.ofInt ((q : Nat) : Int))), (3, .int (Int32.ofInt ((p : Nat) : Int))), (0, .ref 16), (1, .int v1), (2, .int v2)]) (by (first | rw [if_pos (show p = lo (q / 2) ∨ p = hi (q / 2) by omega)] | rw [if_neg (show ¬ (p = lo (q / 2) ∨ p = hi (q / 2)) by omega)]); (first | rw [if_pos (show p = lo (q / 2) ^^^ 1 ∨ p = hi (q / 2) ^^^ 1 by omega)] | rw [if_neg (show ¬ (p = lo (q / 2) ^^^ 1 ∨ p = hi (q / 2) ^^^ 1) by omega)]); (first | rw [if_pos (show q % 2 = 1 by omega)] | rw [if_neg (show ¬ (q % 2 = 1) by omega)]); try rfl) ?_
                      exact a_both_j hx hA hI0 hret hm9 hpq hq hpT rfl rfl (fun p q => ih (r + 1) p q (by omega))
                  · refine lf_iconst d_A_both_117 (v := Int32.ofInt ((1 : Nat) : Int)) rfl ?_
                    refine lf_goto d_A_both_118 (tgt := 122) (by decide) ?_
                    refine lf_istore d_A_both_122 (by decide +kernel) (L2 := [(10, _), (9, _), (8, _), (7, _), (6, _), (5, _), (4, _), (3, _), (0, _), (1, _), (2, _)]) rfl ?_
                    refine lf_iload d_A_both_124 rfl ?_
                    refine lf_iconst d_A_both_126 (v := Int32.ofInt ((1 : Nat) : Int)) rfl ?_
                    refine gi_iandN (a := q) (b := 1) d_A_both_127 ?_
                    refine gi_top (show ((q &&& 1 : Nat) : Int) = ((q % 2 : Nat) : Int) from by rw [Nat.and_one_is_mod]) ?_
                    refine lf_iconst d_A_both_128 (v := Int32.ofInt ((1 : Nat) : Int)) rfl ?_
                    refine gi_icmp_ne d_A_both_129 (tgt := 136) (by decide) (by omega) (fun hb129 => ?_) (fun hb129 => ?_)
                    · refine lf_iconst d_A_both_136 (v := Int32.ofInt ((0 : Nat) : Int)) rfl ?_
                      refine lf_istore d_A_both_137 (by decide +kernel) (L2 := [(11, _), (10, _), (9, _), (8, _), (7, _), (6, _), (5, _), (4, _), (3, _), (0, _), (1, _), (2, _)]) rfl ?_
                      refine lf_eqL (L1 := [(11, .int (Int32.ofInt (if q % 2 = 1 then 1 else 0))), (10, .int (Int32.ofInt (if p = lo (q / 2) ^^^ 1 ∨ p = hi (q / 2) ^^^ 1 then 1 else 0))), (9, .int (Int32.ofInt (if p = lo (q / 2) ∨ p = hi (q / 2) then 1 else 0))), (8, .int (Int32.ofInt (if s < q / 2 ∧ q / 2 < m then 1 else 0))), (7, .int (Int32.ofInt ((hi (q / 2) : Nat) : Int))), (6, .int (Int32.ofInt ((lo (q / 2) : Nat) : Int))), (5, .int (Int32.ofInt ((r : Nat) : Int))), (4, .int (Int32.ofInt ((q : Nat) : Int))), (3, .int (Int32.ofInt ((p : Nat) : Int))), (0, .ref 16), (1, .int v1), (2, .int v2)]) (by (first | rw [if_pos (show p = lo (q / 2) ∨ p = hi (q / 2) by omega)] | rw [if_neg (show ¬ (p = lo (q / 2) ∨ p = hi (q / 2)) by omega)]); (first | rw [if_pos (show p = lo (q / 2) ^^^ 1 ∨ p = hi (q / 2) ^^^ 1 by omega)] | rw [if_neg (show ¬ (p = lo (q / 2) ^^^ 1 ∨ p = hi (q / 2) ^^^ 1) by omega)]); (first | rw [if_pos (show q % 2 = 1 by omega)] | rw [if_neg (show ¬ (q % 2 = 1) by omega)]); try rfl) ?_
                      exact a_both_j hx hA hI0 hret hm9 hpq hq hpT rfl rfl (fun p q => ih (r + 1) p q (by omega))
                    · refine lf_iconst d_A_both_132 (v := Int32.ofInt ((1 : Nat) : Int)) rfl ?_
                      refine lf_goto d_A_both_133 (tgt := 137) (by decide) ?_
                      refine lf_istore d_A_both_137 (by decide +kernel) (L2 := [(11, _), (10, _), (9, _), (8, _), (7, _), (6, _), (5, _), (4, _), (3, _), (0, _), (1, _), (2, _)]) rfl ?_
                      refine lf_eqL (L1 := [(11, .int (Int32.ofInt (if q % 2 = 1 then 1 else 0))), (10, .int (Int32.ofInt (if p = lo (q / 2) ^^^ 1 ∨ p = hi (q / 2) ^^^ 1 then 1 else 0))), (9, .int (Int32.ofInt (if p = lo (q / 2) ∨ p = hi (q / 2) then 1 else 0))), (8, .int (Int32.ofInt (if s < q / 2 ∧ q / 2 < m then 1 else 0))), (7, .int (Int32.ofInt ((hi (q / 2) : Nat) : Int))), (6, .int (Int32.ofInt ((lo (q / 2) : Nat) : Int))), (5, .int (Int32.ofInt ((r : Nat) : Int))), (4, .int (Int32.ofInt ((q : Nat) : Int))), (3, .int (Int32.ofInt ((p : Nat) : Int))), (0, .ref 16), (1, .int v1), (2, .int v2)]) (by (first | rw [if_pos (show p = lo (q / 2) ∨ p = hi (q / 2) by omega)] | rw [if_neg (show ¬ (p = lo (q / 2) ∨ p = hi (q / 2)) by omega)]); (first | rw [if_pos (show p = lo (q / 2) ^^^ 1 ∨ p = hi (q / 2) ^^^ 1 by omega)] | rw [if_neg (show ¬ (p = lo (q / 2) ^^^ 1 ∨ p = hi (q / 2) ^^^ 1) by omega)]); (first | rw [if_pos (show q % 2 = 1 by omega)] | rw [if_neg (show ¬ (q % 2 = 1) by omega)]); try rfl) ?_
                      exact a_both_j hx hA hI0 hret hm9 hpq hq hpT rfl rfl (fun p q => ih (r + 1) p q (by omega))
              · refine lf_iconst d_A_both_94 (v := Int32.ofInt ((1 : Nat) : Int)) rfl ?_
                refine lf_goto d_A_both_95 (tgt := 99) (by decide) ?_
                refine lf_istore d_A_both_99 (by decide +kernel) (L2 := [(9, _), (8, _), (7, _), (6, _), (5, _), (4, _), (3, _), (0, _), (1, _), (2, _)]) rfl ?_
                refine lf_iload_n d_A_both_101 rfl rfl ?_
                refine lf_iload d_A_both_102 rfl ?_
                refine lf_iconst d_A_both_104 (v := Int32.ofInt ((1 : Nat) : Int)) rfl ?_
                refine gi_ixorN (a := (lo (q / 2))) (b := 1) d_A_both_105 ?_
                refine gi_icmp_eq d_A_both_106 (tgt := 117) (by decide) (by omega) (fun hb106 => ?_) (fun hb106 => ?_)
                · refine lf_iconst d_A_both_117 (v := Int32.ofInt ((1 : Nat) : Int)) rfl ?_
                  refine lf_goto d_A_both_118 (tgt := 122) (by decide) ?_
                  refine lf_istore d_A_both_122 (by decide +kernel) (L2 := [(10, _), (9, _), (8, _), (7, _), (6, _), (5, _), (4, _), (3, _), (0, _), (1, _), (2, _)]) rfl ?_
                  refine lf_iload d_A_both_124 rfl ?_
                  refine lf_iconst d_A_both_126 (v := Int32.ofInt ((1 : Nat) : Int)) rfl ?_
                  refine gi_iandN (a := q) (b := 1) d_A_both_127 ?_
                  refine gi_top (show ((q &&& 1 : Nat) : Int) = ((q % 2 : Nat) : Int) from by rw [Nat.and_one_is_mod]) ?_
                  refine lf_iconst d_A_both_128 (v := Int32.ofInt ((1 : Nat) : Int)) rfl ?_
                  refine gi_icmp_ne d_A_both_129 (tgt := 136) (by decide) (by omega) (fun hb129 => ?_) (fun hb129 => ?_)
                  · refine lf_iconst d_A_both_136 (v := Int32.ofInt ((0 : Nat) : Int)) rfl ?_
                    refine lf_istore d_A_both_137 (by decide +kernel) (L2 := [(11, _), (10, _), (9, _), (8, _), (7, _), (6, _), (5, _), (4, _), (3, _), (0, _), (1, _), (2, _)]) rfl ?_
                    refine lf_eqL (L1 := [(11, .int (Int32.ofInt (if q % 2 = 1 then 1 else 0))), (10, .int (Int32.ofInt (if p = lo (q / 2) ^^^ 1 ∨ p = hi (q / 2) ^^^ 1 then 1 else 0))), (9, .int (Int32.ofInt (if p = lo (q / 2) ∨ p = hi (q / 2) then 1 else 0))), (8, .int (Int32.ofInt (if s < q / 2 ∧ q / 2 < m then 1 else 0))), (7, .int (Int32.ofInt ((hi (q / 2) : Nat) : Int))), (6, .int (Int32.ofInt ((lo (q / 2) : Nat) : Int))), (5, .int (Int32.ofInt ((r : Nat) : Int))), (4, .int (Int32.ofInt ((q : Nat) : Int))), (3, .int (Int32.ofInt ((p : Nat) : Int))), (0, .ref 16), (1, .int v1), (2, .int v2)]) (by (first | rw [if_pos (show p = lo (q / 2) ∨ p = hi (q / 2) by omega)] | rw [if_neg (show ¬ (p = lo (q / 2) ∨ p = hi (q / 2)) by omega)]); (first | rw [if_pos (show p = lo (q / 2) ^^^ 1 ∨ p = hi (q / 2) ^^^ 1 by omega)] | rw [if_neg (show ¬ (p = lo (q / 2) ^^^ 1 ∨ p = hi (q / 2) ^^^ 1) by omega)]); (first | rw [if_pos (show q % 2 = 1 by omega)] | rw [if_neg (show ¬ (q % 2 = 1) by omega)]); try rfl) ?_
                    exact a_both_j hx hA hI0 hret hm9 hpq hq hpT rfl rfl (fun p q => ih (r + 1) p q (by omega))
                  · refine lf_iconst d_A_both_132 (v := Int32.ofInt ((1 : Nat) : Int)) rfl ?_
                    refine lf_goto d_A_both_133 (tgt := 137) (by decide) ?_
                    refine lf_istore d_A_both_137 (by decide +kernel) (L2 := [(11, _), (10, _), (9, _), (8, _), (7, _), (6, _), (5, _), (4, _), (3, _), (0, _), (1, _), (2, _)]) rfl ?_
                    refine lf_eqL (L1 := [(11, .int (Int32.ofInt (if q % 2 = 1 then 1 else 0))), (10, .int (Int32.ofInt (if p = lo (q / 2) ^^^ 1 ∨ p = hi (q / 2) ^^^ 1 then 1 else 0))), (9, .int (Int32.ofInt (if p = lo (q / 2) ∨ p = hi (q / 2) then 1 else 0))), (8, .int (Int32.ofInt (if s < q / 2 ∧ q / 2 < m then 1 else 0))), (7, .int (Int32.ofInt ((hi (q / 2) : Nat) : Int))), (6, .int (Int32.ofInt ((lo (q / 2) : Nat) : Int))), (5, .int (Int32.ofInt ((r : Nat) : Int))), (4, .int (Int32.ofInt ((q : Nat) : Int))), (3, .int (Int32.ofInt ((p : Nat) : Int))), (0, .ref 16), (1, .int v1), (2, .int v2)]) (by (first | rw [if_pos (show p = lo (q / 2) ∨ p = hi (q / 2) by omega)] | rw [if_neg (show ¬ (p = lo (q / 2) ∨ p = hi (q / 2)) by omega)]); (first | rw [if_pos (show p = lo (q / 2) ^^^ 1 ∨ p = hi (q / 2) ^^^ 1 by omega)] | rw [if_neg (show ¬ (p = lo (q / 2) ^^^ 1 ∨ p = hi (q / 2) ^^^ 1) by omega)]); (first | rw [if_pos (show q % 2 = 1 by omega)] | rw [if_neg (show ¬ (q % 2 = 1) by omega)]); try rfl) ?_
                    exact a_both_j hx hA hI0 hret hm9 hpq hq hpT rfl rfl (fun p q => ih (r + 1) p q (by omega))
                · refine lf_iload_n d_A_both_109 rfl rfl ?_
                  refine lf_iload d_A_both_110 rfl ?_
                  refine lf_iconst d_A_both_112 (v := Int32.ofInt ((1 : Nat) : Int)) rfl ?_
                  refine gi_ixorN (a := (hi (q / 2))) (b := 1) d_A_both_113 ?_
                  refine gi_icmp_ne d_A_both_114 (tgt := 121) (by decide) (by omega) (fun hb114 => ?_) (fun hb114 => ?_)
                  · refine lf_iconst d_A_both_121 (v := Int32.ofInt ((0 : Nat) : Int)) rfl ?_
                    refine lf_istore d_A_both_122 (by decide +kernel) (L2 := [(10, _), (9, _), (8, _), (7, _), (6, _), (5, _), (4, _), (3, _), (0, _), (1, _), (2, _)]) rfl ?_
                    refine lf_iload d_A_both_124 rfl ?_
                    refine lf_iconst d_A_both_126 (v := Int32.ofInt ((1 : Nat) : Int)) rfl ?_
                    refine gi_iandN (a := q) (b := 1) d_A_both_127 ?_
                    refine gi_top (show ((q &&& 1 : Nat) : Int) = ((q % 2 : Nat) : Int) from by rw [Nat.and_one_is_mod]) ?_
                    refine lf_iconst d_A_both_128 (v := Int32.ofInt ((1 : Nat) : Int)) rfl ?_
                    refine gi_icmp_ne d_A_both_129 (tgt := 136) (by decide) (by omega) (fun hb129 => ?_) (fun hb129 => ?_)
                    · refine lf_iconst d_A_both_136 (v := Int32.ofInt ((0 : Nat) : Int)) rfl ?_
                      refine lf_istore d_A_both_137 (by decide +kernel) (L2 := [(11, _), (10, _), (9, _), (8, _), (7, _), (6, _), (5, _), (4, _), (3, _), (0, _), (1, _), (2, _)]) rfl ?_
                      refine lf_eqL (L1 := [(11, .int (Int32.ofInt (if q % 2 = 1 then 1 else 0))), (10, .int (Int32.ofInt (if p = lo (q / 2) ^^^ 1 ∨ p = hi (q / 2) ^^^ 1 then 1 else 0))), (9, .int (Int32.ofInt (if p = lo (q / 2) ∨ p = hi (q / 2) then 1 else 0))), (8, .int (Int32.ofInt (if s < q / 2 ∧ q / 2 < m then 1 else 0))), (7, .int (Int32.ofInt ((hi (q / 2) : Nat) : Int))), (6, .int (Int32.ofInt ((lo (q / 2) : Nat) : Int))), (5, .int (Int32.ofInt ((r : Nat) : Int))), (4, .int (Int32.ofInt ((q : Nat) : Int))), (3, .int (Int32.ofInt ((p : Nat) : Int))), (0, .ref 16), (1, .int v1), (2, .int v2)]) (by (first | rw [if_pos (show p = lo (q / 2) ∨ p = hi (q / 2) by omega)] | rw [if_neg (show ¬ (p = lo (q / 2) ∨ p = hi (q / 2)) by omega)]); (first | rw [if_pos (show p = lo (q / 2) ^^^ 1 ∨ p = hi (q / 2) ^^^ 1 by omega)] | rw [if_neg (show ¬ (p = lo (q / 2) ^^^ 1 ∨ p = hi (q / 2) ^^^ 1) by omega)]); (first | rw [if_pos (show q % 2 = 1 by omega)] | rw [if_neg (show ¬ (q % 2 = 1) by omega)]); try rfl) ?_
                      exact a_both_j hx hA hI0 hret hm9 hpq hq hpT rfl rfl (fun p q => ih (r + 1) p q (by omega))
                    · refine lf_iconst d_A_both_132 (v := Int32.ofInt ((1 : Nat) : Int)) rfl ?_
                      refine lf_goto d_A_both_133 (tgt := 137) (by decide) ?_
                      refine lf_istore d_A_both_137 (by decide +kernel) (L2 := [(11, _), (10, _), (9, _), (8, _), (7, _), (6, _), (5, _), (4, _), (3, _), (0, _), (1, _), (2, _)]) rfl ?_
                      refine lf_eqL (L1 := [(11, .int (Int32.ofInt (if q % 2 = 1 then 1 else 0))), (10, .int (Int32.ofInt (if p = lo (q / 2) ^^^ 1 ∨ p = hi (q / 2) ^^^ 1 then 1 else 0))), (9, .int (Int32.ofInt (if p = lo (q / 2) ∨ p = hi (q / 2) then 1 else 0))), (8, .int (Int32.ofInt (if s < q / 2 ∧ q / 2 < m then 1 else 0))), (7, .int (Int32.ofInt ((hi (q / 2) : Nat) : Int))), (6, .int (Int32.ofInt ((lo (q / 2) : Nat) : Int))), (5, .int (Int32.ofInt ((r : Nat) : Int))), (4, .int (Int32.ofInt ((q : Nat) : Int))), (3, .int (Int32.ofInt ((p : Nat) : Int))), (0, .ref 16), (1, .int v1), (2, .int v2)]) (by (first | rw [if_pos (show p = lo (q / 2) ∨ p = hi (q / 2) by omega)] | rw [if_neg (show ¬ (p = lo (q / 2) ∨ p = hi (q / 2)) by omega)]); (first | rw [if_pos (show p = lo (q / 2) ^^^ 1 ∨ p = hi (q / 2) ^^^ 1 by omega)] | rw [if_neg (show ¬ (p = lo (q / 2) ^^^ 1 ∨ p = hi (q / 2) ^^^ 1) by omega)]); (first | rw [if_pos (show q % 2 = 1 by omega)] | rw [if_neg (show ¬ (q % 2 = 1) by omega)]); try rfl) ?_
                      exact a_both_j hx hA hI0 hret hm9 hpq hq hpT rfl rfl (fun p q => ih (r + 1) p q (by omega))
                  · refine lf_iconst d_A_both_117 (v := Int32.ofInt ((1 : Nat) : Int)) rfl ?_
                    refine lf_goto d_A_both_118 (tgt := 122) (by decide) ?_
                    refine lf_istore d_A_both_122 (by decide +kernel) (L2 := [(10, _), (9, _), (8, _), (7, _), (6, _), (5, _), (4, _), (3, _), (0, _), (1, _), (2, _)]) rfl ?_
                    refine lf_iload d_A_both_124 rfl ?_
                    refine lf_iconst d_A_both_126 (v := Int32.ofInt ((1 : Nat) : Int)) rfl ?_
                    refine gi_iandN (a := q) (b := 1) d_A_both_127 ?_
                    refine gi_top (show ((q &&& 1 : Nat) : Int) = ((q % 2 : Nat) : Int) from by rw [Nat.and_one_is_mod]) ?_
                    refine lf_iconst d_A_both_128 (v := Int32.ofInt ((1 : Nat) : Int)) rfl ?_
                    refine gi_icmp_ne d_A_both_129 (tgt := 136) (by decide) (by omega) (fun hb129 => ?_) (fun hb129 => ?_)
                    · refine lf_iconst d_A_both_136 (v := Int32.ofInt ((0 : Nat) : Int)) rfl ?_
                      refine lf_istore d_A_both_137 (by decide +kernel) (L2 := [(11, _), (10, _), (9, _), (8, _), (7, _), (6, _), (5, _), (4, _), (3, _), (0, _), (1, _), (2, _)]) rfl ?_
                      refine lf_eqL (L1 := [(11, .int (Int32.ofInt (if q % 2 = 1 then 1 else 0))), (10, .int (Int32.ofInt (if p = lo (q / 2) ^^^ 1 ∨ p = hi (q / 2) ^^^ 1 then 1 else 0))), (9, .int (Int32.ofInt (if p = lo (q / 2) ∨ p = hi (q / 2) then 1 else 0))), (8, .int (Int32.ofInt (if s < q / 2 ∧ q / 2 < m then 1 else 0))), (7, .int (Int32.ofInt ((hi (q / 2) : Nat) : Int))), (6, .int (Int32.ofInt ((lo (q / 2) : Nat) : Int))), (5, .int (Int32.ofInt ((r : Nat) : Int))), (4, .int (Int32.ofInt ((q : Nat) : Int))), (3, .int (Int32.ofInt ((p : Nat) : Int))), (0, .ref 16), (1, .int v1), (2, .int v2)]) (by (first | rw [if_pos (show p = lo (q / 2) ∨ p = hi (q / 2) by omega)] | rw [if_neg (show ¬ (p = lo (q / 2) ∨ p = hi (q / 2)) by omega)]); (first | rw [if_pos (show p = lo (q / 2) ^^^ 1 ∨ p = hi (q / 2) ^^^ 1 by omega)] | rw [if_neg (show ¬ (p = lo (q / 2) ^^^ 1 ∨ p = hi (q / 2) ^^^ 1) by omega)]); (first | rw [if_pos (show q % 2 = 1 by omega)] | rw [if_neg (show ¬ (q % 2 = 1) by omega)]); try rfl) ?_
                      exact a_both_j hx hA hI0 hret hm9 hpq hq hpT rfl rfl (fun p q => ih (r + 1) p q (by omega))
                    · refine lf_iconst d_A_both_132 (v := Int32.ofInt ((1 : Nat) : Int)) rfl ?_
                      refine lf_goto d_A_both_133 (tgt := 137) (by decide) ?_
                      refine lf_istore d_A_both_137 (by decide +kernel) (L2 := [(11, _), (10, _), (9, _), (8, _), (7, _), (6, _), (5, _), (4, _), (3, _), (0, _), (1, _), (2, _)]) rfl ?_
                      refine lf_eqL (L1 := [(11, .int (Int32.ofInt (if q % 2 = 1 then 1 else 0))), (10, .int (Int32.ofInt (if p = lo (q / 2) ^^^ 1 ∨ p = hi (q / 2) ^^^ 1 then 1 else 0))), (9, .int (Int32.ofInt (if p = lo (q / 2) ∨ p = hi (q / 2) then 1 else 0))), (8, .int (Int32.ofInt (if s < q / 2 ∧ q / 2 < m then 1 else 0))), (7, .int (Int32.ofInt ((hi (q / 2) : Nat) : Int))), (6, .int (Int32.ofInt ((lo (q / 2) : Nat) : Int))), (5, .int (Int32.ofInt ((r : Nat) : Int))), (4, .int (Int32.ofInt ((q : Nat) : Int))), (3, .int (Int32.ofInt ((p : Nat) : Int))), (0, .ref 16), (1, .int v1), (2, .int v2)]) (by (first | rw [if_pos (show p = lo (q / 2) ∨ p = hi (q / 2) by omega)] | rw [if_neg (show ¬ (p = lo (q / 2) ∨ p = hi (q / 2)) by omega)]); (first | rw [if_pos (show p = lo (q / 2) ^^^ 1 ∨ p = hi (q / 2) ^^^ 1 by omega)] | rw [if_neg (show ¬ (p = lo (q / 2) ^^^ 1 ∨ p = hi (q / 2) ^^^ 1) by omega)]); (first | rw [if_pos (show q % 2 = 1 by omega)] | rw [if_neg (show ¬ (q % 2 = 1) by omega)]); try rfl) ?_
                      exact a_both_j hx hA hI0 hret hm9 hpq hq hpT rfl rfl (fun p q => ih (r + 1) p q (by omega))
          · refine lf_iload d_A_both_49 rfl ?_
            refine lf_ireturn d_A_both_51 rfl rfl (hret _ _ _ (ABq_old hI0 hq (fun src => ?_)))
            rw [← hpT src]
            first
              | (have e : p = 1 := by omega
                 rw [e, lit_1 ndv_0]; rfl)
              | (have e : p = q := by omega
                 rw [e, Bool.and_self])
      · refine lf_iconst d_A_both_36 (v := Int32.ofInt ((0 : Nat) : Int)) rfl ?_
        refine lf_ireturn d_A_both_37 rfl rfl (hret _ _ _ (ABq_old hI0 (x := 0) (by omega) (fun src => ?_)))
        rw [← hpT src, lit_0 ndv_0]
        rcases Decidable.em (p = 0) with e | e
        · rw [e, lit_0 ndv_0]; rfl
        · have e : p ^^^ 1 = q := by omega
          rw [← e, lit_x]
          cases lit (ndv s lo hi src m) p <;> rfl
theorem a_both (hx : HX X L9 xs) (hA : clA sh) {s m : Nat} {lo hi : Nat → Nat} (hI : AI I s m lo hi) (hm9 : m < 250) {a b : Nat} (ha : a < 2 * m) (hb : b < 2 * m) : EVi TT cl6 X mi_A_both 3 [.ref 16, .int (Int32.ofInt ((a : Nat) : Int)), .int (Int32.ofInt ((b : Nat) : Int))] sh I J (fun r I1 J1 => ABq I J s m lo hi (fun src => lit (ndv s lo hi src m) a && lit (ndv s lo hi src m) b) r I1 J1) := by
  have hm2 := hI.2.2.2.1
  refine gw_enter (hx_ok hx) (by decide +kernel) (Nat.le_of_ble_eq_true rfl) (L := [(0, _), (1, _), (2, _)]) rfl ?_
  refine lf_iload_n d_A_both_0 rfl rfl ?_
  refine lf_iload_n d_A_both_1 rfl rfl ?_
  refine gi_min d_A_both_2 tminL_A_73 tminS tMI tminC (Nat.le_of_ble_eq_true rfl) (by omega) ?_
  refine gi_top (show min ((a : Nat) : Int) ((b : Nat) : Int) = ((min a b : Nat) : Int) from by omega) ?_
  refine lf_istore_n d_A_both_5 rfl (by decide +kernel) (L2 := [(3, _), (0, _), (1, _), (2, _)]) rfl ?_
  refine lf_iload_n d_A_both_6 rfl rfl ?_
  refine lf_iload_n d_A_both_7 rfl rfl ?_
  refine gi_max d_A_both_8 tmaxL_A_78 tmaxS tMI tmaxC (Nat.le_of_ble_eq_true rfl) (by omega) ?_
  refine gi_top (show max ((a : Nat) : Int) ((b : Nat) : Int) = ((max a b : Nat) : Int) from by omega) ?_
  refine lf_istore d_A_both_11 (by decide +kernel) (L2 := [(4, _), (3, _), (0, _), (1, _), (2, _)]) rfl ?_
  refine lf_iconst d_A_both_13 (v := Int32.ofInt ((0 : Nat) : Int)) rfl ?_
  refine lf_istore d_A_both_14 (by decide +kernel) (L2 := [(5, _), (4, _), (3, _), (0, _), (1, _), (2, _)]) rfl ?_
  refine a_both_l hx hA hI (fun r I1 J1 w => ⟨_, _, _, rfl, rfl, _, rfl, w⟩) hm9 256 0 (min a b) (max a b) (by omega) (by omega) (by omega) (fun src => ?_)
  rcases Nat.le_total a b with z | z
  · rw [show min a b = a by omega, show max a b = b by omega]
  · rw [show min a b = b by omega, show max a b = a by omega, Bool.and_comm]
end AT2
