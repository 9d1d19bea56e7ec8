section AS3
variable {cl : List vw_C} {X : XT} {mi : MI} {fr lo : Nat} {D : mF} {P : Option Value → mF → Prop} {PX : String → mF → Prop} {kc ks pc : Nat} {L : List (Nat × Value)} {S : List Value} {sh : sM} {I : mI} {J : mJ}
theorem tan_L : Cond.classLink "MiterhouseLaw" 102 "[I" ∈ TT := ttk_6 (List.mem_of_getElem? (i := 76) (by decide +kernel)) (by decide +kernel)
theorem tan_O : Cond.arrayOver (.array .int) ∈ TT := ttk_6 (List.mem_of_getElem? (i := 77) (by decide +kernel)) (by decide +kernel)
theorem tmu_L : Cond.classLink "MiterhouseLaw" 161 "[[I" ∈ TT := ttk_6 (List.mem_of_getElem? (i := 147) (by decide +kernel)) (by decide +kernel)
theorem gi_anewI {m B q : Nat} (d : decode mi.2.1 pc = .ok (.anewarray 102, 3)) (hmi : mi.1.cls = "MiterhouseLaw") (hm : m ≤ B) (hB : B ≤ 1000000) (hq : sh q = none) (k : LXf TT cl X mi fr lo D P PX kc ks (pc + 3) L (.ref q :: S) (hp (spt sh q (.inl (.array .int, m, 2, fun _ => none))) (izr I q) (jzr J q))) : LXf TT cl X mi fr lo D P PX (kc + 1) (ks + B) pc L (.int (Int32.ofInt ((m : Nat) : Int)) :: S) (hp sh I J) := by
  have e1 : (Int32.ofInt ((m : Nat) : Int)).toNatClampNeg = m := by rw [oi_n (by omega)]; rfl
  refine lf_room (kc1 := kc + 1) (ks1 := ks + (Int32.ofInt ((m : Nat) : Int)).toNatClampNeg) (Nat.le_refl _) (by rw [e1]; exact Nat.add_le_add_left hm ks) ?_
  refine lf_anewI d (by rw [hmi]; exact tan_L) tan_O (by rw [oi_0, oi_lt (by omega) (by omega)]; omega) (by rw [e1]; omega) (hp_no hq) ?_
  rw [e1]
  have e := hp_new (sh := sh) (I := I) (J := J) (i := q) (s := .inl (.array .int, m, 2, fun _ => none))
  rw [← e] at k
  exact k
theorem gi_aastI {i n k n2 j : Nat} {f g : Nat → Option Nat} (d : decode mi.2.1 pc = .ok (.aastore, 1)) (hs : sh i = some (.inl (.array .int, n, 2, f))) (hk : sh k = some (.inl (.int, n2, 0, g))) (hj : j < n ∧ n ≤ 2147483647) (kk : LXf TT cl X mi fr lo D P PX kc ks (pc + 1) L S (hp (spt sh i (.inl (.array .int, n, 2, va_up f j (some k)))) I J)) : LXf TT cl X mi fr lo D P PX kc ks pc L (.ref k :: .int (Int32.ofInt ((j : Nat) : Int)) :: .ref i :: S) (hp sh I J) := by
  refine lf_aastI d tan_O (hp_at hs) (hp_at hk) (oi_in (by omega) (by omega) hj.2) ?_
  rw [oi_n (by omega), Int.toNat_natCast]
  have e := hp_spt (sh := sh) (I := I) (J := J) (i := i) (s := .inl (.array .int, n, 2, va_up f j (some k)))
  rw [← e] at kk
  exact kk
/-- new int[2][m], m 1 or 2 -/
theorem gi_multi {m q0 q1 q2 : Nat} (d : decode mi.2.1 pc = .ok (.multianewarray 161 2, 4)) (hmi : mi.1.cls = "MiterhouseLaw") (hm : m = 1 ∨ m = 2) (hq0 : sh q0 = none) (hq1 : sh q1 = none) (hq2 : sh q2 = none) (hd : ¬ q1 = q0 ∧ ¬ q2 = q0 ∧ ¬ q2 = q1)
    (k : LXf TT cl X mi fr lo D P PX kc ks (pc + 4) L (.ref q0 :: S) (hp (spt (spt (spt (spt sh q0 (.inl (.array .int, 2, 2, fun _ => none))) q1 (.inl (.int, m, 0, fun _ => none))) q2 (.inl (.int, m, 0, fun _ => none))) q0 (.inl (.array .int, 2, 2, va_up (va_up (fun _ => none) 0 (some q1)) 1 (some q2)))) (izr (izr (izr I q0) q1) q2) (jzr (jzr (jzr J q0) q1) q2))) :
    LXf TT cl X mi fr lo D P PX (kc + 3) (ks + 6) pc L (.int (Int32.ofInt ((m : Nat) : Int)) :: .int (Int32.ofInt ((2 : Nat) : Int)) :: S) (hp sh I J) := by
  have e0 := hp_new (sh := sh) (I := I) (J := J) (i := q0) (s := .inl (.array .int, 2, 2, fun _ => none))
  have e1 := hp_new (sh := spt sh q0 (.inl (.array .int, 2, 2, fun _ => none))) (I := izr I q0) (J := jzr J q0) (i := q1) (s := .inl (.int, m, 0, fun _ => none))
  have e2 := hp_new (sh := spt (spt sh q0 (.inl (.array .int, 2, 2, fun _ => none))) q1 (.inl (.int, m, 0, fun _ => none))) (I := izr (izr I q0) q1) (J := jzr (jzr J q0) q1) (i := q2) (s := .inl (.int, m, 0, fun _ => none))
  have e3 := hp_spt (sh := spt (spt (spt sh q0 (.inl (.array .int, 2, 2, fun _ => none))) q1 (.inl (.int, m, 0, fun _ => none))) q2 (.inl (.int, m, 0, fun _ => none))) (I := izr (izr (izr I q0) q1) q2) (J := jzr (jzr (jzr J q0) q1) q2) (i := q0) (s := .inl (.array .int, 2, 2, va_up (va_up (fun _ => none) 0 (some q1)) 1 (some q2)))
  rw [← e3, ← e2, ← e1, ← e0] at k
  have z1 : sden (izr (izr I q0) q1) (jzr (jzr J q0) q1) q1 (.inl (.int, m, 0, fun _ => none)) = .inl (.int, m, .inl (fun _ => 0)) := by
    show Sum.inl (FieldType.int, m, Sum.inl (fun x => Int32.ofInt (izr (izr I q0) q1 q1 x))) = _
    congr 1
    congr 1
    congr 1
    congr 1
    funext x
    rw [izr_s]; rfl
  have z2 : sden (izr (izr (izr I q0) q1) q2) (jzr (jzr (jzr J q0) q1) q2) q2 (.inl (.int, m, 0, fun _ => none)) = .inl (.int, m, .inl (fun _ => 0)) := by
    show Sum.inl (FieldType.int, m, Sum.inl (fun x => Int32.ofInt (izr (izr (izr I q0) q1) q2 q2 x))) = _
    congr 1
    congr 1
    congr 1
    congr 1
    funext x
    rw [izr_s]; rfl
  rw [z1, z2] at k
  rcases hm with rfl | rfl
  · refine lf_room (kc1 := kc + 3) (ks1 := ks + 4) (Nat.le_refl _) (by omega) ?_
    exact lf_multi_1 d (by rw [hmi]; exact tmu_L) tan_O tA_int (hp_no hq0) (hp_no hq1) (hp_no hq2) hd k
  · exact lf_multi_2 d (by rw [hmi]; exact tmu_L) tan_O tA_int (hp_no hq0) (hp_no hq1) (hp_no hq2) hd k
end AS3
