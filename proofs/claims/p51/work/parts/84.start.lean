section ST2
/-- what the law's start gives to every method: 1 the script, 2 the rows of HIGH_HALVES, 3 the law's string of the kinds, 4 its bytes, 5 what makes an exception's text, if it isn't null -/
def XX (n9 : Bool) (L9 : Nat) (xs : Nat → Int32) : XT := fun A sp U H =>
  vx_Zq Bundle.tN "UNASSIGNED_STACK" Bundle.steD A U H ∧ vx_Zq Bundle.tN "SUPPRESSED_SENTINEL" Bundle.listD A U H ∧
  va_Z "Miterhouse" "HIGH_HALVES" "[J" (.ref (sp 2)) A U H ∧ va_T .long (sp 2) 6 (fun j => .long (hhv j)) A U H ∧
  va_X (sp 1) L9 xs U H ∧ sp 1 < H.size ∧ ¬ A (sp 1) ∧
  (∀ q ∈ ncs, va_Nc q.1 q.2 U) ∧ (∀ q ∈ strs, ∃ a, vk_R q.1 q.2.1 q.2.2 a U) ∧
  vk_R "MiterhouseLaw" 108 "aoxnrbv" (sp 3) U ∧ va_O "java/lang/String" (sp 3) A U H ∧ va_OF "java/lang/String" "value" "[B" (.ref (sp 4)) (sp 3) A U H ∧ va_OF "java/lang/String" "coder" "B" (.int 0) (sp 3) A U H ∧ va_Z "java/lang/String" "COMPACT_STRINGS" "Z" (.int 1) A U H ∧
  va_T .byte (sp 4) 7 (fun j => .int (kdb j)) A U H ∧
  va_Z "jdk/internal/util/Preconditions" "SIOOBE_FORMATTER" "Ljava/util/function/BiFunction;" (if n9 then .null else .ref (sp 5)) A U H
theorem XX_ok {n9 : Bool} {L9 : Nat} {xs : Nat → Int32} : mj_XOK (XX n9 L9 xs) := by
  refine ⟨?_, ?_, ?_, ?_⟩
  · intro A sp U H H1 h hs hk
    obtain ⟨h1, h2, h3, h4, h5, h6, h7, h8, h9, g1, g2, g3, g4, g5, g6, g7⟩ := h
    exact ⟨h1.kept hk, h2.kept hk, h3.kept hk, h4.kept hk, h5.kept (hk _ h6 h7), Nat.lt_of_lt_of_le h6 hs, h7, h8, h9, g1, g2.kept hk, g3.kept hk, g4.kept hk, g5.kept hk, g6.kept hk, g7.kept hk⟩
  · intro A B sp U H hBA h
    obtain ⟨h1, h2, h3, h4, h5, h6, h7, h8, h9, g1, g2, g3, g4, g5, g6, g7⟩ := h
    exact ⟨h1.narrow hBA, h2.narrow hBA, h3.narrow hBA, h4.narrow hBA, h5, h6, fun q => h7 (hBA _ q), h8, h9, g1, g2.narrow hBA, g3.narrow hBA, g4.narrow hBA, g5.narrow hBA, g6.narrow hBA, g7.narrow hBA⟩
  · intro A sp U T H hW h
    obtain ⟨h1, h2, h3, h4, h5, h6, h7, h8, h9, g1, g2, g3, g4, g5, g6, g7⟩ := h
    have hv := hW.alike
    exact ⟨h1.moved hv, h2.moved hv, h3.moved hv, h4.moved hv, h5.moved hv, h6, h7, fun q hq => (h8 q hq).moved hv, fun q hq => by obtain ⟨a, ha⟩ := h9 q hq; exact ⟨a, ha.warm hW⟩, g1.warm hW, g2.moved hv, g3.moved hv, g4.moved hv, g5.moved hv, g6.moved hv, g7.moved hv⟩
  · intro A sp U T H hvm h
    obtain ⟨h1, h2, h3, h4, h5, h6, h7, h8, h9, g1, g2, g3, g4, g5, g6, g7⟩ := h
    have hv : U.vm.Alike T.vm := by rw [hvm]; exact Vm.Alike.refl U.vm
    exact ⟨h1.moved hv, h2.moved hv, h3.moved hv, h4.moved hv, h5.moved hv, h6, h7, fun q hq => (h8 q hq).moved hv, fun q hq => by obtain ⟨a, ha⟩ := h9 q hq; exact ⟨a, ha.same hvm⟩, g1.same hvm, g2.moved hv, g3.moved hv, g4.moved hv, g5.moved hv, g6.moved hv, g7.moved hv⟩
theorem hx_all {n9 : Bool} {L9 : Nat} {xs : Nat → Int32} (hL : L9 ≤ 260) : HX (XX n9 L9 xs) L9 xs :=
  ⟨XX_ok, fun _ _ _ _ h => ⟨h.1, h.2.1⟩, fun q hq _ _ _ _ h => h.2.2.2.2.2.2.2.1 q hq, fun q hq _ _ _ _ h => h.2.2.2.2.2.2.2.2.1 q hq, fun _ _ _ _ h => ⟨h.2.2.2.2.1, h.2.2.2.2.2.2.1⟩, hL, fun _ _ _ _ h => h.2.2.1, fun _ _ _ _ h => h.2.2.2.1⟩
theorem hxc_all {n9 : Bool} {L9 : Nat} {xs : Nat → Int32} : HXC (XX n9 L9 xs) := by
  refine ⟨fun A sp U H h => ?_, fun A sp U H h => ?_, ?_⟩
  · obtain ⟨-, -, -, -, -, -, -, -, -, g1, g2, g3, g4, g5, -, -⟩ := h
    exact ⟨g1, g2, g3, g4, g5⟩
  · obtain ⟨-, -, -, -, -, -, -, -, -, -, -, -, -, -, g6, -⟩ := h
    exact g6
  · cases n9 with
    | true =>
      refine Or.inr (fun A sp U H h => ?_)
      obtain ⟨-, -, -, -, -, -, -, -, -, -, -, -, -, -, -, g7⟩ := h
      exact g7
    | false =>
      refine Or.inl (fun A sp U H h => ?_)
      obtain ⟨-, -, -, -, -, -, -, -, -, -, -, -, -, -, -, g7⟩ := h
      exact g7
theorem tt_sub {w : Cond} (h : w ∈ TT) : w ∈ lw_tbl := (List.mem_filter.mp h).1
theorem u_kn12 {s : State} {args : Array Value} (hts : ∀ w ∈ TT, w.before args s = true) : ∃ D : va_G, va_K D cl6 [] s := by
  obtain ⟨c0, i0, k0⟩ := u_known hts cK_0.2.1 (hts _ t_1_31)
  obtain ⟨c1, i1, k1⟩ := u_known hts cK_1.2.1 (hts _ t_1_39)
  obtain ⟨c2, i2, k2⟩ := u_known hts cK_2.2.1 (hts _ t_1_206)
  obtain ⟨c3, i3, k3⟩ := u_known hts cK_3.2.1 (hts _ t_3_110)
  obtain ⟨c4, i4, k4⟩ := u_known hts cK_4.2.1 (hts _ t_3_175)
  obtain ⟨c5, i5, k5⟩ := u_known hts cK_5.2.1 (hts _ t_2_11)
  obtain ⟨c6, i6, k6⟩ := u_known hts cK_6.2.1 (hts _ t_1_127)
  obtain ⟨c7, i7, k7⟩ := u_known hts cK_7.2.1 (hts _ t_3_239)
  obtain ⟨c8, i8, k8⟩ := u_known hts cK_8.2.1 (hts _ t_4_61)
  obtain ⟨c9, i9, k9⟩ := u_known hts cK_9.2.1 (hts _ t_4_94)
  obtain ⟨c10, i10, k10⟩ := u_known hts cK_10.2.1 (hts _ t_4_116)
  obtain ⟨c11, i11, k11⟩ := u_known hts cK_11.2.1 (hts _ t_4_5)
  refine ⟨(fun c => match c with | 0 => c0 | 1 => c1 | 2 => c2 | 3 => c3 | 4 => c4 | 5 => c5 | 6 => c6 | 7 => c7 | 8 => c8 | 9 => c9 | 10 => c10 | _ => c11, fun c => match c with | 0 => i0 | 1 => i1 | 2 => i2 | 3 => i3 | 4 => i4 | 5 => i5 | 6 => i6 | 7 => i7 | 8 => i8 | 9 => i9 | 10 => i10 | _ => i11), fun c q hq => ?_, fun k q hq => by simp at hq⟩
  match c, hq with
  | 0, hq => cases hq; exact k0
  | 1, hq => cases hq; exact k1
  | 2, hq => cases hq; exact k2
  | 3, hq => cases hq; exact k3
  | 4, hq => cases hq; exact k4
  | 5, hq => cases hq; exact k5
  | 6, hq => cases hq; exact k6
  | 7, hq => cases hq; exact k7
  | 8, hq => cases hq; exact k8
  | 9, hq => cases hq; exact k9
  | 10, hq => cases hq; exact k10
  | 11, hq => cases hq; exact k11
  | n + 12, hq => cases hq
/-- what the start gives -/
theorem start_X {s : State} {b L : Nat} {xs : Nat → Int32} (hts : ∀ w ∈ lw_tbl, w.before #[Value.ref b] s = true) (hX : va_X b L xs s s.heap) (hbl : b < s.heap.size) (hgv : (Jvm.Cond.and given_1 narrow_1).before #[Value.ref b] s = true) :
    ∃ (n9 : Bool) (sp : Nat → Nat), sp 1 = b ∧ XX n9 L xs (fun q => s.heap.size ≤ q) sp s s.heap := by
  have hs := flat_of_before _ hgv
  have hA : ∀ a : Nat, a < s.heap.size → ¬ (fun q => s.heap.size ≤ q) a := fun a h => Nat.not_le.mpr h
  obtain ⟨t2, e2, T2⟩ := va_Tof (args := #[Value.ref b]) (s := s) (tm := .static "Miterhouse" "HIGH_HALVES" "[J") (ty := .long) (N := 6) (f := fun j => .long (hhv j)) (A := fun q => s.heap.size ≤ q) (by decide) (hs _ (by decide +kernel)) (va_eqt (hs _ (by decide +kernel))) (fun j hj => by
    match j, hj with
    | 0, _ => exact va_eqtl (hs _ (by decide +kernel))
    | 1, _ => exact va_eqtl (hs _ (by decide +kernel))
    | 2, _ => exact va_eqtl (hs _ (by decide +kernel))
    | 3, _ => exact va_eqtl (hs _ (by decide +kernel))
    | 4, _ => exact va_eqtl (hs _ (by decide +kernel))
    | 5, _ => exact va_eqtl (hs _ (by decide +kernel))
    | n + 6, h => omega) hA
  have Z2 := va_Zof (hts (.laysStatic "Miterhouse" "HIGH_HALVES" "[J") (by decide +kernel)) (hts (.initialized "Miterhouse") (by decide +kernel)) e2 hA
  have ini := hts (.initialized "java/lang/Throwable") (by decide +kernel)
  have hex : (Cond.exactly (.string "MiterhouseLaw" 108) "java/lang/String").before #[Value.ref b] s = true := hs _ (by decide +kernel)
  obtain ⟨t3, c3, cell3, k3, e3, -⟩ := Cond.exactly_spec hex
  have O3 := va_Oof (A := fun q => s.heap.size ≤ q) hex e3 hA
  obtain ⟨t4, e4, T4⟩ := va_Tof (args := #[Value.ref b]) (s := s) (tm := .field (.string "MiterhouseLaw" 108) "java/lang/String" "value" "[B") (ty := .byte) (N := 7) (f := fun j => .int (kdb j)) (A := fun q => s.heap.size ≤ q) (by decide) (hs _ (by decide +kernel)) (va_eqt (hs _ (by decide +kernel))) (fun j hj => by
    match j, hj with
    | 0, _ => exact va_eqt (hs _ (by decide +kernel))
    | 1, _ => exact va_eqt (hs _ (by decide +kernel))
    | 2, _ => exact va_eqt (hs _ (by decide +kernel))
    | 3, _ => exact va_eqt (hs _ (by decide +kernel))
    | 4, _ => exact va_eqt (hs _ (by decide +kernel))
    | 5, _ => exact va_eqt (hs _ (by decide +kernel))
    | 6, _ => exact va_eqt (hs _ (by decide +kernel))
    | n + 7, h => omega) hA
  have F3 := vk_OFof e3 e4 hA
  have F4 : va_OF "java/lang/String" "coder" "B" (.int 0) t3 (fun q => s.heap.size ≤ q) s s.heap := vk_OFof e3 (va_eqt (hs _ (by decide +kernel))) hA
  have Z4 : va_Z "java/lang/String" "COMPACT_STRINGS" "Z" (.int 1) (fun q => s.heap.size ≤ q) s s.heap := va_Zof (hts _ (by decide +kernel)) (hts _ (by decide +kernel)) (va_eqt (hs _ (by decide +kernel))) hA
  have R3 : vk_R "MiterhouseLaw" 108 "aoxnrbv" t3 s := vk_R.of (hts _ (by decide +kernel)) e3
  have Zq : va_Zq "jdk/internal/util/Preconditions" "SIOOBE_FORMATTER" "Ljava/util/function/BiFunction;" (fun q => s.heap.size ≤ q) s s.heap := va_Zqof (hts _ (by decide +kernel)) (hts _ (by decide +kernel)) (hs _ (by decide +kernel)) hA
  have V1 := vx_Zqof (C := Bundle.tN) (n := "UNASSIGNED_STACK") (d := Bundle.steD) (hts _ (by decide +kernel)) ini (hs _ (by decide +kernel)) hA
  have V2 := vx_Zqof (C := Bundle.tN) (n := "SUPPRESSED_SENTINEL") (d := Bundle.listD) (hts _ (by decide +kernel)) ini (hs _ (by decide +kernel)) hA
  have N9 : ∀ q ∈ ncs, va_Nc q.1 q.2 s := by
    have key : ∀ q ∈ ncs, (Cond.not (.castable q.1 q.2)) ∈ flatC (Jvm.Cond.and given_1 narrow_1) := by decide +kernel
    exact fun q hq => va_Nc.of (hs _ (key q hq))
  have S9 : ∀ q ∈ strs, ∃ a, vk_R q.1 q.2.1 q.2.2 a s := by
    have key1 : ∀ q ∈ strs, Cond.stringRef q.1 q.2.1 q.2.2 ∈ lw_tbl := by decide +kernel
    have key2 : ∀ q ∈ strs, Cond.exactly (.string q.1 q.2.1) "java/lang/String" ∈ flatC (Jvm.Cond.and given_1 narrow_1) := by decide +kernel
    intro q hq
    obtain ⟨a, c, cell, k, q1, -⟩ := Cond.exactly_spec (hs _ (key2 q hq))
    exact ⟨a, vk_R.of (hts _ (key1 q hq)) q1⟩
  rcases Zq with Z5 | ⟨t5, Z5⟩
  · exact ⟨true, fun k => match k with | 1 => b | 2 => t2 | 3 => t3 | 4 => t4 | _ => 0, rfl, V1, V2, Z2, T2, hX, hbl, hA b hbl, N9, S9, R3, O3, F3, F4, Z4, T4, Z5⟩
  · exact ⟨false, fun k => match k with | 1 => b | 2 => t2 | 3 => t3 | 4 => t4 | _ => t5, rfl, V1, V2, Z2, T2, hX, hbl, hA b hbl, N9, S9, R3, O3, F3, F4, Z4, T4, Z5⟩
/-- the law over an empty heap of its own -/
theorem law_lx {n9 : Bool} {L : Nat} {xs : Nat → Int32} (hL : L ≤ 260) : LX TT cl6 (XX n9 L xs) mi_W_law (40 + 11) (1000 + 200 * 11) (fun v _ => v = some (.int 1)) (fun _ _ => False) 2698 62705 0 [(0, .retAddr 1)] [] [] := by
  have h := law_all (D := fun _ => none) (PX := fun _ _ => False) (sh := fun _ => none) (I := fun _ _ => 0) (J := fun _ _ => 0) (hx_all (n9 := n9) (xs := xs) hL) hxc_all (fun _ => rfl)
  have n1 : ∀ (i : Nat) (e : mE), hp (fun _ => none) (fun _ _ => 0) (fun _ _ => 0) i = some e → False := fun i e he => by
    have q : (none : Option mE) = some e := he
    cases q
  have n2 : ∀ i : Nat, (hp (fun _ => none) (fun _ _ => 0) (fun _ _ => 0) i).isSome = true → False := fun i hi => by
    have q : false = true := hi
    cases q
  have n3 : ∀ i : Nat, ((fun _ => none : mF) i).isSome = true → False := fun i hi => by
    have q : false = true := hi
    cases q
  have r0 : mRep (fun i => i) (hp (fun _ => none) (fun _ _ => 0) (fun _ _ => 0)) [] := ⟨fun i e he => (n1 i e he).elim, fun i j hi => (n2 i hi).elim, fun i e he => (n1 i e he).elim⟩
  have c0 : mcL (hp (fun _ => none) (fun _ _ => 0) (fun _ _ => 0)) [(0, .retAddr 1)] := fun q hq => by
    rcases List.mem_cons.mp hq with e | e
    · rw [e]
      exact trivial
    · exact absurd e List.not_mem_nil
  have s0 : mcS (hp (fun _ => none) (fun _ _ => 0) (fun _ _ => 0)) [] := fun v hv => absurd hv List.not_mem_nil
  have a0 : mAg (fun _ => none) (fun i => i) (fun i => i) := fun i hi => (n3 i hi).elim
  have d0 : mIn (fun _ => none) (hp (fun _ => none) (fun _ _ => 0) (fun _ _ => 0)) := fun i hi => (n3 i hi).elim
  have k := h (fun i => i) (fun i => i) [] r0 c0 s0 a0 d0
  intro p l e R s m args below meth c Qc XC free D sp A as0 F kq kx
  refine k p l e R s m args below meth c Qc XC free D sp A as0 F ?_ ?_
  · intro as M v w t hP
    refine kq as M v w t ?_
    obtain ⟨π, v1, h1, ⟨sh1, I1, J1, -, hq⟩, -, hv, -⟩ := hP
    have hq1 : v1 = some (.int (Int32.ofInt ((1 : Nat) : Int))) := hq
    rw [hv, hq1]
    have e1 : Int32.ofInt ((1 : Nat) : Int) = 1 := by decide
    rw [e1]
    rfl
  · intro as E M t hP
    obtain ⟨π, h1, hF, -⟩ := hP
    exact hF.elim
end ST2
