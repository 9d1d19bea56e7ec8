section MF4
variable {TT : List Cond} {cl : List vw_C} {X : XT} {mi : MI} {fr lo : Nat} {D : mF} {P : Option Value → mF → Prop} {PX : String → mF → Prop} {kc ks pc : Nat} {L : List (Nat × Value)} {S : List Value} {h : mF}
theorem lf_iaload {i n : Nat} {j : Int32} {f : Nat → Int32} (d : decode mi.2.1 pc = .ok (.iaload, 1)) (hM : h i = some (.inl (.int, n, .inl f))) (hin : vp_in j n) (kk : LXf TT cl X mi fr lo D P PX kc ks (pc + 1) L (.int (f j.toNatClampNeg) :: S) h) : LXf TT cl X mi fr lo D P PX kc ks pc L (.int j :: .ref i :: S) h := by
  intro π0 π M hR hL hS hA hI
  exact lx_iaload (i := π i) (f := f) d (hR.1 _ _ hM) hin (kk π0 π M hR hL (mcS_cons.mpr ⟨trivial, (mcS_cons.mp (mcS_cons.mp hS).2).2⟩) hA hI)
theorem lf_zaload {i n : Nat} {j : Int32} {f : Nat → Int32} (d : decode mi.2.1 pc = .ok (.baload, 1)) (hM : h i = some (.inl (.boolean, n, .inl f))) (hin : vp_in j n) (kk : LXf TT cl X mi fr lo D P PX kc ks (pc + 1) L (.int (f j.toNatClampNeg) :: S) h) : LXf TT cl X mi fr lo D P PX kc ks pc L (.int j :: .ref i :: S) h := by
  intro π0 π M hR hL hS hA hI
  exact lx_zaload (i := π i) (f := f) d (hR.1 _ _ hM) hin (kk π0 π M hR hL (mcS_cons.mpr ⟨trivial, (mcS_cons.mp (mcS_cons.mp hS).2).2⟩) hA hI)
theorem lf_baload {i n : Nat} {j : Int32} {f : Nat → Int32} (d : decode mi.2.1 pc = .ok (.baload, 1)) (hM : h i = some (.inl (.byte, n, .inl f))) (hin : vp_in j n) (kk : LXf TT cl X mi fr lo D P PX kc ks (pc + 1) L (.int (f j.toNatClampNeg) :: S) h) : LXf TT cl X mi fr lo D P PX kc ks pc L (.int j :: .ref i :: S) h := by
  intro π0 π M hR hL hS hA hI
  exact lx_baload (i := π i) (f := f) d (hR.1 _ _ hM) hin (kk π0 π M hR hL (mcS_cons.mpr ⟨trivial, (mcS_cons.mp (mcS_cons.mp hS).2).2⟩) hA hI)
theorem lf_caload {i n : Nat} {j : Int32} {f : Nat → Int32} (d : decode mi.2.1 pc = .ok (.caload, 1)) (hM : h i = some (.inl (.char, n, .inl f))) (hin : vp_in j n) (kk : LXf TT cl X mi fr lo D P PX kc ks (pc + 1) L (.int (f j.toNatClampNeg) :: S) h) : LXf TT cl X mi fr lo D P PX kc ks pc L (.int j :: .ref i :: S) h := by
  intro π0 π M hR hL hS hA hI
  exact lx_caload (i := π i) (f := f) d (hR.1 _ _ hM) hin (kk π0 π M hR hL (mcS_cons.mpr ⟨trivial, (mcS_cons.mp (mcS_cons.mp hS).2).2⟩) hA hI)
theorem lf_laload {i n : Nat} {j : Int32} {f : Nat → Int64} (d : decode mi.2.1 pc = .ok (.laload, 1)) (hM : h i = some (.inl (.long, n, .inr (.inl f)))) (hin : vp_in j n) (kk : LXf TT cl X mi fr lo D P PX kc ks (pc + 1) L (.long (f j.toNatClampNeg) :: S) h) : LXf TT cl X mi fr lo D P PX kc ks pc L (.int j :: .ref i :: S) h := by
  intro π0 π M hR hL hS hA hI
  exact lx_laload (i := π i) (f := f) d (hR.1 _ _ hM) hin (kk π0 π M hR hL (mcS_cons.mpr ⟨trivial, (mcS_cons.mp (mcS_cons.mp hS).2).2⟩) hA hI)
theorem lf_iastore {i n : Nat} {j : Int32} {x : Int32} {f : Nat → Int32} (d : decode mi.2.1 pc = .ok (.iastore, 1)) (hM : h i = some (.inl (.int, n, .inl f))) (hin : vp_in j n) (kk : LXf TT cl X mi fr lo D P PX kc ks (pc + 1) L S (mset h i (.inl (.int, n, .inl (upd f j.toNatClampNeg x))))) : LXf TT cl X mi fr lo D P PX kc ks pc L (.int x :: .int j :: .ref i :: S) h := by
  intro π0 π M hR hL hS hA hI
  exact lx_iastore (i := π i) (f := f) d (hR.1 _ _ hM) hin (kk π0 π _ (rep_set hR hM trivial) (mcL_set hL) (mcS_set (mcS_cons.mp (mcS_cons.mp (mcS_cons.mp hS).2).2).2) hA (mIn_set hI))
theorem lf_zastore {i n : Nat} {j : Int32} {x : Int32} {f : Nat → Int32} (d : decode mi.2.1 pc = .ok (.bastore, 1)) (hM : h i = some (.inl (.boolean, n, .inl f))) (hin : vp_in j n) (kk : LXf TT cl X mi fr lo D P PX kc ks (pc + 1) L S (mset h i (.inl (.boolean, n, .inl (upd f j.toNatClampNeg (vp_nar .boolean x)))))) : LXf TT cl X mi fr lo D P PX kc ks pc L (.int x :: .int j :: .ref i :: S) h := by
  intro π0 π M hR hL hS hA hI
  exact lx_zastore (i := π i) (f := f) d (hR.1 _ _ hM) hin (kk π0 π _ (rep_set hR hM trivial) (mcL_set hL) (mcS_set (mcS_cons.mp (mcS_cons.mp (mcS_cons.mp hS).2).2).2) hA (mIn_set hI))
theorem lf_castore {i n : Nat} {j : Int32} {x : Int32} {f : Nat → Int32} (d : decode mi.2.1 pc = .ok (.castore, 1)) (hM : h i = some (.inl (.char, n, .inl f))) (hin : vp_in j n) (kk : LXf TT cl X mi fr lo D P PX kc ks (pc + 1) L S (mset h i (.inl (.char, n, .inl (upd f j.toNatClampNeg (vp_nar .char x)))))) : LXf TT cl X mi fr lo D P PX kc ks pc L (.int x :: .int j :: .ref i :: S) h := by
  intro π0 π M hR hL hS hA hI
  exact lx_castore (i := π i) (f := f) d (hR.1 _ _ hM) hin (kk π0 π _ (rep_set hR hM trivial) (mcL_set hL) (mcS_set (mcS_cons.mp (mcS_cons.mp (mcS_cons.mp hS).2).2).2) hA (mIn_set hI))
theorem lf_lastore {i n : Nat} {j : Int32} {x : Int64} {f : Nat → Int64} (d : decode mi.2.1 pc = .ok (.lastore, 1)) (hM : h i = some (.inl (.long, n, .inr (.inl f)))) (hin : vp_in j n) (kk : LXf TT cl X mi fr lo D P PX kc ks (pc + 1) L S (mset h i (.inl (.long, n, .inr (.inl (vp_updL f j.toNatClampNeg x)))))) : LXf TT cl X mi fr lo D P PX kc ks pc L (.long x :: .int j :: .ref i :: S) h := by
  intro π0 π M hR hL hS hA hI
  exact lx_lastore (i := π i) (f := f) d (hR.1 _ _ hM) hin (kk π0 π _ (rep_set hR hM trivial) (mcL_set hL) (mcS_set (mcS_cons.mp (mcS_cons.mp (mcS_cons.mp hS).2).2).2) hA (mIn_set hI))
theorem lf_arraylength {i : Nat} {ty : FieldType} {x : vp_A} (d : decode mi.2.1 pc = .ok (.arraylength, 1)) (hM : h i = some (.inl (ty, x))) (kk : LXf TT cl X mi fr lo D P PX kc ks (pc + 1) L (.int (Int32.ofNat x.1) :: S) h) : LXf TT cl X mi fr lo D P PX kc ks pc L (.ref i :: S) h := by
  intro π0 π M hR hL hS hA hI
  exact lx_arraylength (i := π i) (x := rnA π x) d (hR.1 _ _ hM) (kk π0 π M hR hL (mcS_cons.mpr ⟨trivial, (mcS_cons.mp hS).2⟩) hA hI)
theorem lf_newarray_int {n : Int32} {N9 kc ks q : Nat} (d : decode mi.2.1 pc = .ok (.newarray .int, 2)) (ht : Cond.arrayClass .int ∈ TT) (hn : ¬ n < 0) (hN : n.toNatClampNeg = N9) (hb : N9 ≤ 67108864) (hq : h q = none) (kk : LXf TT cl X mi fr lo D P PX kc ks (pc + 2) L (.ref q :: S) (mset h q (.inl (.int, (N9, .inl (fun _ => 0)))))) : LXf TT cl X mi fr lo D P PX (kc + 1) (ks + N9) pc L (.int n :: S) h := by
  intro π0 π M hR hL hS hA hI
  exact lx_newarray_int d ht hn hN hb (lf_alloc hq (e := .inl (.int, (N9, .inl (fun _ => 0)))) trivial kk hR hL (mcS_cons.mp hS).2 hA hI)
theorem lf_newarray_boolean {n : Int32} {N9 kc ks q : Nat} (d : decode mi.2.1 pc = .ok (.newarray .boolean, 2)) (ht : Cond.arrayClass .boolean ∈ TT) (hn : ¬ n < 0) (hN : n.toNatClampNeg = N9) (hb : N9 ≤ 67108864) (hq : h q = none) (kk : LXf TT cl X mi fr lo D P PX kc ks (pc + 2) L (.ref q :: S) (mset h q (.inl (.boolean, (N9, .inl (fun _ => 0)))))) : LXf TT cl X mi fr lo D P PX (kc + 1) (ks + N9) pc L (.int n :: S) h := by
  intro π0 π M hR hL hS hA hI
  exact lx_newarray_boolean d ht hn hN hb (lf_alloc hq (e := .inl (.boolean, (N9, .inl (fun _ => 0)))) trivial kk hR hL (mcS_cons.mp hS).2 hA hI)
theorem lf_newarray_char {n : Int32} {N9 kc ks q : Nat} (d : decode mi.2.1 pc = .ok (.newarray .char, 2)) (ht : Cond.arrayClass .char ∈ TT) (hn : ¬ n < 0) (hN : n.toNatClampNeg = N9) (hb : N9 ≤ 67108864) (hq : h q = none) (kk : LXf TT cl X mi fr lo D P PX kc ks (pc + 2) L (.ref q :: S) (mset h q (.inl (.char, (N9, .inl (fun _ => 0)))))) : LXf TT cl X mi fr lo D P PX (kc + 1) (ks + N9) pc L (.int n :: S) h := by
  intro π0 π M hR hL hS hA hI
  exact lx_newarray_char d ht hn hN hb (lf_alloc hq (e := .inl (.char, (N9, .inl (fun _ => 0)))) trivial kk hR hL (mcS_cons.mp hS).2 hA hI)
theorem lf_newarray_long {n : Int32} {N9 kc ks q : Nat} (d : decode mi.2.1 pc = .ok (.newarray .long, 2)) (ht : Cond.arrayClass .long ∈ TT) (hn : ¬ n < 0) (hN : n.toNatClampNeg = N9) (hb : N9 ≤ 67108864) (hq : h q = none) (kk : LXf TT cl X mi fr lo D P PX kc ks (pc + 2) L (.ref q :: S) (mset h q (.inl (.long, (N9, .inr (.inl (fun _ => 0))))))) : LXf TT cl X mi fr lo D P PX (kc + 1) (ks + N9) pc L (.int n :: S) h := by
  intro π0 π M hR hL hS hA hI
  exact lx_newarray_long d ht hn hN hb (lf_alloc hq (e := .inl (.long, (N9, .inr (.inl (fun _ => 0))))) trivial kk hR hL (mcS_cons.mp hS).2 hA hI)
theorem lf_aald {i n : Nat} {j : Int32} {ty : FieldType} {f : Nat → Option Nat} (hty : ty.isReference = true) (d : decode mi.2.1 pc = .ok (.aaload, 1)) (hM : h i = some (.inl (ty, n, .inr (.inr (.inr (.inr f)))))) (hin : vp_in j n) (kk : LXf TT cl X mi fr lo D P PX kc ks (pc + 1) L (va_rf (f j.toNatClampNeg) :: S) h) : LXf TT cl X mi fr lo D P PX kc ks pc L (.int j :: .ref i :: S) h := by
  intro π0 π M hR hL hS hA hI
  have e1 : rnV π (va_rf (f j.toNatClampNeg)) = va_rf ((f j.toNatClampNeg).map π) := by cases f j.toNatClampNeg <;> rfl
  have hc : mcV h (va_rf (f j.toNatClampNeg)) := by
    cases e : f j.toNatClampNeg with
    | none => trivial
    | some k => exact hR.2.2 _ _ hM _ k e
  have g := kk π0 π M hR hL (mcS_cons.mpr ⟨hc, (mcS_cons.mp (mcS_cons.mp hS).2).2⟩) hA hI
  have e2 : rnS π (va_rf (f j.toNatClampNeg) :: S) = va_rf ((f j.toNatClampNeg).map π) :: rnS π S := by rw [← e1]; rfl
  rw [e2] at g
  exact lx_aald (i := π i) (f := fun j => (f j).map π) hty d (hR.1 _ _ hM) hin g
end MF4
