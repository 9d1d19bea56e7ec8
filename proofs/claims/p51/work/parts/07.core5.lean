section MJ5
theorem mj_qr_rf {as : List Nat} {sp : Nat → Nat} {x y : Option Nat} (h : mj_qr as x y) : mj_vr as sp (va_rf x) (va_rf y) := by
  cases x with
  | none => rw [show y = none from h]; rfl
  | some i => obtain ⟨a, h1, rfl⟩ := h; exact ⟨a, h1, rfl⟩
theorem mj_qr_up {as : List Nat} {f g : Nat → Option Nat} {j k b z : Nat} (hb : as[k]? = some b) (h : mj_qr as (f z) (g z)) : mj_qr as (va_up f j (some k) z) (va_up g j (some b) z) := by
  unfold va_up
  by_cases e : z = j
  · rw [if_pos e, if_pos e]; exact ⟨b, hb, rfl⟩
  · rw [if_neg e, if_neg e]; exact h
theorem mj_WR_ext {D : va_G} {cl : List vw_C} {sp : Nat → Nat} {A : Nat → Prop} {U : State} {as : List Nat} {M : mH} {H H1 : Heap} (hk : ∀ q : Nat, q < H.size → H1[q]? = H[q]?) (h : mj_WR D cl sp A U as M H) : mj_WR D cl sp A U as M H1 := by
  obtain ⟨ws, tys, h1, h2, h3, h4⟩ := h
  exact ⟨ws, tys, h1, fun k q hq => (h2 k q hq).kept (hk _ (vx_lt h2 hq)), h3, h4⟩
variable {TT : List Cond} {cl : List vw_C} {X : XT} {mi : MI} {fr lo : Nat} {P : Option Value → mH → Prop} {PX : String → mH → Prop} {kc ks pc : Nat} {L : List (Nat × Value)} {S : List Value} {M : mH}
theorem lx_iaload {i n : Nat} {j : Int32} {f : Nat → Int32} (d : decode mi.2.1 pc = .ok (.iaload, 1)) (hM : M[i]? = some (.inl (.int, n, .inl f))) (hin : vp_in j n) (kk : LX TT cl X mi fr lo P PX kc ks (pc + 1) L (.int (f j.toNatClampNeg) :: S) M) : LX TT cl X mi fr lo P PX kc ks pc L (.int j :: .ref i :: S) M := by
  intro p l e R s m args below meth c Qc XC free D sp A as0 F kq kx as L1 S1 H locs cells slots ls h0 hW hS hl hL hSt hc hs
  have h9 := mj_al_cons hSt
  clear hSt
  obtain ⟨_, S1, rfl, rfl, hSt⟩ := h9
  have h9 := mj_al_cons hSt
  clear hSt
  obtain ⟨_, S1, rfl, ⟨a, ha, rfl⟩, hSt⟩ := h9
  have hW0 := hW
  obtain ⟨ws, tys, hK, hP, hD, hr⟩ := hW
  obtain ⟨cA, t0, y, h1, h2, h3⟩ := mj_arr hr ha hM
  cases mj_ar_i h3
  exact va_iald F.1 F.2.1 hK hP i t0 h1 h2 hin d (kk p l e R s m args below meth c Qc XC free D sp A as0 F kq kx as L1 _ H locs cells slots ls h0 hW0 hS hl hL ⟨rfl, hSt⟩ hc hs)
theorem lx_zaload {i n : Nat} {j : Int32} {f : Nat → Int32} (d : decode mi.2.1 pc = .ok (.baload, 1)) (hM : M[i]? = some (.inl (.boolean, n, .inl f))) (hin : vp_in j n) (kk : LX TT cl X mi fr lo P PX kc ks (pc + 1) L (.int (f j.toNatClampNeg) :: S) M) : LX TT cl X mi fr lo P PX kc ks pc L (.int j :: .ref i :: S) M := by
  intro p l e R s m args below meth c Qc XC free D sp A as0 F kq kx as L1 S1 H locs cells slots ls h0 hW hS hl hL hSt hc hs
  have h9 := mj_al_cons hSt
  clear hSt
  obtain ⟨_, S1, rfl, rfl, hSt⟩ := h9
  have h9 := mj_al_cons hSt
  clear hSt
  obtain ⟨_, S1, rfl, ⟨a, ha, rfl⟩, hSt⟩ := h9
  have hW0 := hW
  obtain ⟨ws, tys, hK, hP, hD, hr⟩ := hW
  obtain ⟨cA, t0, y, h1, h2, h3⟩ := mj_arr hr ha hM
  cases mj_ar_i h3
  exact va_zald F.1 F.2.1 hK hP i t0 h1 h2 hin d (kk p l e R s m args below meth c Qc XC free D sp A as0 F kq kx as L1 _ H locs cells slots ls h0 hW0 hS hl hL ⟨rfl, hSt⟩ hc hs)
theorem lx_baload {i n : Nat} {j : Int32} {f : Nat → Int32} (d : decode mi.2.1 pc = .ok (.baload, 1)) (hM : M[i]? = some (.inl (.byte, n, .inl f))) (hin : vp_in j n) (kk : LX TT cl X mi fr lo P PX kc ks (pc + 1) L (.int (f j.toNatClampNeg) :: S) M) : LX TT cl X mi fr lo P PX kc ks pc L (.int j :: .ref i :: S) M := by
  intro p l e R s m args below meth c Qc XC free D sp A as0 F kq kx as L1 S1 H locs cells slots ls h0 hW hS hl hL hSt hc hs
  have h9 := mj_al_cons hSt
  clear hSt
  obtain ⟨_, S1, rfl, rfl, hSt⟩ := h9
  have h9 := mj_al_cons hSt
  clear hSt
  obtain ⟨_, S1, rfl, ⟨a, ha, rfl⟩, hSt⟩ := h9
  have hW0 := hW
  obtain ⟨ws, tys, hK, hP, hD, hr⟩ := hW
  obtain ⟨cA, t0, y, h1, h2, h3⟩ := mj_arr hr ha hM
  cases mj_ar_i h3
  exact va_bald F.1 F.2.1 hK hP i t0 h1 h2 hin d (kk p l e R s m args below meth c Qc XC free D sp A as0 F kq kx as L1 _ H locs cells slots ls h0 hW0 hS hl hL ⟨rfl, hSt⟩ hc hs)
theorem lx_caload {i n : Nat} {j : Int32} {f : Nat → Int32} (d : decode mi.2.1 pc = .ok (.caload, 1)) (hM : M[i]? = some (.inl (.char, n, .inl f))) (hin : vp_in j n) (kk : LX TT cl X mi fr lo P PX kc ks (pc + 1) L (.int (f j.toNatClampNeg) :: S) M) : LX TT cl X mi fr lo P PX kc ks pc L (.int j :: .ref i :: S) M := by
  intro p l e R s m args below meth c Qc XC free D sp A as0 F kq kx as L1 S1 H locs cells slots ls h0 hW hS hl hL hSt hc hs
  have h9 := mj_al_cons hSt
  clear hSt
  obtain ⟨_, S1, rfl, rfl, hSt⟩ := h9
  have h9 := mj_al_cons hSt
  clear hSt
  obtain ⟨_, S1, rfl, ⟨a, ha, rfl⟩, hSt⟩ := h9
  have hW0 := hW
  obtain ⟨ws, tys, hK, hP, hD, hr⟩ := hW
  obtain ⟨cA, t0, y, h1, h2, h3⟩ := mj_arr hr ha hM
  cases mj_ar_i h3
  exact va_cald F.1 F.2.1 hK hP i t0 h1 h2 hin d (kk p l e R s m args below meth c Qc XC free D sp A as0 F kq kx as L1 _ H locs cells slots ls h0 hW0 hS hl hL ⟨rfl, hSt⟩ hc hs)
theorem lx_laload {i n : Nat} {j : Int32} {f : Nat → Int64} (d : decode mi.2.1 pc = .ok (.laload, 1)) (hM : M[i]? = some (.inl (.long, n, .inr (.inl f)))) (hin : vp_in j n) (kk : LX TT cl X mi fr lo P PX kc ks (pc + 1) L (.long (f j.toNatClampNeg) :: S) M) : LX TT cl X mi fr lo P PX kc ks pc L (.int j :: .ref i :: S) M := by
  intro p l e R s m args below meth c Qc XC free D sp A as0 F kq kx as L1 S1 H locs cells slots ls h0 hW hS hl hL hSt hc hs
  have h9 := mj_al_cons hSt
  clear hSt
  obtain ⟨_, S1, rfl, rfl, hSt⟩ := h9
  have h9 := mj_al_cons hSt
  clear hSt
  obtain ⟨_, S1, rfl, ⟨a, ha, rfl⟩, hSt⟩ := h9
  have hW0 := hW
  obtain ⟨ws, tys, hK, hP, hD, hr⟩ := hW
  obtain ⟨cA, t0, y, h1, h2, h3⟩ := mj_arr hr ha hM
  cases mj_ar_l h3
  exact va_lald F.1 F.2.1 hK hP i t0 h1 h2 hin d (kk p l e R s m args below meth c Qc XC free D sp A as0 F kq kx as L1 _ H locs cells slots ls h0 hW0 hS hl hL ⟨rfl, hSt⟩ hc hs)
theorem lx_iastore {i n : Nat} {j : Int32} {x : Int32} {f : Nat → Int32} (d : decode mi.2.1 pc = .ok (.iastore, 1)) (hM : M[i]? = some (.inl (.int, n, .inl f))) (hin : vp_in j n) (kk : LX TT cl X mi fr lo P PX kc ks (pc + 1) L S (M.set i (.inl (.int, n, .inl (upd f j.toNatClampNeg x))))) : LX TT cl X mi fr lo P PX kc ks pc L (.int x :: .int j :: .ref i :: S) M := by
  intro p l e R s m args below meth c Qc XC free D sp A as0 F kq kx as L1 S1 H locs cells slots ls h0 hW hS hl hL hSt hc hs
  have h9 := mj_al_cons hSt
  clear hSt
  obtain ⟨_, S1, rfl, rfl, hSt⟩ := h9
  have h9 := mj_al_cons hSt
  clear hSt
  obtain ⟨_, S1, rfl, rfl, hSt⟩ := h9
  have h9 := mj_al_cons hSt
  clear hSt
  obtain ⟨_, S1, rfl, ⟨a, ha, rfl⟩, hSt⟩ := h9
  have hW0 := hW
  obtain ⟨ws, tys, hK, hP, hD, hr⟩ := hW
  obtain ⟨cA, t0, y, h1, h2, h3⟩ := mj_arr hr ha hM
  cases mj_ar_i h3
  exact va_iast F.1 F.2.1 hK hP hD hS i t0 h1 h2 hin d (fun H1 locs1 hP1 hD1 hS1 => kk p l e R s m args below meth c Qc XC free D sp A as0 F kq kx as L1 _ H1 locs1 cells slots ls h0 ⟨_, tys, hK, hP1, hD1, mj_hr_set hr ha ⟨⟨t0, h2⟩, rfl, rfl⟩⟩ hS1 hl hL hSt hc hs)
theorem lx_zastore {i n : Nat} {j : Int32} {x : Int32} {f : Nat → Int32} (d : decode mi.2.1 pc = .ok (.bastore, 1)) (hM : M[i]? = some (.inl (.boolean, n, .inl f))) (hin : vp_in j n) (kk : LX TT cl X mi fr lo P PX kc ks (pc + 1) L S (M.set i (.inl (.boolean, n, .inl (upd f j.toNatClampNeg (vp_nar .boolean x)))))) : LX TT cl X mi fr lo P PX kc ks pc L (.int x :: .int j :: .ref i :: S) M := by
  intro p l e R s m args below meth c Qc XC free D sp A as0 F kq kx as L1 S1 H locs cells slots ls h0 hW hS hl hL hSt hc hs
  have h9 := mj_al_cons hSt
  clear hSt
  obtain ⟨_, S1, rfl, rfl, hSt⟩ := h9
  have h9 := mj_al_cons hSt
  clear hSt
  obtain ⟨_, S1, rfl, rfl, hSt⟩ := h9
  have h9 := mj_al_cons hSt
  clear hSt
  obtain ⟨_, S1, rfl, ⟨a, ha, rfl⟩, hSt⟩ := h9
  have hW0 := hW
  obtain ⟨ws, tys, hK, hP, hD, hr⟩ := hW
  obtain ⟨cA, t0, y, h1, h2, h3⟩ := mj_arr hr ha hM
  cases mj_ar_i h3
  exact va_zast F.1 F.2.1 hK hP hD hS i t0 h1 h2 hin d (fun H1 locs1 hP1 hD1 hS1 => kk p l e R s m args below meth c Qc XC free D sp A as0 F kq kx as L1 _ H1 locs1 cells slots ls h0 ⟨_, tys, hK, hP1, hD1, mj_hr_set hr ha ⟨⟨t0, h2⟩, rfl, rfl⟩⟩ hS1 hl hL hSt hc hs)
theorem lx_bastore {i n : Nat} {j : Int32} {x : Int32} {f : Nat → Int32} (d : decode mi.2.1 pc = .ok (.bastore, 1)) (hM : M[i]? = some (.inl (.byte, n, .inl f))) (hin : vp_in j n) (kk : LX TT cl X mi fr lo P PX kc ks (pc + 1) L S (M.set i (.inl (.byte, n, .inl (upd f j.toNatClampNeg (vp_nar .byte x)))))) : LX TT cl X mi fr lo P PX kc ks pc L (.int x :: .int j :: .ref i :: S) M := by
  intro p l e R s m args below meth c Qc XC free D sp A as0 F kq kx as L1 S1 H locs cells slots ls h0 hW hS hl hL hSt hc hs
  have h9 := mj_al_cons hSt
  clear hSt
  obtain ⟨_, S1, rfl, rfl, hSt⟩ := h9
  have h9 := mj_al_cons hSt
  clear hSt
  obtain ⟨_, S1, rfl, rfl, hSt⟩ := h9
  have h9 := mj_al_cons hSt
  clear hSt
  obtain ⟨_, S1, rfl, ⟨a, ha, rfl⟩, hSt⟩ := h9
  have hW0 := hW
  obtain ⟨ws, tys, hK, hP, hD, hr⟩ := hW
  obtain ⟨cA, t0, y, h1, h2, h3⟩ := mj_arr hr ha hM
  cases mj_ar_i h3
  exact va_bast F.1 F.2.1 hK hP hD hS i t0 h1 h2 hin d (fun H1 locs1 hP1 hD1 hS1 => kk p l e R s m args below meth c Qc XC free D sp A as0 F kq kx as L1 _ H1 locs1 cells slots ls h0 ⟨_, tys, hK, hP1, hD1, mj_hr_set hr ha ⟨⟨t0, h2⟩, rfl, rfl⟩⟩ hS1 hl hL hSt hc hs)
theorem lx_castore {i n : Nat} {j : Int32} {x : Int32} {f : Nat → Int32} (d : decode mi.2.1 pc = .ok (.castore, 1)) (hM : M[i]? = some (.inl (.char, n, .inl f))) (hin : vp_in j n) (kk : LX TT cl X mi fr lo P PX kc ks (pc + 1) L S (M.set i (.inl (.char, n, .inl (upd f j.toNatClampNeg (vp_nar .char x)))))) : LX TT cl X mi fr lo P PX kc ks pc L (.int x :: .int j :: .ref i :: S) M := by
  intro p l e R s m args below meth c Qc XC free D sp A as0 F kq kx as L1 S1 H locs cells slots ls h0 hW hS hl hL hSt hc hs
  have h9 := mj_al_cons hSt
  clear hSt
  obtain ⟨_, S1, rfl, rfl, hSt⟩ := h9
  have h9 := mj_al_cons hSt
  clear hSt
  obtain ⟨_, S1, rfl, rfl, hSt⟩ := h9
  have h9 := mj_al_cons hSt
  clear hSt
  obtain ⟨_, S1, rfl, ⟨a, ha, rfl⟩, hSt⟩ := h9
  have hW0 := hW
  obtain ⟨ws, tys, hK, hP, hD, hr⟩ := hW
  obtain ⟨cA, t0, y, h1, h2, h3⟩ := mj_arr hr ha hM
  cases mj_ar_i h3
  exact va_cast F.1 F.2.1 hK hP hD hS i t0 h1 h2 hin d (fun H1 locs1 hP1 hD1 hS1 => kk p l e R s m args below meth c Qc XC free D sp A as0 F kq kx as L1 _ H1 locs1 cells slots ls h0 ⟨_, tys, hK, hP1, hD1, mj_hr_set hr ha ⟨⟨t0, h2⟩, rfl, rfl⟩⟩ hS1 hl hL hSt hc hs)
theorem lx_lastore {i n : Nat} {j : Int32} {x : Int64} {f : Nat → Int64} (d : decode mi.2.1 pc = .ok (.lastore, 1)) (hM : M[i]? = some (.inl (.long, n, .inr (.inl f)))) (hin : vp_in j n) (kk : LX TT cl X mi fr lo P PX kc ks (pc + 1) L S (M.set i (.inl (.long, n, .inr (.inl (vp_updL f j.toNatClampNeg x)))))) : LX TT cl X mi fr lo P PX kc ks pc L (.long x :: .int j :: .ref i :: S) M := by
  intro p l e R s m args below meth c Qc XC free D sp A as0 F kq kx as L1 S1 H locs cells slots ls h0 hW hS hl hL hSt hc hs
  have h9 := mj_al_cons hSt
  clear hSt
  obtain ⟨_, S1, rfl, rfl, hSt⟩ := h9
  have h9 := mj_al_cons hSt
  clear hSt
  obtain ⟨_, S1, rfl, rfl, hSt⟩ := h9
  have h9 := mj_al_cons hSt
  clear hSt
  obtain ⟨_, S1, rfl, ⟨a, ha, rfl⟩, hSt⟩ := h9
  have hW0 := hW
  obtain ⟨ws, tys, hK, hP, hD, hr⟩ := hW
  obtain ⟨cA, t0, y, h1, h2, h3⟩ := mj_arr hr ha hM
  cases mj_ar_l h3
  exact va_last F.1 F.2.1 hK hP hD hS i t0 h1 h2 hin d (fun H1 locs1 hP1 hD1 hS1 => kk p l e R s m args below meth c Qc XC free D sp A as0 F kq kx as L1 _ H1 locs1 cells slots ls h0 ⟨_, tys, hK, hP1, hD1, mj_hr_set hr ha ⟨⟨t0, h2⟩, rfl, rfl⟩⟩ hS1 hl hL hSt hc hs)
theorem lx_dastore {i n : Nat} {j : Int32} {x : UInt64} {f : Nat → UInt64} (d : decode mi.2.1 pc = .ok (.dastore, 1)) (hM : M[i]? = some (.inl (.double, n, .inr (.inr (.inr (.inl f)))))) (hin : vp_in j n) (kk : LX TT cl X mi fr lo P PX kc ks (pc + 1) L S (M.set i (.inl (.double, n, .inr (.inr (.inr (.inl (vf_upd f j.toNatClampNeg x)))))))) : LX TT cl X mi fr lo P PX kc ks pc L (.double x :: .int j :: .ref i :: S) M := by
  intro p l e R s m args below meth c Qc XC free D sp A as0 F kq kx as L1 S1 H locs cells slots ls h0 hW hS hl hL hSt hc hs
  have h9 := mj_al_cons hSt
  clear hSt
  obtain ⟨_, S1, rfl, rfl, hSt⟩ := h9
  have h9 := mj_al_cons hSt
  clear hSt
  obtain ⟨_, S1, rfl, rfl, hSt⟩ := h9
  have h9 := mj_al_cons hSt
  clear hSt
  obtain ⟨_, S1, rfl, ⟨a, ha, rfl⟩, hSt⟩ := h9
  have hW0 := hW
  obtain ⟨ws, tys, hK, hP, hD, hr⟩ := hW
  obtain ⟨cA, t0, y, h1, h2, h3⟩ := mj_arr hr ha hM
  cases mj_ar_d h3
  exact va_dast F.1 F.2.1 hK hP hD hS i t0 h1 h2 hin d (fun H1 locs1 hP1 hD1 hS1 => kk p l e R s m args below meth c Qc XC free D sp A as0 F kq kx as L1 _ H1 locs1 cells slots ls h0 ⟨_, tys, hK, hP1, hD1, mj_hr_set hr ha ⟨⟨t0, h2⟩, rfl, rfl⟩⟩ hS1 hl hL hSt hc hs)
theorem lx_arraylength {i : Nat} {ty : FieldType} {x : vp_A} (d : decode mi.2.1 pc = .ok (.arraylength, 1)) (hM : M[i]? = some (.inl (ty, x))) (kk : LX TT cl X mi fr lo P PX kc ks (pc + 1) L (.int (Int32.ofNat x.1) :: S) M) : LX TT cl X mi fr lo P PX kc ks pc L (.ref i :: S) M := by
  intro p l e R s m args below meth c Qc XC free D sp A as0 F kq kx as L1 S1 H locs cells slots ls h0 hW hS hl hL hSt hc hs
  have h9 := mj_al_cons hSt
  clear hSt
  obtain ⟨_, S1, rfl, ⟨a, ha, rfl⟩, hSt⟩ := h9
  have hW0 := hW
  obtain ⟨ws, tys, hK, hP, hD, hr⟩ := hW
  obtain ⟨cA, t0, y, h1, h2, h3⟩ := mj_arr hr ha hM
  exact va_alen F.1 F.2.1 hK hP i t0 h1 h2 (by rw [mj_ar_len h3]) d (kk p l e R s m args below meth c Qc XC free D sp A as0 F kq kx as L1 _ H locs cells slots ls h0 hW0 hS hl hL ⟨rfl, hSt⟩ hc hs)
theorem lx_newarray_int {n : Int32} {N9 kc ks : Nat} (d : decode mi.2.1 pc = .ok (.newarray .int, 2)) (ht : Cond.arrayClass .int ∈ TT) (hn : ¬ n < 0) (hN : n.toNatClampNeg = N9) (hb : N9 ≤ 67108864) (kk : LX TT cl X mi fr lo P PX kc ks (pc + 2) L (.ref M.length :: S) (M ++ [.inl (.int, (N9, .inl (fun _ => 0)))])) : LX TT cl X mi fr lo P PX (kc + 1) (ks + N9) pc L (.int n :: S) M := by
  intro p l e R s m args below meth c Qc XC free D sp A as0 F kq kx as L1 S1 H locs cells slots ls h0 hW hS hl hL hSt hc hs
  have h9 := mj_al_cons hSt
  clear hSt
  obtain ⟨_, S1, rfl, rfl, hSt⟩ := h9
  obtain ⟨ws, tys, hK, hP, hD, hr⟩ := hW
  refine va_newa (atype := .int) (a0 := (N9, .inl (fun _ => 0))) F.1 F.2.1 (F.2.2.2.2.1 _ ht) rfl hK hP hD hS F.2.2.2.2.2.2.2.2.2.2.2.2.1 (fun cA => rfl) hn hN (by show N9 * 4 ≤ _; omega) (by omega) (by omega) d (fun q cA H1 hK1 hP1 hD1 hS1 => ?_)
  have hle : mj_le as (as ++ [q]) := mj_le_app
  exact kk p l e R s m args below meth c Qc XC free D sp A as0 F kq kx (as ++ [q]) L1 _ H1 locs (cells + 1) (slots + N9) ls (mj_le_tr h0 hle) (mj_WR_push hK1 hP1 hD1 hr (fun i z hz => by rw [List.getElem?_append_left (List.getElem?_eq_some_iff.mp hz).1]; exact hz) ⟨⟨tys.length, by simp; rfl⟩, rfl, rfl⟩) hS1 hl (mj_al_mono (fun _ _ h => mj_lr_mono hle h) hL)
    ⟨⟨q, by rw [← hr.1]; simp, rfl⟩, mj_al_mono (fun _ _ h => mj_vr_mono hle h) hSt⟩ (by omega) (by omega)
theorem lx_newarray_boolean {n : Int32} {N9 kc ks : Nat} (d : decode mi.2.1 pc = .ok (.newarray .boolean, 2)) (ht : Cond.arrayClass .boolean ∈ TT) (hn : ¬ n < 0) (hN : n.toNatClampNeg = N9) (hb : N9 ≤ 67108864) (kk : LX TT cl X mi fr lo P PX kc ks (pc + 2) L (.ref M.length :: S) (M ++ [.inl (.boolean, (N9, .inl (fun _ => 0)))])) : LX TT cl X mi fr lo P PX (kc + 1) (ks + N9) pc L (.int n :: S) M := by
  intro p l e R s m args below meth c Qc XC free D sp A as0 F kq kx as L1 S1 H locs cells slots ls h0 hW hS hl hL hSt hc hs
  have h9 := mj_al_cons hSt
  clear hSt
  obtain ⟨_, S1, rfl, rfl, hSt⟩ := h9
  obtain ⟨ws, tys, hK, hP, hD, hr⟩ := hW
  refine va_newa (atype := .boolean) (a0 := (N9, .inl (fun _ => 0))) F.1 F.2.1 (F.2.2.2.2.1 _ ht) rfl hK hP hD hS F.2.2.2.2.2.2.2.2.2.2.2.2.1 (fun cA => rfl) hn hN (by show N9 * 1 ≤ _; omega) (by omega) (by omega) d (fun q cA H1 hK1 hP1 hD1 hS1 => ?_)
  have hle : mj_le as (as ++ [q]) := mj_le_app
  exact kk p l e R s m args below meth c Qc XC free D sp A as0 F kq kx (as ++ [q]) L1 _ H1 locs (cells + 1) (slots + N9) ls (mj_le_tr h0 hle) (mj_WR_push hK1 hP1 hD1 hr (fun i z hz => by rw [List.getElem?_append_left (List.getElem?_eq_some_iff.mp hz).1]; exact hz) ⟨⟨tys.length, by simp; rfl⟩, rfl, rfl⟩) hS1 hl (mj_al_mono (fun _ _ h => mj_lr_mono hle h) hL)
    ⟨⟨q, by rw [← hr.1]; simp, rfl⟩, mj_al_mono (fun _ _ h => mj_vr_mono hle h) hSt⟩ (by omega) (by omega)
theorem lx_newarray_char {n : Int32} {N9 kc ks : Nat} (d : decode mi.2.1 pc = .ok (.newarray .char, 2)) (ht : Cond.arrayClass .char ∈ TT) (hn : ¬ n < 0) (hN : n.toNatClampNeg = N9) (hb : N9 ≤ 67108864) (kk : LX TT cl X mi fr lo P PX kc ks (pc + 2) L (.ref M.length :: S) (M ++ [.inl (.char, (N9, .inl (fun _ => 0)))])) : LX TT cl X mi fr lo P PX (kc + 1) (ks + N9) pc L (.int n :: S) M := by
  intro p l e R s m args below meth c Qc XC free D sp A as0 F kq kx as L1 S1 H locs cells slots ls h0 hW hS hl hL hSt hc hs
  have h9 := mj_al_cons hSt
  clear hSt
  obtain ⟨_, S1, rfl, rfl, hSt⟩ := h9
  obtain ⟨ws, tys, hK, hP, hD, hr⟩ := hW
  refine va_newa (atype := .char) (a0 := (N9, .inl (fun _ => 0))) F.1 F.2.1 (F.2.2.2.2.1 _ ht) rfl hK hP hD hS F.2.2.2.2.2.2.2.2.2.2.2.2.1 (fun cA => rfl) hn hN (by show N9 * 2 ≤ _; omega) (by omega) (by omega) d (fun q cA H1 hK1 hP1 hD1 hS1 => ?_)
  have hle : mj_le as (as ++ [q]) := mj_le_app
  exact kk p l e R s m args below meth c Qc XC free D sp A as0 F kq kx (as ++ [q]) L1 _ H1 locs (cells + 1) (slots + N9) ls (mj_le_tr h0 hle) (mj_WR_push hK1 hP1 hD1 hr (fun i z hz => by rw [List.getElem?_append_left (List.getElem?_eq_some_iff.mp hz).1]; exact hz) ⟨⟨tys.length, by simp; rfl⟩, rfl, rfl⟩) hS1 hl (mj_al_mono (fun _ _ h => mj_lr_mono hle h) hL)
    ⟨⟨q, by rw [← hr.1]; simp, rfl⟩, mj_al_mono (fun _ _ h => mj_vr_mono hle h) hSt⟩ (by omega) (by omega)
theorem lx_newarray_byte {n : Int32} {N9 kc ks : Nat} (d : decode mi.2.1 pc = .ok (.newarray .byte, 2)) (ht : Cond.arrayClass .byte ∈ TT) (hn : ¬ n < 0) (hN : n.toNatClampNeg = N9) (hb : N9 ≤ 67108864) (kk : LX TT cl X mi fr lo P PX kc ks (pc + 2) L (.ref M.length :: S) (M ++ [.inl (.byte, (N9, .inl (fun _ => 0)))])) : LX TT cl X mi fr lo P PX (kc + 1) (ks + N9) pc L (.int n :: S) M := by
  intro p l e R s m args below meth c Qc XC free D sp A as0 F kq kx as L1 S1 H locs cells slots ls h0 hW hS hl hL hSt hc hs
  have h9 := mj_al_cons hSt
  clear hSt
  obtain ⟨_, S1, rfl, rfl, hSt⟩ := h9
  obtain ⟨ws, tys, hK, hP, hD, hr⟩ := hW
  refine va_newa (atype := .byte) (a0 := (N9, .inl (fun _ => 0))) F.1 F.2.1 (F.2.2.2.2.1 _ ht) rfl hK hP hD hS F.2.2.2.2.2.2.2.2.2.2.2.2.1 (fun cA => rfl) hn hN (by show N9 * 1 ≤ _; omega) (by omega) (by omega) d (fun q cA H1 hK1 hP1 hD1 hS1 => ?_)
  have hle : mj_le as (as ++ [q]) := mj_le_app
  exact kk p l e R s m args below meth c Qc XC free D sp A as0 F kq kx (as ++ [q]) L1 _ H1 locs (cells + 1) (slots + N9) ls (mj_le_tr h0 hle) (mj_WR_push hK1 hP1 hD1 hr (fun i z hz => by rw [List.getElem?_append_left (List.getElem?_eq_some_iff.mp hz).1]; exact hz) ⟨⟨tys.length, by simp; rfl⟩, rfl, rfl⟩) hS1 hl (mj_al_mono (fun _ _ h => mj_lr_mono hle h) hL)
    ⟨⟨q, by rw [← hr.1]; simp, rfl⟩, mj_al_mono (fun _ _ h => mj_vr_mono hle h) hSt⟩ (by omega) (by omega)
theorem lx_newarray_long {n : Int32} {N9 kc ks : Nat} (d : decode mi.2.1 pc = .ok (.newarray .long, 2)) (ht : Cond.arrayClass .long ∈ TT) (hn : ¬ n < 0) (hN : n.toNatClampNeg = N9) (hb : N9 ≤ 67108864) (kk : LX TT cl X mi fr lo P PX kc ks (pc + 2) L (.ref M.length :: S) (M ++ [.inl (.long, (N9, .inr (.inl (fun _ => 0))))])) : LX TT cl X mi fr lo P PX (kc + 1) (ks + N9) pc L (.int n :: S) M := by
  intro p l e R s m args below meth c Qc XC free D sp A as0 F kq kx as L1 S1 H locs cells slots ls h0 hW hS hl hL hSt hc hs
  have h9 := mj_al_cons hSt
  clear hSt
  obtain ⟨_, S1, rfl, rfl, hSt⟩ := h9
  obtain ⟨ws, tys, hK, hP, hD, hr⟩ := hW
  refine va_newa (atype := .long) (a0 := (N9, .inr (.inl (fun _ => 0)))) F.1 F.2.1 (F.2.2.2.2.1 _ ht) rfl hK hP hD hS F.2.2.2.2.2.2.2.2.2.2.2.2.1 (fun cA => rfl) hn hN (by show N9 * 8 ≤ _; omega) (by omega) (by omega) d (fun q cA H1 hK1 hP1 hD1 hS1 => ?_)
  have hle : mj_le as (as ++ [q]) := mj_le_app
  exact kk p l e R s m args below meth c Qc XC free D sp A as0 F kq kx (as ++ [q]) L1 _ H1 locs (cells + 1) (slots + N9) ls (mj_le_tr h0 hle) (mj_WR_push hK1 hP1 hD1 hr (fun i z hz => by rw [List.getElem?_append_left (List.getElem?_eq_some_iff.mp hz).1]; exact hz) ⟨⟨tys.length, by simp; rfl⟩, rfl, rfl⟩) hS1 hl (mj_al_mono (fun _ _ h => mj_lr_mono hle h) hL)
    ⟨⟨q, by rw [← hr.1]; simp, rfl⟩, mj_al_mono (fun _ _ h => mj_vr_mono hle h) hSt⟩ (by omega) (by omega)
theorem lx_newarray_double {n : Int32} {N9 kc ks : Nat} (d : decode mi.2.1 pc = .ok (.newarray .double, 2)) (ht : Cond.arrayClass .double ∈ TT) (hn : ¬ n < 0) (hN : n.toNatClampNeg = N9) (hb : N9 ≤ 67108864) (kk : LX TT cl X mi fr lo P PX kc ks (pc + 2) L (.ref M.length :: S) (M ++ [.inl (.double, (N9, .inr (.inr (.inr (.inl (fun _ => 0))))))])) : LX TT cl X mi fr lo P PX (kc + 1) (ks + N9) pc L (.int n :: S) M := by
  intro p l e R s m args below meth c Qc XC free D sp A as0 F kq kx as L1 S1 H locs cells slots ls h0 hW hS hl hL hSt hc hs
  have h9 := mj_al_cons hSt
  clear hSt
  obtain ⟨_, S1, rfl, rfl, hSt⟩ := h9
  obtain ⟨ws, tys, hK, hP, hD, hr⟩ := hW
  refine va_newa (atype := .double) (a0 := (N9, .inr (.inr (.inr (.inl (fun _ => 0)))))) F.1 F.2.1 (F.2.2.2.2.1 _ ht) rfl hK hP hD hS F.2.2.2.2.2.2.2.2.2.2.2.2.1 (fun cA => rfl) hn hN (by show N9 * 8 ≤ _; omega) (by omega) (by omega) d (fun q cA H1 hK1 hP1 hD1 hS1 => ?_)
  have hle : mj_le as (as ++ [q]) := mj_le_app
  exact kk p l e R s m args below meth c Qc XC free D sp A as0 F kq kx (as ++ [q]) L1 _ H1 locs (cells + 1) (slots + N9) ls (mj_le_tr h0 hle) (mj_WR_push hK1 hP1 hD1 hr (fun i z hz => by rw [List.getElem?_append_left (List.getElem?_eq_some_iff.mp hz).1]; exact hz) ⟨⟨tys.length, by simp; rfl⟩, rfl, rfl⟩) hS1 hl (mj_al_mono (fun _ _ h => mj_lr_mono hle h) hL)
    ⟨⟨q, by rw [← hr.1]; simp, rfl⟩, mj_al_mono (fun _ _ h => mj_vr_mono hle h) hSt⟩ (by omega) (by omega)
theorem lx_aaload {i n : Nat} {j : Int32} {C : String} {f : Nat → Option Nat} (d : decode mi.2.1 pc = .ok (.aaload, 1)) (hM : M[i]? = some (.inl (.object C, n, .inr (.inr (.inr (.inr f)))))) (hin : vp_in j n) (kk : LX TT cl X mi fr lo P PX kc ks (pc + 1) L (va_rf (f j.toNatClampNeg) :: S) M) : LX TT cl X mi fr lo P PX kc ks pc L (.int j :: .ref i :: S) M := by
  intro p l e R s m args below meth c Qc XC free D sp A as0 F kq kx as L1 S1 H locs cells slots ls h0 hW hS hl hL hSt hc hs
  have h9 := mj_al_cons hSt
  clear hSt
  obtain ⟨_, S1, rfl, rfl, hSt⟩ := h9
  have h9 := mj_al_cons hSt
  clear hSt
  obtain ⟨_, S1, rfl, ⟨a, ha, rfl⟩, hSt⟩ := h9
  have hW0 := hW
  obtain ⟨ws, tys, hK, hP, hD, hr⟩ := hW
  obtain ⟨cA, t0, y, h1, h2, h3⟩ := mj_arr hr ha hM
  obtain ⟨g, rfl, h4⟩ := mj_ar_q h3
  exact va_aldq F.1 F.2.1 hK hP i t0 h1 h2 hin d (kk p l e R s m args below meth c Qc XC free D sp A as0 F kq kx as L1 _ H locs cells slots ls h0 hW0 hS hl hL ⟨mj_qr_rf (h4 _), hSt⟩ hc hs)
theorem lx_aastore {i n k ci N9 : Nat} {j : Int32} {C : String} {T9 : u_T} {vs : List Value} {f : Nat → Option Nat} (d : decode mi.2.1 pc = .ok (.aastore, 1)) (hM : M[i]? = some (.inl (.object C, n, .inr (.inr (.inr (.inr f)))))) (hk : M[k]? = some (.inr (ci, vs))) (hcl : cl[ci]? = some (C, T9, N9)) (hin : vp_in j n) (kk : LX TT cl X mi fr lo P PX kc ks (pc + 1) L S (M.set i (.inl (.object C, n, .inr (.inr (.inr (.inr (va_up f j.toNatClampNeg (some k))))))))) : LX TT cl X mi fr lo P PX kc ks pc L (.ref k :: .int j :: .ref i :: S) M := by
  intro p l e R s m args below meth c Qc XC free D sp A as0 F kq kx as L1 S1 H locs cells slots ls h0 hW hS hl hL hSt hc hs
  have h9 := mj_al_cons hSt
  clear hSt
  obtain ⟨_, S1, rfl, ⟨b, hb, rfl⟩, hSt⟩ := h9
  have h9 := mj_al_cons hSt
  clear hSt
  obtain ⟨_, S1, rfl, rfl, hSt⟩ := h9
  have h9 := mj_al_cons hSt
  clear hSt
  obtain ⟨_, S1, rfl, ⟨a, ha, rfl⟩, hSt⟩ := h9
  have hW0 := hW
  obtain ⟨ws, tys, hK, hP, hD, hr⟩ := hW
  obtain ⟨cA, t0, y, h1, h2, h3⟩ := mj_arr hr ha hM
  obtain ⟨g, rfl, h4⟩ := mj_ar_q h3
  obtain ⟨gs, h5, h6⟩ := mj_obj hr hb hk
  exact va_astq F.1 F.2.1 hK hP hD hS i t0 k ci (r := (C, T9, N9)) h1 h2 h5 hcl hin d (fun H1 locs1 hP1 hD1 hS1 => kk p l e R s m args below meth c Qc XC free D sp A as0 F kq kx as L1 _ H1 locs1 cells slots ls h0 ⟨_, tys, hK, hP1, hD1, mj_hr_set hr ha ⟨⟨t0, h2⟩, rfl, fun z => mj_qr_up hb (h4 z)⟩⟩ hS1 hl hL hSt hc hs)
/-- what X has to give for throwing -/
def mj_XT (X : XT) : Prop := ∀ (A : Nat → Prop) (sp : Nat → Nat) (U : State) (H : Heap), X A sp U H → vx_Zq Bundle.tN "UNASSIGNED_STACK" Bundle.steD A U H ∧ vx_Zq Bundle.tN "SUPPRESSED_SENTINEL" Bundle.listD A U H
def mj_XS (X : XT) (own : String) (k : Nat) (tx : String) : Prop := ∀ (A : Nat → Prop) (sp : Nat → Nat) (U : State) (H : Heap), X A sp U H → ∃ a, vk_R own k tx a U
/-- throw new E("a text") -/
theorem lx_throw {cls text : String} {names : List String} {ik is ic kc ks : Nat} (hXT : mj_XT X) (hXS : mj_XS X mi.1.cls is text) (hcls : Bundle.fit cls = true) (hnames : ∀ n ∈ names, Bundle.fit n = true) (hk : Cond.classLink mi.1.cls ik cls ∈ TT) (hini : Cond.initialized cls ∈ TT) (hat : ∀ w ∈ vx_atS mi.1.cls ic cls names, w ∈ TT)
    (hgood : ∀ w ∈ Cond.classLink mi.1.cls ik cls :: Cond.initialized cls :: vx_atS mi.1.cls ic cls names, vx_ot w = true)
    (d0 : decode mi.2.1 pc = .ok (.new ik, 3)) (d3 : decode mi.2.1 (pc + 3) = .ok (.dup, 1)) (d4 : decode mi.2.1 (pc + 4) = .ok (.ldc is, 2)) (d6 : decode mi.2.1 (pc + 6) = .ok (.invokespecial ic, 3)) (d9 : decode mi.2.1 (pc + 9) = .ok (.athrow, 1))
    (hout : ∀ x ∈ tableOf mi.2.2.2.2, covers x (pc + 9) = false) (hf : names.length + 3 < fr ∧ (S.map fun v => v.category).sum + (13 * (names.length + 1) + 43) ≤ lo) (h : PX cls M) : LX TT cl X mi fr lo P PX (kc + 1) (ks + 6) pc L S M := by
  intro p l e R s m args below meth c Qc XC free D sp A as0 F kq kx as L1 S1 H locs cells slots ls h0 hW hS hl hL hSt hc hs
  have hXs := F.2.2.2.2.2.2.2.2.2.2.2.2.2.2.1
  obtain ⟨sa, hsa⟩ := hXS A sp s s.heap hXs
  obtain ⟨hU, hN⟩ := hXT A sp s s.heap hXs
  have hfr := F.2.2.2.2.2.2.2.2.2.2.1
  have hlo := F.2.2.2.2.2.2.2.2.2.2.2.1
  refine vx_throwS F.1 F.2.1 F.2.2.2.2.2.2.2.2.2.1 F.2.2.2.1 hcls hnames (F.2.2.2.2.1 _ hk) (F.2.2.2.2.1 _ hini) hsa (fun w hw => F.2.2.2.2.1 _ (hat w hw)) hgood hU hN hS (by rw [F.2.2.1]; exact hl.1) d0 d3 d4 d6 d9 (by rw [F.2.2.2.2.2.2.2.1]; exact hout) (by omega) (by rw [mj_al_cat hSt]; omega) (by omega) (by omega) F.2.2.2.2.2.2.1 (fun t ha h1 h2 => ?_) (fun z hz => F.2.2.2.2.2.2.2.2.2.2.2.2.2.1 _ (hS.2.2 z hz)) (by omega) (by omega)
  refine kx as cls M t h ha (mj_WR_ext h2 hW) ⟨Nat.le_trans hS.1 h1, fun q hq hA => ?_⟩ h0
  rw [h2 q (Nat.lt_of_lt_of_le hq hS.1)]
  exact hS.2.1 q hq hA
theorem lx_throwW {cls text : String} {names : List String} {ik is ic kc ks : Nat} (hXT : mj_XT X) (hXS : mj_XS X mi.1.cls is text) (hcls : Bundle.fit cls = true) (hnames : ∀ n ∈ names, Bundle.fit n = true) (hk : Cond.classLink mi.1.cls ik cls ∈ TT) (hini : Cond.initialized cls ∈ TT) (hat : ∀ w ∈ vx_atS mi.1.cls ic cls names, w ∈ TT)
    (hgood : ∀ w ∈ Cond.classLink mi.1.cls ik cls :: Cond.initialized cls :: vx_atS mi.1.cls ic cls names, vx_ot w = true)
    (d0 : decode mi.2.1 pc = .ok (.new ik, 3)) (d3 : decode mi.2.1 (pc + 3) = .ok (.dup, 1)) (d4 : decode mi.2.1 (pc + 4) = .ok (.ldc_w is, 3)) (d7 : decode mi.2.1 (pc + 7) = .ok (.invokespecial ic, 3)) (d10 : decode mi.2.1 (pc + 10) = .ok (.athrow, 1))
    (hout : ∀ x ∈ tableOf mi.2.2.2.2, covers x (pc + 10) = false) (hf : names.length + 3 < fr ∧ (S.map fun v => v.category).sum + (13 * (names.length + 1) + 43) ≤ lo) (h : PX cls M) : LX TT cl X mi fr lo P PX (kc + 1) (ks + 6) pc L S M := by
  intro p l e R s m args below meth c Qc XC free D sp A as0 F kq kx as L1 S1 H locs cells slots ls h0 hW hS hl hL hSt hc hs
  have hXs := F.2.2.2.2.2.2.2.2.2.2.2.2.2.2.1
  obtain ⟨sa, hsa⟩ := hXS A sp s s.heap hXs
  obtain ⟨hU, hN⟩ := hXT A sp s s.heap hXs
  have hfr := F.2.2.2.2.2.2.2.2.2.2.1
  have hlo := F.2.2.2.2.2.2.2.2.2.2.2.1
  refine vx_throwSW F.1 F.2.1 F.2.2.2.2.2.2.2.2.2.1 F.2.2.2.1 hcls hnames (F.2.2.2.2.1 _ hk) (F.2.2.2.2.1 _ hini) hsa (fun w hw => F.2.2.2.2.1 _ (hat w hw)) hgood hU hN hS (by rw [F.2.2.1]; exact hl.1) d0 d3 d4 d7 d10 (by rw [F.2.2.2.2.2.2.2.1]; exact hout) (by omega) (by rw [mj_al_cat hSt]; omega) (by omega) (by omega) F.2.2.2.2.2.2.1 (fun t ha h1 h2 => ?_) (fun z hz => F.2.2.2.2.2.2.2.2.2.2.2.2.2.1 _ (hS.2.2 z hz)) (by omega) (by omega)
  refine kx as cls M t h ha (mj_WR_ext h2 hW) ⟨Nat.le_trans hS.1 h1, fun q hq hA => ?_⟩ h0
  rw [h2 q (Nat.lt_of_lt_of_le hq hS.1)]
  exact hS.2.1 q hq hA
end MJ5
