section AS1
def mzw (b : Nat) : List (ClassId × vp_A) → va_W
  | [] => []
  | q :: r => (b, .inl q) :: mzw (b + 1) r
theorem mzw_len {b : Nat} {es : List (ClassId × vp_A)} : (mzw b es).length = es.length := by
  induction es generalizing b with
  | nil => rfl
  | cons q r ih => unfold mzw; rw [List.length_cons, List.length_cons, ih]
theorem mz_app {D : va_G} {cl : List vw_C} {A : Nat → Prop} {H0 : Heap} {locs : List Loc} (hA : ∀ q, H0.size ≤ q → A q) : ∀ {es : List (ClassId × vp_A)} {ws : va_W} {H : Heap}, va_P D cl ws H → va_D A ws → va_S A H0 H locs →
    va_P D cl (ws ++ mzw H.size es) (H ++ (es.map (fun q => vp_cell q.1 q.2)).toArray) ∧ va_D A (ws ++ mzw H.size es) ∧ va_S A H0 (H ++ (es.map (fun q => vp_cell q.1 q.2)).toArray) locs := by
  intro es
  induction es with
  | nil =>
    intro ws H hP hD hS
    unfold mzw
    rw [List.append_nil]
    have e : H ++ (([] : List (ClassId × vp_A)).map (fun q => vp_cell q.1 q.2)).toArray = H := by simp
    rw [e]
    exact ⟨hP, hD, hS⟩
  | cons z zs ih =>
    intro ws H hP hD hS
    generalize hH1 : H.push (vp_cell z.1 z.2) = H1
    have z1 : H1.size = H.size + 1 := by rw [← hH1, Array.size_push]
    have e1 : H1[H.size]? = some (vp_cell z.1 z.2) := by rw [← hH1, Array.getElem?_push_size]
    have o1 : ∀ q : Nat, q < H.size → H1[q]? = H[q]? := fun q hq => by rw [← hH1, Array.getElem?_push, if_neg (Nat.ne_of_lt hq)]
    have hk : ∀ (k : Nat) (x : Nat × va_E), ws[k]? = some x → H1[x.1]? = H[x.1]? := fun k x hx => o1 x.1 ((hP k x hx).lt)
    have hP1 : va_P D cl (ws ++ [(H.size, .inl z)]) H1 := (hP.kept hk).app (fun k x hx => by
      have hz : k < 1 := (List.getElem?_eq_some_iff.mp hx).1
      rw [show k = 0 by omega] at hx
      cases hx
      exact e1)
    have hD1 : va_D A (ws ++ [(H.size, .inl z)]) := hD.push hP rfl (hA _ hS.1)
    have hS1 : va_S A H0 H1 locs := ⟨Nat.le_trans hS.1 (by omega), fun x h1 h2 => (o1 x (Nat.lt_of_lt_of_le h1 hS.1)).trans (hS.2.1 x h1 h2), hS.2.2⟩
    have g := ih hP1 hD1 hS1
    have eH : H ++ ((z :: zs).map (fun q => vp_cell q.1 q.2)).toArray = H1 ++ (zs.map (fun q => vp_cell q.1 q.2)).toArray := by
      rw [← hH1]; simp
    have eW : ws ++ mzw H.size (z :: zs) = ws ++ [(H.size, .inl z)] ++ mzw H1.size zs := by
      rw [z1, List.append_assoc]; rfl
    rw [eH, eW]
    exact g
theorem mj_hr_app {as bs : List Nat} {sp : Nat → Nat} {tys tys1 : List (ClassId × FieldType)} {M N : mH} {ws es : va_W} (hr : mj_hr as sp tys M ws) (ht : ∀ (i : Nat) (z : ClassId × FieldType), tys[i]? = some z → tys1[i]? = some z) (h1 : bs.length = N.length) (h2 : es.length = N.length)
    (h3 : ∀ (j : Nat) (e : mE), N[j]? = some e → ∃ (a : Nat) (q : va_E), bs[j]? = some a ∧ es[j]? = some (a, q) ∧ mj_er (as ++ bs) sp tys1 e q) : mj_hr (as ++ bs) sp tys1 (M ++ N) (ws ++ es) := by
  refine ⟨by simp [hr.1, h1], by simp [hr.2.1, h2], fun i e hi => ?_⟩
  rcases Nat.lt_or_ge i M.length with hlt | hge
  · rw [List.getElem?_append_left hlt] at hi
    obtain ⟨a, y, g1, g2, g3⟩ := hr.2.2 i e hi
    exact ⟨a, y, mj_le_app _ _ g1, by rw [List.getElem?_append_left (by rw [hr.2.1]; exact hlt)]; exact g2, mj_er_mono mj_le_app ht g3⟩
  · rw [List.getElem?_append_right hge] at hi
    obtain ⟨a, q, g1, g2, g3⟩ := h3 _ _ hi
    exact ⟨a, q, by rw [List.getElem?_append_right (by rw [hr.1]; exact hge), hr.1]; exact g1, by rw [List.getElem?_append_right (by rw [hr.2.1]; exact hge), hr.2.1]; exact g2, g3⟩
theorem mz_qr_up {as : List Nat} {f g : Nat → Option Nat} {k i a : Nat} (h : ∀ j, mj_qr as (f j) (g j)) (hi : as[i]? = some a) : ∀ j, mj_qr as (va_up f k (some i) j) (va_up g k (some a) j) := by
  intro j
  unfold va_up
  by_cases e : j = k
  · rw [if_pos e, if_pos e]; exact ⟨a, hi, rfl⟩
  · rw [if_neg e, if_neg e]; exact h j
theorem mj_qr_nil {as : List Nat} : ∀ j, mj_qr as ((fun _ : Nat => (none : Option Nat)) j) ((fun _ : Nat => (none : Option Nat)) j) := fun _ => rfl
def mzB (b : Nat) : List Nat := [b, b + 1, b + 2]
theorem mz_as {as : List Nat} {b n t : Nat} (hn : as.length = n) (ht : t < 3) : (as ++ mzB b)[n + t]? = some (b + t) := by
  rw [List.getElem?_append_right (by omega), hn, show n + t - n = t by omega]
  match t, ht with
  | 0, _ => rfl
  | 1, _ => rfl
  | 2, _ => rfl
theorem mz_qG {as : List Nat} {b n : Nat} (hn : as.length = n) : ∀ j, mj_qr (as ++ mzB b) (mzG (n + 1) j) (mzG (b + 1) j) := by
  unfold mzG
  exact mz_qr_up (mz_qr_up mj_qr_nil (mz_as (t := 1) hn (by omega))) (mz_as (t := 2) hn (by omega))
variable {TT : List Cond} {cl : List vw_C} {X : XT} {mi : MI}
def mzE_1 (c2 c1 b : Nat) : List (ClassId × vp_A) := [(c2, 2, .inr (.inr (.inr (.inr (mzG (b + 1)))))), (c1, 1, .inl (fun _ => 0)), (c1, 1, .inl (fun _ => 0))]
theorem mzE_eq_1 {c2 c1 b : Nat} : (mzE_1 c2 c1 b).map (fun q => vp_cell q.1 q.2) = mzL_1 c2 c1 b := by
  unfold mzE_1 mzL_1
  simp only [List.map_cons, List.map_nil, vp_cell_q, mzF_eq]
  rfl
def mzM_1 (h : Nat) : mH := [.inl (.array .int, 2, .inr (.inr (.inr (.inr (mzG (h + 1)))))), .inl (.int, 1, .inl (fun _ => 0)), .inl (.int, 1, .inl (fun _ => 0))]
theorem lx_multi_1 {index pc fr lo kc ks : Nat} {P : Option Value → mH → Prop} {PX : String → mH → Prop} {L : List (Nat × Value)} {S : List Value} {M : mH} (d : decode mi.2.1 pc = .ok (.multianewarray index 2, 4)) (hl : Cond.classLink mi.1.cls index "[[I" ∈ TT) (h2 : Cond.arrayOver (.array .int) ∈ TT) (h1 : Cond.arrayClass .int ∈ TT)
    (kk : LX TT cl X mi fr lo P PX kc ks (pc + 4) L (.ref M.length :: S) (M ++ mzM_1 M.length)) : LX TT cl X mi fr lo P PX (kc + 3) (ks + 4) pc L (.int 1 :: .int 2 :: S) M := by
  intro p l e R s m args below meth c Qc XC free D sp A as0 F kq kx as L1 S1 H locs cells slots ls h0 hW hS hl1 hL hSt hcs hss
  have h9 := mj_al_cons hSt
  clear hSt
  obtain ⟨_, S1, rfl, rfl, hSt⟩ := h9
  have h9 := mj_al_cons hSt
  clear hSt
  obtain ⟨_, S1, rfl, rfl, hSt⟩ := h9
  obtain ⟨ws, tys, hK, hP, hD, hr⟩ := hW
  refine va_multi_1 F.1 F.2.1 F.2.2.2.1 (F.2.2.2.2.1 _ hl) (F.2.2.2.2.1 _ h2) (F.2.2.2.2.1 _ h1) (by omega) (by omega) d (fun c2 c1 a2 a1 n2 n1 => ?_)
  rw [← mzE_eq_1]
  obtain ⟨hP1, hD1, hS1⟩ := mz_app (es := mzE_1 c2 c1 H.size) F.2.2.2.2.2.2.2.2.2.2.2.2.1 hP hD hS
  have hle : mj_le as (as ++ mzB H.size) := mj_le_app
  have hK1 : va_K D cl (tys ++ [(c2, .array .int), (c1, .int)]) s := by
    refine hK.app ⟨hK.1, fun k q hq => ?_⟩
    match k, hq with
    | 0, hq => cases hq; exact ⟨a2, n2⟩
    | 1, hq => cases hq; exact ⟨a1, n1⟩
    | n + 2, hq => cases hq
  have t2 : ∃ t : Nat, (tys ++ [(c2, FieldType.array .int), (c1, .int)])[t]? = some (c2, .array .int) := ⟨tys.length, by simp⟩
  have t1 : ∃ t : Nat, (tys ++ [(c2, FieldType.array .int), (c1, .int)])[t]? = some (c1, .int) := ⟨tys.length + 1, by simp⟩
  have hr1 : mj_hr (as ++ mzB H.size) sp (tys ++ [(c2, .array .int), (c1, .int)]) (M ++ mzM_1 M.length) (ws ++ mzw H.size (mzE_1 c2 c1 H.size)) := by
    refine mj_hr_app hr (fun i z hz => by rw [List.getElem?_append_left (List.getElem?_eq_some_iff.mp hz).1]; exact hz) rfl rfl (fun j x hx => ?_)
    match j, hx with
    | 0, hx => cases hx; exact ⟨_, _, rfl, rfl, t2, rfl, mz_qG hr.1⟩
    | 1, hx => cases hx; exact ⟨_, _, rfl, rfl, t1, rfl, rfl⟩
    | 2, hx => cases hx; exact ⟨_, _, rfl, rfl, t1, rfl, rfl⟩
    | n + 3, hx => cases hx
  exact kk p l e R s m args below meth c Qc XC free D sp A as0 F kq kx (as ++ mzB H.size) L1 _ _ locs (cells + 3) (slots + 4) ls (mj_le_tr h0 hle) ⟨_, _, hK1, hP1, hD1, hr1⟩ hS1 hl1 (mj_al_mono (fun _ _ h => mj_lr_mono hle h) hL)
    ⟨⟨H.size, mz_as (t := 0) hr.1 (by omega), rfl⟩, mj_al_mono (fun _ _ h => mj_vr_mono hle h) hSt⟩ (by omega) (by omega)
def mzE_2 (c2 c1 b : Nat) : List (ClassId × vp_A) := [(c2, 2, .inr (.inr (.inr (.inr (mzG (b + 1)))))), (c1, 2, .inl (fun _ => 0)), (c1, 2, .inl (fun _ => 0))]
theorem mzE_eq_2 {c2 c1 b : Nat} : (mzE_2 c2 c1 b).map (fun q => vp_cell q.1 q.2) = mzL_2 c2 c1 b := by
  unfold mzE_2 mzL_2
  simp only [List.map_cons, List.map_nil, vp_cell_q, mzF_eq]
  rfl
def mzM_2 (h : Nat) : mH := [.inl (.array .int, 2, .inr (.inr (.inr (.inr (mzG (h + 1)))))), .inl (.int, 2, .inl (fun _ => 0)), .inl (.int, 2, .inl (fun _ => 0))]
theorem lx_multi_2 {index pc fr lo kc ks : Nat} {P : Option Value → mH → Prop} {PX : String → mH → Prop} {L : List (Nat × Value)} {S : List Value} {M : mH} (d : decode mi.2.1 pc = .ok (.multianewarray index 2, 4)) (hl : Cond.classLink mi.1.cls index "[[I" ∈ TT) (h2 : Cond.arrayOver (.array .int) ∈ TT) (h1 : Cond.arrayClass .int ∈ TT)
    (kk : LX TT cl X mi fr lo P PX kc ks (pc + 4) L (.ref M.length :: S) (M ++ mzM_2 M.length)) : LX TT cl X mi fr lo P PX (kc + 3) (ks + 6) pc L (.int 2 :: .int 2 :: S) M := by
  intro p l e R s m args below meth c Qc XC free D sp A as0 F kq kx as L1 S1 H locs cells slots ls h0 hW hS hl1 hL hSt hcs hss
  have h9 := mj_al_cons hSt
  clear hSt
  obtain ⟨_, S1, rfl, rfl, hSt⟩ := h9
  have h9 := mj_al_cons hSt
  clear hSt
  obtain ⟨_, S1, rfl, rfl, hSt⟩ := h9
  obtain ⟨ws, tys, hK, hP, hD, hr⟩ := hW
  refine va_multi_2 F.1 F.2.1 F.2.2.2.1 (F.2.2.2.2.1 _ hl) (F.2.2.2.2.1 _ h2) (F.2.2.2.2.1 _ h1) (by omega) (by omega) d (fun c2 c1 a2 a1 n2 n1 => ?_)
  rw [← mzE_eq_2]
  obtain ⟨hP1, hD1, hS1⟩ := mz_app (es := mzE_2 c2 c1 H.size) F.2.2.2.2.2.2.2.2.2.2.2.2.1 hP hD hS
  have hle : mj_le as (as ++ mzB H.size) := mj_le_app
  have hK1 : va_K D cl (tys ++ [(c2, .array .int), (c1, .int)]) s := by
    refine hK.app ⟨hK.1, fun k q hq => ?_⟩
    match k, hq with
    | 0, hq => cases hq; exact ⟨a2, n2⟩
    | 1, hq => cases hq; exact ⟨a1, n1⟩
    | n + 2, hq => cases hq
  have t2 : ∃ t : Nat, (tys ++ [(c2, FieldType.array .int), (c1, .int)])[t]? = some (c2, .array .int) := ⟨tys.length, by simp⟩
  have t1 : ∃ t : Nat, (tys ++ [(c2, FieldType.array .int), (c1, .int)])[t]? = some (c1, .int) := ⟨tys.length + 1, by simp⟩
  have hr1 : mj_hr (as ++ mzB H.size) sp (tys ++ [(c2, .array .int), (c1, .int)]) (M ++ mzM_2 M.length) (ws ++ mzw H.size (mzE_2 c2 c1 H.size)) := by
    refine mj_hr_app hr (fun i z hz => by rw [List.getElem?_append_left (List.getElem?_eq_some_iff.mp hz).1]; exact hz) rfl rfl (fun j x hx => ?_)
    match j, hx with
    | 0, hx => cases hx; exact ⟨_, _, rfl, rfl, t2, rfl, mz_qG hr.1⟩
    | 1, hx => cases hx; exact ⟨_, _, rfl, rfl, t1, rfl, rfl⟩
    | 2, hx => cases hx; exact ⟨_, _, rfl, rfl, t1, rfl, rfl⟩
    | n + 3, hx => cases hx
  exact kk p l e R s m args below meth c Qc XC free D sp A as0 F kq kx (as ++ mzB H.size) L1 _ _ locs (cells + 3) (slots + 6) ls (mj_le_tr h0 hle) ⟨_, _, hK1, hP1, hD1, hr1⟩ hS1 hl1 (mj_al_mono (fun _ _ h => mj_lr_mono hle h) hL)
    ⟨⟨H.size, mz_as (t := 0) hr.1 (by omega), rfl⟩, mj_al_mono (fun _ _ h => mj_vr_mono hle h) hSt⟩ (by omega) (by omega)
theorem lx_anewI {index pc fr lo kc ks : Nat} {P : Option Value → mH → Prop} {PX : String → mH → Prop} {L : List (Nat × Value)} {S : List Value} {M : mH} {n : Int32} (d : decode mi.2.1 pc = .ok (.anewarray index, 3)) (hl : Cond.classLink mi.1.cls index "[I" ∈ TT) (h2 : Cond.arrayOver (.array .int) ∈ TT) (hn : ¬ n < 0) (hn2 : n.toNatClampNeg * 4 ≤ 536870912)
    (kk : LX TT cl X mi fr lo P PX kc ks (pc + 3) L (.ref M.length :: S) (M ++ [.inl (.array .int, n.toNatClampNeg, .inr (.inr (.inr (.inr (fun _ => none)))))])) : LX TT cl X mi fr lo P PX (kc + 1) (ks + n.toNatClampNeg) pc L (.int n :: S) M := by
  intro p l e R s m args below meth c Qc XC free D sp A as0 F kq kx as L1 S1 H locs cells slots ls h0 hW hS hl1 hL hSt hcs hss
  have h9 := mj_al_cons hSt
  clear hSt
  obtain ⟨_, S1, rfl, rfl, hSt⟩ := h9
  obtain ⟨ws, tys, hK, hP, hD, hr⟩ := hW
  refine W.anewA (t := .int) F.1 F.2.1 F.2.2.2.1 (F.2.2.2.2.1 _ hl) (F.2.2.2.2.1 _ h2) rfl d rfl hn hn2 (by omega) (by omega) (fun cA kA comp f1 f2 f3 f4 => ?_)
  have eH : H.push ({ cls := cA, slots := Array.replicate n.toNatClampNeg .null, vm := .none } : Cell) = H ++ (([(cA, n.toNatClampNeg, .inr (.inr (.inr (.inr (fun _ => none)))))] : List (ClassId × vp_A)).map (fun q => vp_cell q.1 q.2)).toArray := by
    rw [List.map_cons, List.map_nil, vp_cell_q]
    have e1 : ({ cls := cA, slots := Array.replicate n.toNatClampNeg .null, vm := .none } : Cell) = arrV cA n.toNatClampNeg (fun _ => .null) := arrV_new cA n.toNatClampNeg .null
    rw [e1]
    simp [va_rf]
  rw [eH]
  obtain ⟨hP1, hD1, hS1⟩ := mz_app (es := [(cA, n.toNatClampNeg, .inr (.inr (.inr (.inr (fun _ => none)))))]) F.2.2.2.2.2.2.2.2.2.2.2.2.1 hP hD hS
  have hle : mj_le as (as ++ [H.size]) := mj_le_app
  have hAr : ArrOfT s cA (.array .int) := fun N z => ⟨(fun k h => by cases h), kA, f2, comp, f3⟩
  have hK1 : va_K D cl (tys ++ [(cA, .array .int)]) s := by
    refine hK.app ⟨hK.1, fun k q hq => ?_⟩
    match k, hq with
    | 0, hq => cases hq; exact ⟨hAr, f1⟩
    | n + 1, hq => cases hq
  exact kk p l e R s m args below meth c Qc XC free D sp A as0 F kq kx (as ++ [H.size]) L1 _ _ locs (cells + 1) (slots + n.toNatClampNeg) ls (mj_le_tr h0 hle) (mj_WR_push hK1 hP1 hD1 hr (fun i z hz => by rw [List.getElem?_append_left (List.getElem?_eq_some_iff.mp hz).1]; exact hz) ⟨⟨tys.length, by simp⟩, rfl, fun _ => rfl⟩) hS1 hl1 (mj_al_mono (fun _ _ h => mj_lr_mono hle h) hL)
    ⟨⟨H.size, by rw [← hr.1]; simp, rfl⟩, mj_al_mono (fun _ _ h => mj_vr_mono hle h) hSt⟩ (by omega) (by omega)
theorem lx_aastI {i n k n2 pc fr lo kc ks : Nat} {P : Option Value → mH → Prop} {PX : String → mH → Prop} {L : List (Nat × Value)} {S : List Value} {M : mH} {j : Int32} {f : Nat → Option Nat} {g2 : Nat → Int32} (d : decode mi.2.1 pc = .ok (.aastore, 1)) (ho : Cond.arrayOver (.array .int) ∈ TT) (hM : M[i]? = some (.inl (.array .int, n, .inr (.inr (.inr (.inr f)))))) (hk : M[k]? = some (.inl (.int, n2, .inl g2))) (hin : vp_in j n)
    (kk : LX TT cl X mi fr lo P PX kc ks (pc + 1) L S (M.set i (.inl (.array .int, n, .inr (.inr (.inr (.inr (va_up f j.toNatClampNeg (some k))))))))) : LX TT cl X mi fr lo P PX kc ks pc L (.ref k :: .int j :: .ref i :: S) M := by
  intro p l e R s m args below meth c Qc XC free D sp A as0 F kq kx as L1 S1 H locs cells slots ls h0 hW hS hl1 hL hSt hcs hss
  have h9 := mj_al_cons hSt
  clear hSt
  obtain ⟨_, S1, rfl, ⟨b, hb, rfl⟩, hSt⟩ := h9
  have h9 := mj_al_cons hSt
  clear hSt
  obtain ⟨_, S1, rfl, rfl, hSt⟩ := h9
  have h9 := mj_al_cons hSt
  clear hSt
  obtain ⟨_, S1, rfl, ⟨a, ha, rfl⟩, hSt⟩ := h9
  obtain ⟨ws, tys, hK, hP, hD, hr⟩ := hW
  obtain ⟨cA, t0, y, h1, h2, h3⟩ := mj_arr hr ha hM
  obtain ⟨g, rfl, h4⟩ := mj_ar_q h3
  obtain ⟨cI, t1, y, q1, q2, q3⟩ := mj_arr hr hb hk
  cases mj_ar_i q3
  obtain ⟨comp, c2, k2, n1, hk2, hkind2, n2'⟩ := mz_over (F.2.2.2.2.1 _ ho)
  have m1 : s.vm.findClass "[[I" = some cA := (hK.2 t0 _ h2).2
  have m2 : s.vm.findClass "[[I" = some c2 := n2'
  cases m1.symm.trans m2
  have m3 : s.vm.findClass "[I" = some cI := (hK.2 t1 _ q2).2
  have m4 : s.vm.findClass "[I" = some comp := n1
  cases m3.symm.trans m4
  obtain ⟨-, kI, hkI, -, -⟩ := (hK.2 t1 _ q2).1 0 (fun _ => .null)
  have hlt : j.toNatClampNeg < n := Nat.not_le.mp fun q => hin (Or.inr q)
  have hj0 : ¬ j < 0 := fun q => hin (Or.inl q)
  have has : s.vm.assignable cI cI = true := by
    unfold Vm.assignable Vm.assignableAux
    rw [beq_self_eq_true, Bool.true_or]
  refine W.aast F.1 F.2.1 (hP i _ h1) (fun q h => by cases h) (fun h => by cases h) hk2 hkind2 rfl hkI ⟨hj0, by show _ < (arrV _ _ _).slots.size; rw [arrV_size]; exact hlt⟩ (hP k _ q1) (fun q h => by cases h) hkI has rfl rfl d fun H1 e1 z oq => ?_
  have hP1 : va_P D cl (ws.set i (a, .inl (cA, n, .inr (.inr (.inr (.inr (va_up g j.toNatClampNeg (some b)))))))) H1 := hP.set hD h1 (by
    show H1[a]? = some (vp_cell _ _)
    rw [e1, vp_cell_q, vp_cell_q, arrV_store]
    congr 2
    funext x
    by_cases hx : x = j.toNatClampNeg
    · subst hx
      simp [updV, va_up, va_rf]
    · simp [updV, va_up, hx]) oq
  exact kk p l e R s m args below meth c Qc XC free D sp A as0 F kq kx as L1 _ H1 _ cells slots ls h0 ⟨_, tys, hK, hP1, hD.set h1, mj_hr_set hr ha ⟨⟨t0, h2⟩, rfl, fun x => mz_qr_up h4 hb x⟩⟩ (hS.put z oq (hD.2 i _ h1)) hl1 hL hSt hcs hss
end AS1
section AS2
variable {TT : List Cond} {cl : List vw_C} {X : XT} {mi : MI} {fr lo : Nat} {D : mF} {P : Option Value → mF → Prop} {PX : String → mF → Prop} {kc ks pc : Nat} {L : List (Nat × Value)} {S : List Value} {h : mF}
theorem rf_up {π : Nat → Nat} {f : Nat → Option Nat} {k v : Nat} : (fun j => (va_up f k (some v) j).map π) = va_up (fun j => (f j).map π) k (some (π v)) := by
  funext j
  unfold va_up
  by_cases q : j = k
  · rw [if_pos q, if_pos q]; rfl
  · rw [if_neg q, if_neg q]
theorem lf_anewI {index q : Nat} {n : Int32} (d : decode mi.2.1 pc = .ok (.anewarray index, 3)) (hl : Cond.classLink mi.1.cls index "[I" ∈ TT) (h2 : Cond.arrayOver (.array .int) ∈ TT) (hn : ¬ n < 0) (hn2 : n.toNatClampNeg * 4 ≤ 536870912) (hq : h q = none)
    (kk : LXf TT cl X mi fr lo D P PX kc ks (pc + 3) L (.ref q :: S) (mset h q (.inl (.array .int, n.toNatClampNeg, .inr (.inr (.inr (.inr (fun _ => none)))))))) : LXf TT cl X mi fr lo D P PX (kc + 1) (ks + n.toNatClampNeg) pc L (.int n :: S) h := by
  intro π0 π M hR hL hS hA hI
  exact lx_anewI d hl h2 hn hn2 (lf_alloc hq (e := .inl (.array .int, n.toNatClampNeg, .inr (.inr (.inr (.inr (fun _ => none)))))) (fun j i e => by cases e) kk hR hL (mcS_cons.mp hS).2 hA hI)
theorem lf_aastI {i n k n2 : Nat} {j : Int32} {f : Nat → Option Nat} {g : Nat → Int32} (d : decode mi.2.1 pc = .ok (.aastore, 1)) (ho : Cond.arrayOver (.array .int) ∈ TT) (hM : h i = some (.inl (.array .int, n, .inr (.inr (.inr (.inr f)))))) (hk : h k = some (.inl (.int, n2, .inl g))) (hin : vp_in j n)
    (kk : LXf TT cl X mi fr lo D P PX kc ks (pc + 1) L S (mset h i (.inl (.array .int, n, .inr (.inr (.inr (.inr (va_up f j.toNatClampNeg (some k))))))))) : LXf TT cl X mi fr lo D P PX kc ks pc L (.ref k :: .int j :: .ref i :: S) h := by
  intro π0 π M hR hL hS hA hI
  have hc : mcE h (.inl (.array .int, n, .inr (.inr (.inr (.inr (va_up f j.toNatClampNeg (some k))))))) := by
    intro x y e
    have e9 : va_up f j.toNatClampNeg (some k) x = some y := e
    unfold va_up at e9
    by_cases q : x = j.toNatClampNeg
    · rw [if_pos q] at e9
      cases e9
      rw [hk]; rfl
    · rw [if_neg q] at e9
      exact hR.2.2 i _ hM x y e9
  refine lx_aastI (i := π i) (k := π k) (f := fun j => (f j).map π) (g2 := g) d ho (hR.1 _ _ hM) (hR.1 _ _ hk) hin ?_
  rw [← rf_up]
  exact kk π0 π _ (rep_set hR hM hc) (mcL_set hL) (mcS_set (mcS_cons.mp (mcS_cons.mp (mcS_cons.mp hS).2).2).2) hA (mIn_set hI)
theorem lf_multi_1 {index q0 q1 q2 : Nat} (d : decode mi.2.1 pc = .ok (.multianewarray index 2, 4)) (hl : Cond.classLink mi.1.cls index "[[I" ∈ TT) (h2 : Cond.arrayOver (.array .int) ∈ TT) (h1 : Cond.arrayClass .int ∈ TT) (hq0 : h q0 = none) (hq1 : h q1 = none) (hq2 : h q2 = none) (hd : ¬ q1 = q0 ∧ ¬ q2 = q0 ∧ ¬ q2 = q1)
    (kk : LXf TT cl X mi fr lo D P PX kc ks (pc + 4) L (.ref q0 :: S) (mset (mset (mset (mset h q0 (.inl (.array .int, 2, .inr (.inr (.inr (.inr (fun _ => none))))))) q1 (.inl (.int, 1, .inl (fun _ => 0)))) q2 (.inl (.int, 1, .inl (fun _ => 0)))) q0 (.inl (.array .int, 2, .inr (.inr (.inr (.inr (va_up (va_up (fun _ => none) 0 (some q1)) 1 (some q2))))))))) : LXf TT cl X mi fr lo D P PX (kc + 3) (ks + 4) pc L (.int 1 :: .int 2 :: S) h := by
  intro π0 π M hR hL hS hA hI
  have hSS := (mcS_cons.mp (mcS_cons.mp hS).2).2
  obtain ⟨r0, a0⟩ := rep_new hR hq0 (e := .inl (.array .int, 2, .inr (.inr (.inr (.inr (fun _ => none)))))) (fun j i e => by cases e)
  obtain ⟨r1, a1⟩ := rep_new r0 (q := q1) (by rw [mset_other hd.1]; exact hq1) (e := .inl (.int, 1, .inl (fun _ => 0))) trivial
  obtain ⟨r2, a2⟩ := rep_new r1 (q := q2) (by rw [mset_other hd.2.2, mset_other hd.2.1]; exact hq2) (e := .inl (.int, 1, .inl (fun _ => 0))) trivial
  have e0 : mset (mset (mset h q0 (.inl (.array .int, 2, .inr (.inr (.inr (.inr (fun _ => none))))))) q1 (.inl (.int, 1, .inl (fun _ => 0)))) q2 (.inl (.int, 1, .inl (fun _ => 0))) q0 = some (.inl (.array .int, 2, .inr (.inr (.inr (.inr (fun _ => none)))))) := by
    rw [mset_other (fun e => hd.2.1 e.symm), mset_other (fun e => hd.1 e.symm), mset_same]
  have r3 := rep_set r2 e0 (e := .inl (.array .int, 2, .inr (.inr (.inr (.inr (va_up (va_up (fun _ => none) 0 (some q1)) 1 (some q2))))))) (by
    intro x y e
    have e9 : va_up (va_up (fun _ => none) 0 (some q1)) 1 (some q2) x = some y := e
    unfold va_up at e9
    by_cases z : x = 1
    · rw [if_pos z] at e9
      cases e9
      rw [mset_same]; rfl
    · rw [if_neg z] at e9
      by_cases z2 : x = 0
      · rw [if_pos z2] at e9
        cases e9
        rw [mset_other (fun e => hd.2.2 e.symm), mset_same]; rfl
      · rw [if_neg z2] at e9; cases e9)
  have g := kk π0 _ _ r3 (mcL_set (mcL_set (mcL_set (mcL_set hL)))) (mcS_cons.mpr ⟨by rw [show mcV _ (.ref q0) = ((mset _ q0 _ q0).isSome = true) from rfl, mset_same]; rfl, mcS_set (mcS_set (mcS_set (mcS_set hSS)))⟩) (fun j hj => by
    have i0 := hI j hj
    have i1 : (mset h q0 (.inl (.array .int, 2, .inr (.inr (.inr (.inr (fun _ => none)))))) j).isSome = true := mset_isSome i0
    have i2 : (mset (mset h q0 (.inl (.array .int, 2, .inr (.inr (.inr (.inr (fun _ => none))))))) q1 (.inl (.int, 1, .inl (fun _ => 0))) j).isSome = true := mset_isSome i1
    exact (a2 j i2).trans ((a1 j i1).trans ((a0 j i0).trans (hA j hj)))) (mIn_set (mIn_set (mIn_set (mIn_set hI))))
  have eL : rnL (fun j => if j = q2 then (M ++ [rnE π (.inl (.array .int, 2, .inr (.inr (.inr (.inr (fun _ => none))))))] ++ [rnE (fun j => if j = q0 then M.length else π j) (.inl (.int, 1, .inl (fun _ => 0)))]).length else (fun j => if j = q1 then (M ++ [rnE π (.inl (.array .int, 2, .inr (.inr (.inr (.inr (fun _ => none))))))]).length else (fun j => if j = q0 then M.length else π j) j) j) L = rnL π L :=
    (rnL_eq a2 (mcL_set (mcL_set hL))).trans ((rnL_eq a1 (mcL_set hL)).trans (rnL_eq a0 hL))
  have eS := (rnS_eq a2 (mcS_set (mcS_set hSS))).trans ((rnS_eq a1 (mcS_set hSS)).trans (rnS_eq a0 hSS))
  refine lx_multi_1 d hl h2 h1 ?_
  rw [eL] at g
  have e5 : rnS (fun j => if j = q2 then (M ++ [rnE π (.inl (.array .int, 2, .inr (.inr (.inr (.inr (fun _ => none))))))] ++ [rnE (fun j => if j = q0 then M.length else π j) (.inl (.int, 1, .inl (fun _ => 0)))]).length else (fun j => if j = q1 then (M ++ [rnE π (.inl (.array .int, 2, .inr (.inr (.inr (.inr (fun _ => none))))))]).length else (fun j => if j = q0 then M.length else π j) j) j) (.ref q0 :: S) = .ref M.length :: rnS π S := by
    show Value.ref _ :: rnS _ S = _
    rw [eS]
    try dsimp only
    rw [if_neg (fun e => hd.2.1 e.symm), if_neg (fun e => hd.1 e.symm), if_pos rfl]
  rw [e5] at g
  have e6 : (M ++ [rnE π (.inl (.array .int, 2, .inr (.inr (.inr (.inr (fun _ => none))))))] ++ [rnE (fun j => if j = q0 then M.length else π j) (.inl (.int, 1, .inl (fun _ => 0)))] ++ [rnE (fun j => if j = q1 then (M ++ [rnE π (.inl (.array .int, 2, .inr (.inr (.inr (.inr (fun _ => none))))))]).length else (fun j => if j = q0 then M.length else π j) j) (.inl (.int, 1, .inl (fun _ => 0)))]).set ((fun j => if j = q2 then (M ++ [rnE π (.inl (.array .int, 2, .inr (.inr (.inr (.inr (fun _ => none))))))] ++ [rnE (fun j => if j = q0 then M.length else π j) (.inl (.int, 1, .inl (fun _ => 0)))]).length else (fun j => if j = q1 then (M ++ [rnE π (.inl (.array .int, 2, .inr (.inr (.inr (.inr (fun _ => none))))))]).length else (fun j => if j = q0 then M.length else π j) j) j) q0) (rnE (fun j => if j = q2 then (M ++ [rnE π (.inl (.array .int, 2, .inr (.inr (.inr (.inr (fun _ => none))))))] ++ [rnE (fun j => if j = q0 then M.length else π j) (.inl (.int, 1, .inl (fun _ => 0)))]).length else (fun j => if j = q1 then (M ++ [rnE π (.inl (.array .int, 2, .inr (.inr (.inr (.inr (fun _ => none))))))]).length else (fun j => if j = q0 then M.length else π j) j) j) (.inl (.array .int, 2, .inr (.inr (.inr (.inr (va_up (va_up (fun _ => none) 0 (some q1)) 1 (some q2)))))))) = M ++ mzM_1 M.length := by
    try dsimp only
    rw [if_neg (fun e => hd.2.1 e.symm), if_neg (fun e => hd.1 e.symm), if_pos rfl]
    rw [List.append_assoc, List.append_assoc, List.set_append_right _ _ (Nat.le_refl _), Nat.sub_self]
    congr 1
    show [_, _, _] = [_, _, _]
    congr 1
    show Sum.inl (FieldType.array .int, 2, Sum.inr (Sum.inr (Sum.inr (Sum.inr _)))) = Sum.inl (FieldType.array .int, 2, Sum.inr (Sum.inr (Sum.inr (Sum.inr _))))
    rw [rf_up, rf_up]
    unfold mzG
    try dsimp only
    rw [if_pos rfl, if_neg (fun e => hd.2.2 e.symm), if_pos rfl]
    simp
  rw [e6] at g
  exact g
theorem lf_multi_2 {index q0 q1 q2 : Nat} (d : decode mi.2.1 pc = .ok (.multianewarray index 2, 4)) (hl : Cond.classLink mi.1.cls index "[[I" ∈ TT) (h2 : Cond.arrayOver (.array .int) ∈ TT) (h1 : Cond.arrayClass .int ∈ TT) (hq0 : h q0 = none) (hq1 : h q1 = none) (hq2 : h q2 = none) (hd : ¬ q1 = q0 ∧ ¬ q2 = q0 ∧ ¬ q2 = q1)
    (kk : LXf TT cl X mi fr lo D P PX kc ks (pc + 4) L (.ref q0 :: S) (mset (mset (mset (mset h q0 (.inl (.array .int, 2, .inr (.inr (.inr (.inr (fun _ => none))))))) q1 (.inl (.int, 2, .inl (fun _ => 0)))) q2 (.inl (.int, 2, .inl (fun _ => 0)))) q0 (.inl (.array .int, 2, .inr (.inr (.inr (.inr (va_up (va_up (fun _ => none) 0 (some q1)) 1 (some q2))))))))) : LXf TT cl X mi fr lo D P PX (kc + 3) (ks + 6) pc L (.int 2 :: .int 2 :: S) h := by
  intro π0 π M hR hL hS hA hI
  have hSS := (mcS_cons.mp (mcS_cons.mp hS).2).2
  obtain ⟨r0, a0⟩ := rep_new hR hq0 (e := .inl (.array .int, 2, .inr (.inr (.inr (.inr (fun _ => none)))))) (fun j i e => by cases e)
  obtain ⟨r1, a1⟩ := rep_new r0 (q := q1) (by rw [mset_other hd.1]; exact hq1) (e := .inl (.int, 2, .inl (fun _ => 0))) trivial
  obtain ⟨r2, a2⟩ := rep_new r1 (q := q2) (by rw [mset_other hd.2.2, mset_other hd.2.1]; exact hq2) (e := .inl (.int, 2, .inl (fun _ => 0))) trivial
  have e0 : mset (mset (mset h q0 (.inl (.array .int, 2, .inr (.inr (.inr (.inr (fun _ => none))))))) q1 (.inl (.int, 2, .inl (fun _ => 0)))) q2 (.inl (.int, 2, .inl (fun _ => 0))) q0 = some (.inl (.array .int, 2, .inr (.inr (.inr (.inr (fun _ => none)))))) := by
    rw [mset_other (fun e => hd.2.1 e.symm), mset_other (fun e => hd.1 e.symm), mset_same]
  have r3 := rep_set r2 e0 (e := .inl (.array .int, 2, .inr (.inr (.inr (.inr (va_up (va_up (fun _ => none) 0 (some q1)) 1 (some q2))))))) (by
    intro x y e
    have e9 : va_up (va_up (fun _ => none) 0 (some q1)) 1 (some q2) x = some y := e
    unfold va_up at e9
    by_cases z : x = 1
    · rw [if_pos z] at e9
      cases e9
      rw [mset_same]; rfl
    · rw [if_neg z] at e9
      by_cases z2 : x = 0
      · rw [if_pos z2] at e9
        cases e9
        rw [mset_other (fun e => hd.2.2 e.symm), mset_same]; rfl
      · rw [if_neg z2] at e9; cases e9)
  have g := kk π0 _ _ r3 (mcL_set (mcL_set (mcL_set (mcL_set hL)))) (mcS_cons.mpr ⟨by rw [show mcV _ (.ref q0) = ((mset _ q0 _ q0).isSome = true) from rfl, mset_same]; rfl, mcS_set (mcS_set (mcS_set (mcS_set hSS)))⟩) (fun j hj => by
    have i0 := hI j hj
    have i1 : (mset h q0 (.inl (.array .int, 2, .inr (.inr (.inr (.inr (fun _ => none)))))) j).isSome = true := mset_isSome i0
    have i2 : (mset (mset h q0 (.inl (.array .int, 2, .inr (.inr (.inr (.inr (fun _ => none))))))) q1 (.inl (.int, 2, .inl (fun _ => 0))) j).isSome = true := mset_isSome i1
    exact (a2 j i2).trans ((a1 j i1).trans ((a0 j i0).trans (hA j hj)))) (mIn_set (mIn_set (mIn_set (mIn_set hI))))
  have eL : rnL (fun j => if j = q2 then (M ++ [rnE π (.inl (.array .int, 2, .inr (.inr (.inr (.inr (fun _ => none))))))] ++ [rnE (fun j => if j = q0 then M.length else π j) (.inl (.int, 2, .inl (fun _ => 0)))]).length else (fun j => if j = q1 then (M ++ [rnE π (.inl (.array .int, 2, .inr (.inr (.inr (.inr (fun _ => none))))))]).length else (fun j => if j = q0 then M.length else π j) j) j) L = rnL π L :=
    (rnL_eq a2 (mcL_set (mcL_set hL))).trans ((rnL_eq a1 (mcL_set hL)).trans (rnL_eq a0 hL))
  have eS := (rnS_eq a2 (mcS_set (mcS_set hSS))).trans ((rnS_eq a1 (mcS_set hSS)).trans (rnS_eq a0 hSS))
  refine lx_multi_2 d hl h2 h1 ?_
  rw [eL] at g
  have e5 : rnS (fun j => if j = q2 then (M ++ [rnE π (.inl (.array .int, 2, .inr (.inr (.inr (.inr (fun _ => none))))))] ++ [rnE (fun j => if j = q0 then M.length else π j) (.inl (.int, 2, .inl (fun _ => 0)))]).length else (fun j => if j = q1 then (M ++ [rnE π (.inl (.array .int, 2, .inr (.inr (.inr (.inr (fun _ => none))))))]).length else (fun j => if j = q0 then M.length else π j) j) j) (.ref q0 :: S) = .ref M.length :: rnS π S := by
    show Value.ref _ :: rnS _ S = _
    rw [eS]
    try dsimp only
    rw [if_neg (fun e => hd.2.1 e.symm), if_neg (fun e => hd.1 e.symm), if_pos rfl]
  rw [e5] at g
  have e6 : (M ++ [rnE π (.inl (.array .int, 2, .inr (.inr (.inr (.inr (fun _ => none))))))] ++ [rnE (fun j => if j = q0 then M.length else π j) (.inl (.int, 2, .inl (fun _ => 0)))] ++ [rnE (fun j => if j = q1 then (M ++ [rnE π (.inl (.array .int, 2, .inr (.inr (.inr (.inr (fun _ => none))))))]).length else (fun j => if j = q0 then M.length else π j) j) (.inl (.int, 2, .inl (fun _ => 0)))]).set ((fun j => if j = q2 then (M ++ [rnE π (.inl (.array .int, 2, .inr (.inr (.inr (.inr (fun _ => none))))))] ++ [rnE (fun j => if j = q0 then M.length else π j) (.inl (.int, 2, .inl (fun _ => 0)))]).length else (fun j => if j = q1 then (M ++ [rnE π (.inl (.array .int, 2, .inr (.inr (.inr (.inr (fun _ => none))))))]).length else (fun j => if j = q0 then M.length else π j) j) j) q0) (rnE (fun j => if j = q2 then (M ++ [rnE π (.inl (.array .int, 2, .inr (.inr (.inr (.inr (fun _ => none))))))] ++ [rnE (fun j => if j = q0 then M.length else π j) (.inl (.int, 2, .inl (fun _ => 0)))]).length else (fun j => if j = q1 then (M ++ [rnE π (.inl (.array .int, 2, .inr (.inr (.inr (.inr (fun _ => none))))))]).length else (fun j => if j = q0 then M.length else π j) j) j) (.inl (.array .int, 2, .inr (.inr (.inr (.inr (va_up (va_up (fun _ => none) 0 (some q1)) 1 (some q2)))))))) = M ++ mzM_2 M.length := by
    try dsimp only
    rw [if_neg (fun e => hd.2.1 e.symm), if_neg (fun e => hd.1 e.symm), if_pos rfl]
    rw [List.append_assoc, List.append_assoc, List.set_append_right _ _ (Nat.le_refl _), Nat.sub_self]
    congr 1
    show [_, _, _] = [_, _, _]
    congr 1
    show Sum.inl (FieldType.array .int, 2, Sum.inr (Sum.inr (Sum.inr (Sum.inr _)))) = Sum.inl (FieldType.array .int, 2, Sum.inr (Sum.inr (Sum.inr (Sum.inr _))))
    rw [rf_up, rf_up]
    unfold mzG
    try dsimp only
    rw [if_pos rfl, if_neg (fun e => hd.2.2 e.symm), if_pos rfl]
    simp
  rw [e6] at g
  exact g
end AS2
