section MF3
variable {TT : List Cond} {cl : List vw_C} {X : XT} {mi : MI} {fr lo : Nat} {D : mF} {P : Option Value → mF → Prop} {PX : String → mF → Prop} {kc ks pc : Nat} {L : List (Nat × Value)} {S : List Value} {h : mF}
theorem mcL_set {i : Nat} {e : mE} (hL : mcL h L) : mcL (mset h i e) L := fun q hq => mcV_mset (hL q hq)
theorem mcS_set {i : Nat} {e : mE} (hS : mcS h S) : mcS (mset h i e) S := fun q hq => mcV_mset (hS q hq)
theorem mIn_set {i : Nat} {e : mE} (hI : mIn D h) : mIn D (mset h i e) := fun j hj => mset_isSome (hI j hj)
theorem mIn_tr {h1 h2 : mF} (a : mIn h h1) (b : mIn h1 h2) : mIn h h2 := fun j hj => b j (a j hj)
theorem mIn_rf : mIn h h := fun _ hj => hj
theorem rnV_narrow {π : Nat → Nat} {ty : FieldType} {v : Value} (hn : narrow ty v = v) : narrow ty (rnV π v) = rnV π v := by
  cases v with
  | ref i => cases ty <;> rfl
  | _ => exact hn
def LTf (TT : List Cond) (cl : List vw_C) (X : XT) (mi : MI) (fr lo : Nat) (D : mF) (P : Option Value → mF → Prop) (PX : String → mF → Prop) (kc ks pc : Nat) (L : List (Nat × Value)) (E : String) (h : mF) : Prop :=
  ∀ (π0 π : Nat → Nat) (M : mH), mRep π h M → mcL h L → mAg D π0 π → mIn D h → LT TT cl X mi fr lo (mPf D π0 P) (mPXf D π0 PX) kc ks pc (rnL π L) E M
theorem ltf_out {E : String} (ho : ∀ x ∈ tableOf mi.2.2.2.2, covers x pc = false) (hP : PX E h) : LTf TT cl X mi fr lo D P PX kc ks pc L E h := by
  intro π0 π M hR hL hA hI
  exact lt_out ho ⟨π, h, hP, hR, hA, hI⟩
theorem ltf_outP {E : String} (ho : ∀ z ∈ tableOf mi.2.2.2.2, covers z pc = false ∨ (z.catchType ≠ 0 ∧ ∃ nm : String, Cond.classLink mi.1.cls z.catchType nm ∈ TT ∧ ∀ (A : Nat → Prop) (sp : Nat → Nat) (U : State) (H : Heap), X A sp U H → va_Nc E nm U)) (hP : PX E h) : LTf TT cl X mi fr lo D P PX kc ks pc L E h := by
  intro π0 π M hR hL hA hI
  exact lt_outP ho ⟨π, h, hP, hR, hA, hI⟩
theorem ltf_catch {E : String} (pre : List ExceptionTableEntry) (x : ExceptionTableEntry) (suf : List ExceptionTableEntry) {name : String} (hsplit : tableOf mi.2.2.2.2 = pre ++ x :: suf)
    (hpass : ∀ z ∈ pre, covers z pc = false ∨ (z.catchType ≠ 0 ∧ ∃ nm : String, Cond.classLink mi.1.cls z.catchType nm ∈ TT ∧ ∀ (A : Nat → Prop) (sp : Nat → Nat) (U : State) (H : Heap), X A sp U H → va_Nc E nm U)) (hx : covers x pc = true) (h0 : x.catchType ≠ 0)
    (hlink : Cond.classLink mi.1.cls x.catchType name ∈ TT) (hcast : Cond.castable E name ∈ TT) (k : LXf TT cl X mi fr lo D P PX kc ks x.handlerPc L [.retAddr 0] h) : LTf TT cl X mi fr lo D P PX kc ks pc L E h := by
  intro π0 π M hR hL hA hI
  exact lt_catch pre x suf hsplit hpass hx h0 hlink hcast (k π0 π M hR hL (mcS_cons.mpr ⟨trivial, fun v hv => by cases hv⟩) hA hI)
theorem lf_sub {L2 : List (Nat × Value)} (is : List Nat) (hp : lv_pick L is = L2) (k : LXf TT cl X mi fr lo D P PX kc ks pc L2 S h) : LXf TT cl X mi fr lo D P PX kc ks pc L S h := by
  intro π0 π M hR hL hS hA hI
  subst hp
  have e : lv_pick (rnL π L) is = rnL π (lv_pick L is) := by
    unfold lv_pick rnL
    rw [List.map_filterMap]
    congr 1
    funext i
    rw [List.getElem?_map]
  refine lx_sub is e (k π0 π M hR (fun q hq => ?_) hS hA hI)
  obtain ⟨i, -, hi⟩ := List.mem_filterMap.mp hq
  exact hL q (List.mem_of_getElem? hi)
theorem lf_room {kc1 ks1 : Nat} (hc9 : kc1 ≤ kc) (hs9 : ks1 ≤ ks) (k : LXf TT cl X mi fr lo D P PX kc1 ks1 pc L S h) : LXf TT cl X mi fr lo D P PX kc ks pc L S h :=
  fun π0 π M hR hL hS hA hI => lx_room hc9 hs9 (k π0 π M hR hL hS hA hI)
theorem lf_getfield {index i ci k : Nat} {fs : List Value} {v : Value} (d : decode mi.2.1 pc = .ok (.getfield index, 3)) (hf : mj_FS TT cl mi.1.cls index ci k) (hM : h i = some (.inr (ci, fs))) (hv : fs[k]? = some v)
    (kk : LXf TT cl X mi fr lo D P PX kc ks (pc + 3) L (v :: S) h) : LXf TT cl X mi fr lo D P PX kc ks pc L (.ref i :: S) h := by
  intro π0 π M hR hL hS hA hI
  exact lx_getfield (i := π i) (fs := fs.map (rnV π)) (v := rnV π v) d hf (hR.1 _ _ hM) (by rw [List.getElem?_map, hv]; rfl) (kk π0 π M hR hL (mcS_cons.mpr ⟨hR.2.2 _ _ hM v (List.mem_of_getElem? hv), (mcS_cons.mp hS).2⟩) hA hI)
theorem mc_fset {ci k : Nat} {fs : List Value} {v : Value} (h1 : mcE h (.inr (ci, fs))) (hv : mcV h v) : mcE h (.inr (ci, fs.set k v)) := fun w hw => by
  rcases List.mem_or_eq_of_mem_set hw with q | rfl
  · exact h1 w q
  · exact hv
theorem lf_putfield {index i ci k : Nat} {fs : List Value} {v : Value} {ty : FieldType} (d : decode mi.2.1 pc = .ok (.putfield index, 3)) (hf : mj_PS TT cl mi.1.cls index ci k ty false) (hM : h i = some (.inr (ci, fs))) (hk : k < fs.length) (hn : narrow ty v = v) (hfi : mj_fits ty v = true)
    (kk : LXf TT cl X mi fr lo D P PX kc ks (pc + 3) L S (mset h i (.inr (ci, fs.set k v)))) : LXf TT cl X mi fr lo D P PX kc ks pc L (v :: .ref i :: S) h := by
  intro π0 π M hR hL hS hA hI
  have hS2 := (mcS_cons.mp (mcS_cons.mp hS).2).2
  have g := kk π0 π _ (rep_set hR hM (mc_fset (hR.2.2 _ _ hM) (mcS_cons.mp hS).1)) (mcL_set hL) (mcS_set hS2) hA (mIn_set hI)
  refine lx_putfield (i := π i) (fs := fs.map (rnV π)) (v := rnV π v) d hf (hR.1 _ _ hM) (by rw [List.length_map]; exact hk) (rnV_narrow hn) (rnV_fits.trans hfi) ?_
  rw [← List.map_set]
  exact g
theorem lf_putfinal {index i ci k : Nat} {fs : List Value} {v : Value} {ty : FieldType} (d : decode mi.2.1 pc = .ok (.putfield index, 3)) (hini : mi.1.name = "<init>") (hf : mj_PS TT cl mi.1.cls index ci k ty true) (hM : h i = some (.inr (ci, fs))) (hk : k < fs.length) (hn : narrow ty v = v) (hfi : mj_fits ty v = true)
    (kk : LXf TT cl X mi fr lo D P PX kc ks (pc + 3) L S (mset h i (.inr (ci, fs.set k v)))) : LXf TT cl X mi fr lo D P PX kc ks pc L (v :: .ref i :: S) h := by
  intro π0 π M hR hL hS hA hI
  have hS2 := (mcS_cons.mp (mcS_cons.mp hS).2).2
  have g := kk π0 π _ (rep_set hR hM (mc_fset (hR.2.2 _ _ hM) (mcS_cons.mp hS).1)) (mcL_set hL) (mcS_set hS2) hA (mIn_set hI)
  refine lx_putfinal (i := π i) (fs := fs.map (rnV π)) (v := rnV π v) d hini hf (hR.1 _ _ hM) (by rw [List.length_map]; exact hk) (rnV_narrow hn) (rnV_fits.trans hfi) ?_
  rw [← List.map_set]
  exact g
theorem lf_alloc {q : Nat} {e : mE} {pc2 : Nat} (hq : h q = none) (hc : mcE h e) (kk : LXf TT cl X mi fr lo D P PX kc ks pc2 L (.ref q :: S) (mset h q e)) {π0 π : Nat → Nat} {M : mH} (hR : mRep π h M) (hL : mcL h L) (hS : mcS h S) (hA : mAg D π0 π) (hI : mIn D h) :
    LX TT cl X mi fr lo (mPf D π0 P) (mPXf D π0 PX) kc ks pc2 (rnL π L) (.ref M.length :: rnS π S) (M ++ [rnE π e]) := by
  obtain ⟨hR1, ha⟩ := rep_new hR hq hc
  have hs : (mset h q e q).isSome = true := by rw [mset_same]; rfl
  have g := kk π0 _ _ hR1 (mcL_set hL) (mcS_cons.mpr ⟨hs, mcS_set hS⟩) (fun j hj => (ha j (hI j hj)).trans (hA j hj)) (mIn_set hI)
  have e1 : rnS (fun j => if j = q then M.length else π j) (.ref q :: S) = .ref M.length :: rnS π S := by
    show Value.ref (if q = q then M.length else π q) :: rnS _ S = _
    rw [if_pos rfl, rnS_eq ha hS]
  rw [rnL_eq ha hL, e1] at g
  exact g
theorem lf_new {index ci N q : Nat} {fs : List Value} {kc ks : Nat} (d : decode mi.2.1 pc = .ok (.new index, 3)) (hf : mj_NS TT cl mi.1.cls index ci N fs) (hp : fs.all mj_pl = true) (hq : h q = none)
    (kk : LXf TT cl X mi fr lo D P PX kc ks (pc + 3) L (.ref q :: S) (mset h q (.inr (ci, fs)))) : LXf TT cl X mi fr lo D P PX (kc + 1) (ks + N) pc L S h := by
  intro π0 π M hR hL hS hA hI
  have hpl : ∀ v ∈ fs, mj_pl v = true := List.all_eq_true.mp hp
  have hc : mcE h (.inr (ci, fs)) := fun v hv => by
    have := hpl v hv
    cases v with
    | ref i => cases this
    | _ => trivial
  have e1 : fs.map (rnV π) = fs := by
    have : fs.map (rnV π) = fs.map id := List.map_congr_left (fun v hv => by
      have := hpl v hv
      cases v with
      | ref i => cases this
      | _ => rfl)
    rw [this, List.map_id]
  have g := lf_alloc hq hc kk hR hL hS hA hI
  rw [show rnE π (.inr (ci, fs)) = .inr (ci, fs) from by show Sum.inr (ci, fs.map (rnV π)) = _; rw [e1]] at g
  exact lx_new d hf hp g
theorem evf_of {a : List Value} (hX : mj_XOK X) (hpl : plainName mi.1.cls = true) (hw : (lg_sl a).length ≤ mi.2.2.1) (k : LXf TT cl X mi fr lo h P PX kc ks 0 (lv_args 0 a) [] h) : EVf TT cl X mi fr lo kc ks a h P PX := by
  intro π M hR hS
  have e1 : ∀ (a : List Value) (i : Nat), lv_args i (rnS π a) = rnL π (lv_args i a) := by
    intro a
    induction a with
    | nil => intro i; rfl
    | cons v r ih =>
      intro i
      show (i, rnV π v) :: lv_args (if (rnV π v).category = 2 then i + 2 else i + 1) (rnS π r) = (i, rnV π v) :: rnL π (lv_args _ r)
      rw [rnV_cat, ih]
  have e2 : ∀ (a : List Value) (i : Nat), mcS h a → mcL h (lv_args i a) := by
    intro a
    induction a with
    | nil => intro i _ q hq; cases hq
    | cons v r ih =>
      intro i hS q hq
      rcases List.mem_cons.mp hq with rfl | hq
      · exact (mcS_cons.mp hS).1
      · exact ih _ (mcS_cons.mp hS).2 q hq
  have e3 : (lg_sl (rnS π a)).length = (lg_sl a).length := by
    clear k hw hS
    induction a with
    | nil => rfl
    | cons v r ih =>
      cases v <;> first
        | (show (lg_sl (rnS π r)).length + 1 = (lg_sl r).length + 1; rw [ih])
        | (show (lg_sl (rnS π r)).length + 2 = (lg_sl r).length + 2; rw [ih])
  refine ev_of hX hpl (by rw [e3]; exact hw) ?_
  rw [e1]
  exact k π π M hR (e2 a 0 hS) (fun v hv => by cases hv) (fun _ _ => rfl) mIn_rf
theorem lf_call {len t n rc fr1 lo1 kc1 ks1 : Nat} {ci : MI} {a : List Value} {P1 : Option Value → mF → Prop} {PX1 : String → mF → Prop} (hk : kCall TT cl X mi pc len ci t n rc) (hn : a.length = n) (hrc : (t = 2 ∨ t = 5) → ∃ (i : Nat) (fs : List Value) (a1 : List Value), a = .ref i :: a1 ∧ h i = some (.inr (rc, fs))) (hr3 : t = 3 → ∃ (i : Nat) (a1 : List Value), a = .ref i :: a1) (hnt : snt t = true → ∀ E h1, ¬ PX1 E h1)
    (he : EVf TT cl X ci fr1 lo1 kc1 ks1 a h P1 PX1) (hf : fr1 + 1 ≤ fr ∧ 8 + (ci.2.2.1 + 11) + lo1 ≤ lo) (hst : (S.map fun v => v.category).sum ≤ 8)
    (kx : ∀ (E : String) (h1 : mF), PX1 E h1 → mIn h h1 → LTf TT cl X mi fr lo D P PX kc ks pc L E h1)
    (kk : ∀ (v : Option Value) (h1 : mF), P1 v h1 → mIn h h1 → LXf TT cl X mi fr lo D P PX kc ks (pc + len) L (v.toList ++ S) h1) : LXf TT cl X mi fr lo D P PX (kc1 + kc) (ks1 + ks) pc L (a.reverse ++ S) h := by
  intro π0 π M hR hL hS hA hI
  have hSa : mcS h a := fun v hv => hS v (List.mem_append_left _ (List.mem_reverse.mpr hv))
  have hSS : mcS h S := fun v hv => hS v (List.mem_append_right _ hv)
  have e1 : rnS π (a.reverse ++ S) = (rnS π a).reverse ++ rnS π S := by
    unfold rnS
    rw [List.map_append, List.map_reverse]
  rw [e1]
  refine hk fr lo fr1 lo1 _ _ (mPf h π P1) (mPXf h π PX1) kc ks kc1 ks1 _ _ _ (rnS π a) (by unfold rnS; rw [List.length_map]; exact hn) (fun q => ?_) (fun q => ?_) (fun q E M1 w => ?_) (he π M hR hSa) hf ?_ (fun E M1 w => ?_) (fun v M1 w => ?_)
  · obtain ⟨i, fs, a1, rfl, hi⟩ := hrc q
    exact ⟨π i, fs.map (rnV π), rnS π a1, rfl, hR.1 _ _ hi⟩
  · obtain ⟨i, a1, rfl⟩ := hr3 q
    exact ⟨π i, rnS π a1, rfl⟩
  · obtain ⟨π1, h1, w1, -⟩ := w
    exact hnt q E h1 w1
  · have : (rnS π S).map (fun v => v.category) = S.map (fun v => v.category) := by
      unfold rnS
      rw [List.map_map]
      exact List.map_congr_left (fun v _ => rnV_cat)
    rw [this]
    exact hst
  · obtain ⟨π1, h1, w1, hR1, ha1, hi1⟩ := w
    have g := kx E h1 w1 hi1 π0 π1 M1 hR1 (mcL_in hi1 hL) (fun j hj => (ha1 j (hI j hj)).trans (hA j hj)) (mIn_tr hI hi1)
    rw [rnL_eq ha1 hL] at g
    exact g
  · obtain ⟨π1, v1, h1, w1, hR1, rfl, hc1, ha1, hi1⟩ := w
    have g := kk v1 h1 w1 hi1 π0 π1 M1 hR1 (mcL_in hi1 hL) (fun v hv => (List.mem_append.mp hv).elim (fun z => hc1 v z) (fun z => mcS_in hi1 hSS v z)) (fun j hj => (ha1 j (hI j hj)).trans (hA j hj)) (mIn_tr hI hi1)
    have e2 : rnS π1 (v1.toList ++ S) = (v1.map (rnV π1)).toList ++ rnS π S := by
      rw [← rnS_eq ha1 hSS]
      cases v1 <;> rfl
    rw [rnL_eq ha1 hL, e2] at g
    exact g
end MF3
