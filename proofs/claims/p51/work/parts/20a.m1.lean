section MF1
/-! a heap that is a map: its indices are chosen by the one who proves -/
abbrev mF : Type := Nat → Option mE
def rnV (π : Nat → Nat) (v : Value) : Value := match v with | .ref i => .ref (π i) | v => v
def rnA (π : Nat → Nat) (a : vp_A) : vp_A := (a.1, match a.2 with | .inr (.inr (.inr (.inr f))) => .inr (.inr (.inr (.inr (fun j => (f j).map π)))) | x => x)
def rnE (π : Nat → Nat) (e : mE) : mE := match e with | .inl (ty, x) => .inl (ty, rnA π x) | .inr (ci, fs) => .inr (ci, fs.map (rnV π))
def rnL (π : Nat → Nat) (L : List (Nat × Value)) : List (Nat × Value) := L.map (fun q => (q.1, rnV π q.2))
def rnS (π : Nat → Nat) (S : List Value) : List Value := S.map (rnV π)
/-- a reference of it is there -/
def mcV (h : mF) (v : Value) : Prop := match v with | .ref i => (h i).isSome = true | _ => True
def mcE (h : mF) (e : mE) : Prop := match e with
  | .inl (_, _, .inr (.inr (.inr (.inr f)))) => ∀ j i, f j = some i → (h i).isSome = true
  | .inl _ => True
  | .inr (_, fs) => ∀ v ∈ fs, mcV h v
def mcL (h : mF) (L : List (Nat × Value)) : Prop := ∀ q ∈ L, mcV h q.2
def mcS (h : mF) (S : List Value) : Prop := ∀ v ∈ S, mcV h v
def mRep (π : Nat → Nat) (h : mF) (M : mH) : Prop := (∀ i e, h i = some e → M[π i]? = some (rnE π e)) ∧ (∀ i j, (h i).isSome = true → (h j).isSome = true → π i = π j → i = j) ∧ ∀ i e, h i = some e → mcE h e
def mIn (D h : mF) : Prop := ∀ i, (D i).isSome = true → (h i).isSome = true
def mAg (D : mF) (π0 π : Nat → Nat) : Prop := ∀ i, (D i).isSome = true → π i = π0 i
def mPf (D : mF) (π0 : Nat → Nat) (P : Option Value → mF → Prop) : Option Value → mH → Prop := fun v M => ∃ (π : Nat → Nat) (v1 : Option Value) (h1 : mF), P v1 h1 ∧ mRep π h1 M ∧ v = v1.map (rnV π) ∧ mcS h1 v1.toList ∧ mAg D π0 π ∧ mIn D h1
def mPXf (D : mF) (π0 : Nat → Nat) (PX : String → mF → Prop) : String → mH → Prop := fun E M => ∃ (π : Nat → Nat) (h1 : mF), PX E h1 ∧ mRep π h1 M ∧ mAg D π0 π ∧ mIn D h1
def LXf (TT : List Cond) (cl : List vw_C) (X : XT) (mi : MI) (fr lo : Nat) (D : mF) (P : Option Value → mF → Prop) (PX : String → mF → Prop) (kc ks pc : Nat) (L : List (Nat × Value)) (S : List Value) (h : mF) : Prop :=
  ∀ (π0 π : Nat → Nat) (M : mH), mRep π h M → mcL h L → mcS h S → mAg D π0 π → mIn D h → LX TT cl X mi fr lo (mPf D π0 P) (mPXf D π0 PX) kc ks pc (rnL π L) (rnS π S) M
def EVf (TT : List Cond) (cl : List vw_C) (X : XT) (mi : MI) (fr lo kc ks : Nat) (a : List Value) (h : mF) (P : Option Value → mF → Prop) (PX : String → mF → Prop) : Prop :=
  ∀ (π : Nat → Nat) (M : mH), mRep π h M → mcS h a → EV TT cl X mi fr lo kc ks (rnS π a) M (mPf h π P) (mPXf h π PX)
theorem rnV_cat {π : Nat → Nat} {v : Value} : (rnV π v).category = v.category := by cases v <;> rfl
theorem rnV_isr {π : Nat → Nat} {v : Value} : mj_isr (rnV π v) = mj_isr v := by cases v <;> rfl
theorem rnV_isR {π : Nat → Nat} {v : Value} : mj_isR (rnV π v) = mj_isR v := by cases v <;> rfl
theorem rnV_fits {π : Nat → Nat} {ty : FieldType} {v : Value} : mj_fits ty (rnV π v) = mj_fits ty v := by cases v <;> cases ty <;> rfl
theorem get_rn {π : Nat → Nat} {L : List (Nat × Value)} {i : Nat} : mj_get (rnL π L) i = (mj_get L i).map (rnV π) := by
  unfold mj_get rnL
  induction L with
  | nil => rfl
  | cons q r ih =>
    rw [List.map_cons, List.find?_cons, List.find?_cons]
    cases e : q.1 == i with
    | true => simp [e]
    | false => simp only [e]; exact ih
theorem get_rn' {π : Nat → Nat} {L : List (Nat × Value)} {i : Nat} {v : Value} (h : mj_get L i = some v) : mj_get (rnL π L) i = some (rnV π v) := by
  rw [get_rn, h]; rfl
theorem get_mc {h : mF} {L : List (Nat × Value)} {i : Nat} {v : Value} (hL : mcL h L) (hg : mj_get L i = some v) : mcV h v := by
  unfold mj_get at hg
  obtain ⟨q, hq, rfl⟩ := Option.map_eq_some_iff.mp hg
  exact hL q (List.mem_of_find?_eq_some hq)
theorem put1_rn {π : Nat → Nat} {L : List (Nat × Value)} {i : Nat} {v : Value} : mj_put1 i (rnV π v) (rnL π L) = rnL π (mj_put1 i v L) := by
  unfold mj_put1 rnL
  rw [List.map_cons, List.filter_map]
  congr 2
  refine List.filter_congr (fun q _ => ?_)
  simp [Function.comp, rnV_cat]
theorem put2_rn {π : Nat → Nat} {L : List (Nat × Value)} {i : Nat} {v : Value} : mj_put2 i (rnV π v) (rnL π L) = rnL π (mj_put2 i v L) := by
  unfold mj_put2 rnL
  rw [List.map_cons, List.filter_map]
  congr 2
  refine List.filter_congr (fun q _ => ?_)
  simp [Function.comp, rnV_cat]
theorem put1_mc {h : mF} {L : List (Nat × Value)} {i : Nat} {v : Value} (hL : mcL h L) (hv : mcV h v) : mcL h (mj_put1 i v L) := by
  intro q hq
  rcases List.mem_cons.mp hq with rfl | hq
  · exact hv
  · exact hL q (List.mem_filter.mp hq).1
theorem put2_mc {h : mF} {L : List (Nat × Value)} {i : Nat} {v : Value} (hL : mcL h L) (hv : mcV h v) : mcL h (mj_put2 i v L) := by
  intro q hq
  rcases List.mem_cons.mp hq with rfl | hq
  · exact hv
  · exact hL q (List.mem_filter.mp hq).1
theorem mcS_cons {h : mF} {v : Value} {S : List Value} : mcS h (v :: S) ↔ mcV h v ∧ mcS h S := List.forall_mem_cons
def mset (h : mF) (i : Nat) (e : mE) : mF := fun j => if j = i then some e else h j
theorem mset_same {h : mF} {i : Nat} {e : mE} : mset h i e i = some e := if_pos rfl
theorem mset_other {h : mF} {i j : Nat} {e : mE} (hj : ¬ j = i) : mset h i e j = h j := if_neg hj
theorem mset_isSome {h : mF} {i j : Nat} {e : mE} (hi : (h j).isSome = true) : (mset h i e j).isSome = true := by
  unfold mset
  split
  · rfl
  · exact hi
theorem mcV_mset {h : mF} {i : Nat} {e : mE} {v : Value} (hv : mcV h v) : mcV (mset h i e) v := by
  cases v with
  | ref k => exact mset_isSome hv
  | _ => trivial
theorem mcE_mset {h : mF} {i : Nat} {e e1 : mE} (hv : mcE h e1) : mcE (mset h i e) e1 := by
  rcases e1 with ⟨ty, n, a | a | a | a | f⟩ | ⟨ci, fs⟩
  · trivial
  · trivial
  · trivial
  · trivial
  · exact fun j k hk => mset_isSome (hv j k hk)
  · exact fun v hm => mcV_mset (hv v hm)
theorem rep_set {π : Nat → Nat} {h : mF} {M : mH} {i : Nat} {e e0 : mE} (hR : mRep π h M) (hi : h i = some e0) (hc : mcE h e) : mRep π (mset h i e) (M.set (π i) (rnE π e)) := by
  have hlt := (List.getElem?_eq_some_iff.mp (hR.1 i e0 hi)).1
  have key : ∀ j, (mset h i e j).isSome = true → (h j).isSome = true := fun j hj => by
    by_cases q : j = i
    · rw [q, hi]; rfl
    · rw [mset_other q] at hj; exact hj
  refine ⟨fun j e1 hj => ?_, fun j k hj hk => hR.2.1 j k (key j hj) (key k hk), fun j e1 hj => ?_⟩
  · by_cases q : j = i
    · subst q
      rw [mset_same] at hj
      cases hj
      rw [List.getElem?_set, if_pos rfl, if_pos hlt]
    · rw [mset_other q] at hj
      have hne : ¬ π i = π j := fun z => q (hR.2.1 j i (by rw [hj]; rfl) (by rw [hi]; rfl) z.symm)
      rw [List.getElem?_set, if_neg hne]
      exact hR.1 j e1 hj
  · by_cases q : j = i
    · subst q
      rw [mset_same] at hj
      cases hj
      exact mcE_mset hc
    · rw [mset_other q] at hj
      exact mcE_mset (hR.2.2 j e1 hj)
theorem rnV_eq {π π1 : Nat → Nat} {h : mF} {v : Value} (ha : mAg h π π1) (hv : mcV h v) : rnV π1 v = rnV π v := by
  cases v with
  | ref k => show Value.ref _ = Value.ref _; rw [ha k hv]
  | _ => rfl
theorem rnS_eq {π π1 : Nat → Nat} {h : mF} {S : List Value} (ha : mAg h π π1) (hv : mcS h S) : rnS π1 S = rnS π S := List.map_congr_left (fun v hm => rnV_eq ha (hv v hm))
theorem rnL_eq {π π1 : Nat → Nat} {h : mF} {L : List (Nat × Value)} (ha : mAg h π π1) (hv : mcL h L) : rnL π1 L = rnL π L := List.map_congr_left (fun q hm => by rw [rnV_eq ha (hv q hm)])
theorem rnE_eq {π π1 : Nat → Nat} {h : mF} {e : mE} (ha : mAg h π π1) (hv : mcE h e) : rnE π1 e = rnE π e := by
  rcases e with ⟨ty, n, a | a | a | a | f⟩ | ⟨ci, fs⟩
  · rfl
  · rfl
  · rfl
  · rfl
  · have : (fun j => (f j).map π1) = (fun j => (f j).map π) := by
      funext j
      cases hj : f j with
      | none => rfl
      | some k => show some _ = some _; rw [ha k (hv j k hj)]
    exact congrArg (fun g : Nat → Option Nat => (Sum.inl (ty, n, Sum.inr (Sum.inr (Sum.inr (Sum.inr g)))) : mE)) this
  · show Sum.inr (ci, rnS π1 fs) = Sum.inr (ci, rnS π fs)
    rw [rnS_eq ha hv]
theorem mcV_in {h h1 : mF} {v : Value} (hi : mIn h h1) (hv : mcV h v) : mcV h1 v := by
  cases v with
  | ref k => exact hi k hv
  | _ => trivial
theorem mcS_in {h h1 : mF} {S : List Value} (hi : mIn h h1) (hv : mcS h S) : mcS h1 S := fun v hm => mcV_in hi (hv v hm)
theorem mcL_in {h h1 : mF} {L : List (Nat × Value)} (hi : mIn h h1) (hv : mcL h L) : mcL h1 L := fun v hm => mcV_in hi (hv v hm)
/-- a new cell, at an index that is free -/
theorem rep_new {π : Nat → Nat} {h : mF} {M : mH} {q : Nat} {e : mE} (hR : mRep π h M) (hq : h q = none) (hc : mcE h e) : mRep (fun j => if j = q then M.length else π j) (mset h q e) (M ++ [rnE π e]) ∧ mAg h π (fun j => if j = q then M.length else π j) := by
  have ha : mAg h π (fun j => if j = q then M.length else π j) := fun j hj => if_neg (fun z => by subst z; rw [hq] at hj; cases hj)
  have hlt : ∀ j, (h j).isSome = true → π j < M.length := fun j hj => by
    obtain ⟨e1, he⟩ := Option.isSome_iff_exists.mp hj
    exact (List.getElem?_eq_some_iff.mp (hR.1 j e1 he)).1
  have key : ∀ j, ¬ j = q → (mset h q e j).isSome = true → (h j).isSome = true := fun j q hj => by rw [mset_other q] at hj; exact hj
  refine ⟨⟨fun j e1 hj => ?_, fun j k hj hk z => ?_, fun j e1 hj => ?_⟩, ha⟩
  · by_cases z : j = q
    · subst z
      rw [mset_same] at hj
      cases hj
      dsimp only
      rw [if_pos rfl, rnE_eq ha hc]
      simp
    · rw [mset_other z] at hj
      dsimp only
      rw [if_neg z, rnE_eq ha (hR.2.2 j e1 hj)]
      have h1 := hR.1 j e1 hj
      rw [List.getElem?_append_left (List.getElem?_eq_some_iff.mp h1).1]
      exact h1
  · dsimp only at z
    by_cases z1 : j = q
    · by_cases z2 : k = q
      · rw [z1, z2]
      · have := hlt k (key k z2 hk)
        rw [if_pos z1, if_neg z2] at z
        omega
    · by_cases z2 : k = q
      · have := hlt j (key j z1 hj)
        rw [if_neg z1, if_pos z2] at z
        omega
      · rw [if_neg z1, if_neg z2] at z
        exact hR.2.1 j k (key j z1 hj) (key k z2 hk) z
  · by_cases z : j = q
    · subst z
      rw [mset_same] at hj
      cases hj
      exact mcE_mset hc
    · rw [mset_other z] at hj
      exact mcE_mset (hR.2.2 j e1 hj)
end MF1
