section HP1
/-! the memory of the class and of the law: a table of shapes, ints and longs by cell -/
/-- a shape: an array (type, length, kind: 0 ints, 1 longs, else references and which), or an object (its fields: an int or a long stands for a cell of its own, a reference for itself) -/
abbrev sS : Type := (FieldType × Nat × Nat × (Nat → Option Nat)) ⊕ (Nat × List Value)
abbrev sM : Type := Nat → Option sS
abbrev mI : Type := Nat → Nat → Int
abbrev mJ : Type := Nat → Nat → Int64
def fv (I : mI) (J : mJ) (i k : Nat) (v : Value) : Value := match v with | .int _ => .int (Int32.ofInt (I i k)) | .long _ => .long (J i k) | v => v
def sden (I : mI) (J : mJ) (i : Nat) (s : sS) : mE := match s with
  | .inl (ty, n, 0, _) => .inl (ty, n, .inl (fun k => Int32.ofInt (I i k)))
  | .inl (ty, n, 1, _) => .inl (ty, n, .inr (.inl (J i)))
  | .inl (ty, n, _, f) => .inl (ty, n, .inr (.inr (.inr (.inr f))))
  | .inr (ci, fs) => .inr (ci, fs.mapIdx (fv I J i))
def hp (sh : sM) (I : mI) (J : mJ) : mF := fun i => (sh i).map (sden I J i)
def ipt (I : mI) (i k : Nat) (x : Int) : mI := fun a b => if a = i then (if b = k then x else I a b) else I a b
def jpt (J : mJ) (i k : Nat) (x : Int64) : mJ := fun a b => if a = i then (if b = k then x else J a b) else J a b
def spt (sh : sM) (i : Nat) (s : sS) : sM := fun a => if a = i then some s else sh a
def izr (I : mI) (i : Nat) : mI := fun a b => if a = i then 0 else I a b
def jzr (J : mJ) (i : Nat) : mJ := fun a b => if a = i then 0 else J a b
theorem ipt_o {I : mI} {i k a : Nat} {x : Int} (h : ¬ a = i) : ipt I i k x a = I a := by funext b; exact if_neg h
theorem ipt_s {I : mI} {i k b : Nat} {x : Int} : ipt I i k x i b = if b = k then x else I i b := if_pos rfl
theorem ipt_e {I : mI} {i k : Nat} {x : Int} : ipt I i k x i k = x := (if_pos rfl).trans (if_pos rfl)
theorem jpt_o {J : mJ} {i k a : Nat} {x : Int64} (h : ¬ a = i) : jpt J i k x a = J a := by funext b; exact if_neg h
theorem jpt_s {J : mJ} {i k b : Nat} {x : Int64} : jpt J i k x i b = if b = k then x else J i b := if_pos rfl
theorem jpt_e {J : mJ} {i k : Nat} {x : Int64} : jpt J i k x i k = x := (if_pos rfl).trans (if_pos rfl)
theorem izr_o {I : mI} {i a : Nat} (h : ¬ a = i) : izr I i a = I a := by funext b; exact if_neg h
theorem izr_s {I : mI} {i b : Nat} : izr I i i b = 0 := if_pos rfl
theorem jzr_o {J : mJ} {i a : Nat} (h : ¬ a = i) : jzr J i a = J a := by funext b; exact if_neg h
theorem jzr_s {J : mJ} {i b : Nat} : jzr J i i b = 0 := if_pos rfl
theorem spt_o {sh : sM} {i a : Nat} {s : sS} (h : ¬ a = i) : spt sh i s a = sh a := if_neg h
theorem spt_s {sh : sM} {i : Nat} {s : sS} : spt sh i s i = some s := if_pos rfl
theorem fv_eq {I I1 : mI} {J J1 : mJ} {i : Nat} (h1 : I i = I1 i) (h2 : J i = J1 i) : fv I J i = fv I1 J1 i := by
  funext k v
  cases v with
  | int x => show Value.int _ = Value.int _; rw [h1]
  | long x => show Value.long _ = Value.long _; rw [h2]
  | float x => rfl
  | double x => rfl
  | null => rfl
  | ref x => rfl
  | retAddr x => rfl
theorem sden_eq {I I1 : mI} {J J1 : mJ} {i : Nat} {s : sS} (h1 : I i = I1 i) (h2 : J i = J1 i) : sden I J i s = sden I1 J1 i s := by
  rcases s with ⟨ty, n, kk, f⟩ | ⟨ci, fs⟩
  · match kk with
    | 0 => show Sum.inl (ty, n, Sum.inl _) = Sum.inl (ty, n, Sum.inl _); rw [h1]
    | 1 => show Sum.inl (ty, n, _) = Sum.inl (ty, n, _); rw [h2]
    | k + 2 => rfl
  · show Sum.inr (ci, fs.mapIdx (fv I J i)) = Sum.inr (ci, fs.mapIdx (fv I1 J1 i))
    rw [fv_eq h1 h2]
theorem hp_at {sh : sM} {I : mI} {J : mJ} {i : Nat} {s : sS} (h : sh i = some s) : hp sh I J i = some (sden I J i s) := by
  unfold hp; rw [h]; rfl
theorem hp_no {sh : sM} {I : mI} {J : mJ} {i : Nat} (h : sh i = none) : hp sh I J i = none := by
  unfold hp; rw [h]; rfl
theorem hp_ipt {sh : sM} {I : mI} {J : mJ} {i k : Nat} {x : Int} {s : sS} (h : sh i = some s) : mset (hp sh I J) i (sden (ipt I i k x) J i s) = hp sh (ipt I i k x) J := by
  funext j
  by_cases q : j = i
  · subst q
    rw [mset_same, hp_at h]
  · rw [mset_other q]
    unfold hp
    congr 1
    funext s1
    exact sden_eq (ipt_o q).symm rfl
theorem hp_jpt {sh : sM} {I : mI} {J : mJ} {i k : Nat} {x : Int64} {s : sS} (h : sh i = some s) : mset (hp sh I J) i (sden I (jpt J i k x) i s) = hp sh I (jpt J i k x) := by
  funext j
  by_cases q : j = i
  · subst q
    rw [mset_same, hp_at h]
  · rw [mset_other q]
    unfold hp
    congr 1
    funext s1
    exact sden_eq rfl (jpt_o q).symm
theorem hp_spt {sh : sM} {I : mI} {J : mJ} {i : Nat} {s : sS} : mset (hp sh I J) i (sden I J i s) = hp (spt sh i s) I J := by
  funext j
  by_cases q : j = i
  · subst q
    rw [mset_same, hp_at spt_s]
  · rw [mset_other q]
    unfold hp
    rw [spt_o q]
theorem hp_new {sh : sM} {I : mI} {J : mJ} {i : Nat} {s : sS} : mset (hp sh I J) i (sden (izr I i) (jzr J i) i s) = hp (spt sh i s) (izr I i) (jzr J i) := by
  funext j
  by_cases q : j = i
  · subst q
    rw [mset_same, hp_at spt_s]
  · rw [mset_other q]
    unfold hp
    rw [spt_o q]
    congr 1
    funext s1
    exact sden_eq (izr_o q).symm (jzr_o q).symm
theorem fs_at {I : mI} {J : mJ} {i k : Nat} {fs : List Value} {v : Value} (h : fs[k]? = some v) : (fs.mapIdx (fv I J i))[k]? = some (fv I J i k v) := by
  rw [List.getElem?_mapIdx, h]; rfl
theorem fs_seti {I : mI} {J : mJ} {i k : Nat} {fs : List Value} {z : Int32} {x : Int} (h : fs[k]? = some (.int z)) : (fs.mapIdx (fv I J i)).set k (.int (Int32.ofInt x)) = fs.mapIdx (fv (ipt I i k x) J i) := by
  have hlt := (List.getElem?_eq_some_iff.mp h).1
  refine List.ext_getElem? (fun j => ?_)
  rw [List.getElem?_set, List.getElem?_mapIdx, List.getElem?_mapIdx, List.length_mapIdx]
  by_cases q : k = j
  · subst q
    rw [if_pos rfl, if_pos hlt, h]
    show some (Value.int _) = some (Value.int _)
    rw [ipt_e]
  · rw [if_neg q]
    congr 1
    funext v
    cases v with
    | int y => show Value.int _ = Value.int _; rw [ipt_s, if_neg (fun e => q e.symm)]
    | long y => rfl
    | float y => rfl
    | double y => rfl
    | null => rfl
    | ref y => rfl
    | retAddr y => rfl
theorem fs_setl {I : mI} {J : mJ} {i k : Nat} {fs : List Value} {z : Int64} {x : Int64} (h : fs[k]? = some (.long z)) : (fs.mapIdx (fv I J i)).set k (.long x) = fs.mapIdx (fv I (jpt J i k x) i) := by
  have hlt := (List.getElem?_eq_some_iff.mp h).1
  refine List.ext_getElem? (fun j => ?_)
  rw [List.getElem?_set, List.getElem?_mapIdx, List.getElem?_mapIdx, List.length_mapIdx]
  by_cases q : k = j
  · subst q
    rw [if_pos rfl, if_pos hlt, h]
    show some (Value.long _) = some (Value.long _)
    rw [jpt_e]
  · rw [if_neg q]
    congr 1
    funext v
    cases v with
    | int y => rfl
    | long y => show Value.long _ = Value.long _; rw [jpt_s, if_neg (fun e => q e.symm)]
    | float y => rfl
    | double y => rfl
    | null => rfl
    | ref y => rfl
    | retAddr y => rfl
theorem fs_setr {I : mI} {J : mJ} {i k : Nat} {fs : List Value} {v : Value} (h : mj_isr v = true) : (fs.mapIdx (fv I J i)).set k v = (fs.set k v).mapIdx (fv I J i) := by
  refine List.ext_getElem? (fun j => ?_)
  rw [List.getElem?_set, List.getElem?_mapIdx, List.getElem?_mapIdx, List.length_mapIdx, List.getElem?_set]
  by_cases q : k = j
  · subst q
    rw [if_pos rfl, if_pos rfl]
    split
    · cases v <;> first | rfl | cases h
    · rfl
  · rw [if_neg q, if_neg q]
/-- numbers as ints -/
theorem oi_t {z : Int} (h : -2147483648 ≤ z ∧ z < 2147483648) : (Int32.ofInt z).toInt = z := Int32.toInt_ofInt_of_le (by omega) (by omega)
theorem oi_n {z : Int} (h : 0 ≤ z ∧ z < 2147483648) : (Int32.ofInt z).toNatClampNeg = z.toNat := by
  show (Int32.ofInt z).toInt.toNat = z.toNat
  rw [oi_t (by omega)]
theorem oi_lt {a b : Int} (ha : -2147483648 ≤ a ∧ a < 2147483648) (hb : -2147483648 ≤ b ∧ b < 2147483648) : Int32.ofInt a < Int32.ofInt b ↔ a < b := by rw [Int32.lt_iff_toInt_lt, oi_t ha, oi_t hb]
theorem oi_le {a b : Int} (ha : -2147483648 ≤ a ∧ a < 2147483648) (hb : -2147483648 ≤ b ∧ b < 2147483648) : Int32.ofInt a ≤ Int32.ofInt b ↔ a ≤ b := by rw [Int32.le_iff_toInt_le, oi_t ha, oi_t hb]
theorem oi_eq {a b : Int} (ha : -2147483648 ≤ a ∧ a < 2147483648) (hb : -2147483648 ≤ b ∧ b < 2147483648) : Int32.ofInt a = Int32.ofInt b ↔ a = b := by rw [← Int32.toInt_inj, oi_t ha, oi_t hb]
theorem oi_0 : (0 : Int32) = Int32.ofInt 0 := rfl
theorem oi_1 : (1 : Int32) = Int32.ofInt 1 := rfl
theorem oi_nat (n : Nat) : Int32.ofInt (n : Int) = Int32.ofNat n := by
  apply Int32.toBitVec_inj.mp
  apply BitVec.eq_of_toNat_eq
  show (BitVec.ofInt 32 (n : Int)).toNat = (BitVec.ofNat 32 n).toNat
  simp [BitVec.toNat_ofInt, BitVec.toNat_ofNat]
theorem oi_in {j : Int} {n : Nat} (h0 : 0 ≤ j) (h1 : j < n) (hn : n ≤ 2147483647) : vp_in (Int32.ofInt j) n := by
  unfold vp_in
  rw [oi_n (by omega), show (0 : Int32) = Int32.ofInt 0 from rfl, oi_lt (by omega) (by omega)]
  omega
end HP1
