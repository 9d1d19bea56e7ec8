section BQ1
def bqV (a b : sV) : Bool := match a, b with
  | .inl x, .inl y => decide (x = y)
  | .inr (p, j), .inr (q, k) => decide (p = q) && Nat.beq j k
  | _, _ => false
def bqL {α : Type} (f : α → α → Bool) : List α → List α → Bool
  | [], [] => true
  | a :: l, b :: m => f a b && bqL f l m
  | _, _ => false
def bqP (a b : Nat × sV) : Bool := Nat.beq a.1 b.1 && bqV a.2 b.2
def bqE (a b : sE) : Bool := match a, b with
  | .inl (c, fs), .inl (d, gs) => Nat.beq c d && bqL bqV fs gs
  | .inr (ty, n, k, us), .inr (ty2, n2, k2, us2) => decide (ty = ty2) && Nat.beq n n2 && Nat.beq k k2 && bqL bqP us us2
  | _, _ => false
theorem bqV_ok {a b : sV} (h : bqV a b = true) : a = b := by
  unfold bqV at h
  split at h
  · rw [of_decide_eq_true h]
  · rw [Bool.and_eq_true] at h
    rw [of_decide_eq_true h.1, Nat.eq_of_beq_eq_true h.2]
  · cases h
theorem bqL_ok {α : Type} {f : α → α → Bool} (hf : ∀ a b, f a b = true → a = b) : ∀ {l m : List α}, bqL f l m = true → l = m := by
  intro l
  induction l with
  | nil =>
    intro m h
    cases m with
    | nil => rfl
    | cons b m => cases h
  | cons a l ih =>
    intro m h
    cases m with
    | nil => cases h
    | cons b m =>
      unfold bqL at h
      rw [Bool.and_eq_true] at h
      rw [hf _ _ h.1, ih h.2]
theorem bqP_ok {a b : Nat × sV} (h : bqP a b = true) : a = b := by
  unfold bqP at h
  rw [Bool.and_eq_true] at h
  exact Prod.ext (Nat.eq_of_beq_eq_true h.1) (bqV_ok h.2)
theorem bqE_ok {a b : sE} (h : bqE a b = true) : a = b := by
  unfold bqE at h
  split at h
  · rw [Bool.and_eq_true] at h
    rw [Nat.eq_of_beq_eq_true h.1, bqL_ok (fun _ _ => bqV_ok) h.2]
  · simp only [Bool.and_eq_true] at h
    obtain ⟨⟨⟨h1, h2⟩, h3⟩, h4⟩ := h
    rw [of_decide_eq_true h1, Nat.eq_of_beq_eq_true h2, Nat.eq_of_beq_eq_true h3, bqL_ok (fun _ _ => bqP_ok) h4]
  · cases h
def bqM (a b : List sE) : Bool := bqL bqE a b
theorem bqM_ok {a b : List sE} (h : bqM a b = true) : a = b := bqL_ok (fun _ _ => bqE_ok) h
end BQ1
