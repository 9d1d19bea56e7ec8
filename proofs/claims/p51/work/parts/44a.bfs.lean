section BF1
/-! states met breadth first: how many, the queue, from, by, depth, seen, what was found -/
abbrev BST : Type := Nat × (Nat → Nat) × (Nat → Nat) × (Nat → Nat) × (Nat → Nat) × (Nat → Bool) × Option (Nat × Nat)
def bCnt (b : BST) : Nat := b.1
def bQ (b : BST) : Nat → Nat := b.2.1
def bF (b : BST) : Nat → Nat := b.2.2.1
def bB (b : BST) : Nat → Nat := b.2.2.2.1
def bD (b : BST) : Nat → Nat := b.2.2.2.2.1
def bS (b : BST) : Nat → Bool := b.2.2.2.2.2.1
def bX (b : BST) : Option (Nat × Nat) := b.2.2.2.2.2.2
def upN {α : Type} (f : Nat → α) (k : Nat) (v : α) : Nat → α := fun j => if j = k then v else f j
theorem upN_s {α : Type} {f : Nat → α} {k : Nat} {v : α} : upN f k v k = v := if_pos rfl
theorem upN_o {α : Type} {f : Nat → α} {k j : Nat} {v : α} (h : ¬ j = k) : upN f k v j = f j := if_neg h
def bMeet (b : BST) (y x ch dep : Nat) : BST := (bCnt b + 1, upN (bQ b) (bCnt b) y, upN (bF b) y x, upN (bB b) y ch, upN (bD b) y dep, upN (bS b) y true, bX b)
def bFind (ul : Nat → Nat → Bool) (x ch : Nat) (b : BST) : BST := (bCnt b, bQ b, bF b, bB b, bD b, bS b, if (bX b).isNone && ul x ch then some (x, ch) else bX b)
def bGo (nx : Nat → Nat → Nat) (x ch : Nat) (b : BST) : BST := if bS b (nx x ch) then b else bMeet b (nx x ch) x ch (bD b x + 1)
def bStep (kp : Nat → Bool) (nx : Nat → Nat → Nat) (ul : Nat → Nat → Bool) (x ch : Nat) (b : BST) : BST := if kp ch then bGo nx x ch (bFind ul x ch b) else b
def bExp (kp : Nat → Bool) (nx : Nat → Nat → Nat) (ul : Nat → Nat → Bool) (x : Nat) : Nat → BST → BST
  | 0, b => b
  | n + 1, b => bStep kp nx ul x n (bExp kp nx ul x n b)
def bIni (f : Nat) : BST := (1, fun _ => f, fun _ => f, fun _ => 0, fun _ => 0, fun j => decide (j = f), none)
def bfs (kp : Nat → Bool) (nx : Nat → Nat → Nat) (ul : Nat → Nat → Bool) (m f : Nat) : Nat → BST
  | 0 => bIni f
  | k + 1 => if k < bCnt (bfs kp nx ul m f k) then bExp kp nx ul (bQ (bfs kp nx ul m f k) k) m (bfs kp nx ul m f k) else bfs kp nx ul m f k
theorem bfs_end {kp : Nat → Bool} {nx : Nat → Nat → Nat} {ul : Nat → Nat → Bool} {m f k : Nat} (h : bCnt (bfs kp nx ul m f k) ≤ k) : ∀ j, k ≤ j → bfs kp nx ul m f j = bfs kp nx ul m f k := by
  intro j
  induction j with
  | zero => intro hj; rw [show k = 0 by omega]
  | succ j ih =>
    intro hj
    rcases Nat.lt_or_ge j k with q | q
    · rw [show j + 1 = k by omega]
    · have e := ih q
      show (if j < bCnt (bfs kp nx ul m f j) then _ else bfs kp nx ul m f j) = _
      rw [e, if_neg (by omega)]
theorem cb_up {p : Nat → Bool} {k : Nat} (hp : p k = false) : ∀ n : Nat, k < n → cb (upN p k true) n = cb p n + 1 := by
  intro n
  induction n with
  | zero => intro h; omega
  | succ n ih =>
    intro h
    show cb (upN p k true) n + (if upN p k true n = true then 1 else 0) = cb p n + (if p n = true then 1 else 0) + 1
    by_cases q : n = k
    · subst q
      rw [upN_s, hp, cb_cong (q := p) (fun i hi => upN_o (by omega))]
      rfl
    · rw [upN_o q, ih (by omega)]
      omega
theorem cb_all {p : Nat → Bool} {k n : Nat} (hk : k < n) (hp : p k = false) : cb p n < n := by
  have h := cb_up hp n hk
  have h2 := cb_le (p := upN p k true) n
  omega
/-- what holds of all that is met -/
def BI (kp : Nat → Bool) (nx : Nat → Nat → Nat) (ul : Nat → Nat → Bool) (m f S : Nat) (b : BST) : Prop :=
  (∀ j, j < bCnt b → bQ b j < S ∧ bS b (bQ b j) = true) ∧ (∀ y, bS b y = true → y < S) ∧ bCnt b = cb (bS b) S ∧ (bS b f = true ∧ bD b f = 0 ∧ bF b f = f) ∧
  (∀ y, bS b y = true → ¬ y = f → bS b (bF b y) = true ∧ nx (bF b y) (bB b y) = y ∧ bB b y < m ∧ kp (bB b y) = true ∧ bD b y = bD b (bF b y) + 1) ∧
  (∀ y, bS b y = true → bD b y < bCnt b ∧ bB b y < m ∧ bS b (bF b y) = true) ∧ (∀ x ch, bX b = some (x, ch) → bS b x = true ∧ ch < m ∧ ul x ch = true ∧ kp ch = true)
/-- what is met stays as it is -/
def BLe (b b1 : BST) : Prop := bCnt b ≤ bCnt b1 ∧ (∀ j, j < bCnt b → bQ b1 j = bQ b j) ∧ (∀ y, bS b y = true → bS b1 y = true ∧ bF b1 y = bF b y ∧ bB b1 y = bB b y ∧ bD b1 y = bD b y) ∧ (∀ q, bX b = some q → bX b1 = some q)
theorem BLe_rf {b : BST} : BLe b b := ⟨Nat.le_refl _, fun _ _ => rfl, fun _ h => ⟨h, rfl, rfl, rfl⟩, fun _ h => h⟩
theorem BLe_tr {a b c : BST} (h : BLe a b) (g : BLe b c) : BLe a c :=
  ⟨Nat.le_trans h.1 g.1, fun j hj => (g.2.1 j (Nat.lt_of_lt_of_le hj h.1)).trans (h.2.1 j hj), fun y hy => by
    have h1 := h.2.2.1 y hy
    have g1 := g.2.2.1 y h1.1
    exact ⟨g1.1, g1.2.1.trans h1.2.1, g1.2.2.1.trans h1.2.2.1, g1.2.2.2.trans h1.2.2.2⟩, fun q hq => g.2.2.2 q (h.2.2.2 q hq)⟩
variable {kp : Nat → Bool} {nx : Nat → Nat → Nat} {ul : Nat → Nat → Bool} {m f S : Nat}
theorem BI_find {b : BST} {x ch : Nat} (h : BI kp nx ul m f S b) (hx : bS b x = true) (hc : ch < m) (hk : kp ch = true) : BI kp nx ul m f S (bFind ul x ch b) ∧ BLe b (bFind ul x ch b) := by
  refine ⟨⟨h.1, h.2.1, h.2.2.1, h.2.2.2.1, h.2.2.2.2.1, h.2.2.2.2.2.1, fun x1 c1 e => ?_⟩, Nat.le_refl _, fun _ _ => rfl, fun _ h => ⟨h, rfl, rfl, rfl⟩, fun q hq => ?_⟩
  · unfold bFind bX at e
    dsimp only at e
    split at e
    · rename_i hh
      cases e
      rw [Bool.and_eq_true] at hh
      exact ⟨hx, hc, hh.2, hk⟩
    · exact h.2.2.2.2.2.2 x1 c1 e
  · show (if (bX b).isNone && ul x ch then some (x, ch) else bX b) = some q
    rw [hq]
    rfl
theorem BI_meet {b : BST} {x ch : Nat} (h : BI kp nx ul m f S b) (hx : bS b x = true) (hc : ch < m) (hk : kp ch = true) (hy : nx x ch < S) (hs : bS b (nx x ch) = false) :
    BI kp nx ul m f S (bMeet b (nx x ch) x ch (bD b x + 1)) ∧ BLe b (bMeet b (nx x ch) x ch (bD b x + 1)) := by
  obtain ⟨h1, h2, h3, h4, h5, h6, h7⟩ := h
  have hxy : ¬ x = nx x ch := fun e => by rw [← e, hx] at hs; cases hs
  have hfy : ¬ f = nx x ch := fun e => by rw [← e, h4.1] at hs; cases hs
  have keep : ∀ y, bS b y = true → ¬ y = nx x ch := fun y hy2 e => by rw [e, hs] at hy2; cases hy2
  have sn : ∀ y, bS b y = true → upN (bS b) (nx x ch) true y = true := fun y hy2 => by rw [upN_o (keep y hy2)]; exact hy2
  refine ⟨⟨fun j hj => ?_, fun y hy2 => ?_, ?_, ⟨sn f h4.1, ?_, ?_⟩, fun y hy2 hyf => ?_, fun y hy2 => ?_, fun x1 c1 e => ?_⟩, Nat.le_succ _, fun j hj => upN_o (by omega), fun y hy2 => ⟨sn y hy2, upN_o (keep y hy2), upN_o (keep y hy2), upN_o (keep y hy2)⟩, fun q hq => hq⟩
  · show upN (bQ b) (bCnt b) (nx x ch) j < S ∧ upN (bS b) (nx x ch) true (upN (bQ b) (bCnt b) (nx x ch) j) = true
    by_cases e : j = bCnt b
    · rw [e, upN_s, upN_s]; exact ⟨hy, rfl⟩
    · have hj2 : j < bCnt b := by have : j < bCnt b + 1 := hj; omega
      rw [upN_o e]
      exact ⟨(h1 j hj2).1, sn _ (h1 j hj2).2⟩
  · by_cases e : y = nx x ch
    · rw [e]; exact hy
    · have hy3 : upN (bS b) (nx x ch) true y = true := hy2
      rw [upN_o e] at hy3
      exact h2 y hy3
  · show bCnt b + 1 = cb (upN (bS b) (nx x ch) true) S
    rw [cb_up hs S hy, h3]
  · show upN (bD b) (nx x ch) (bD b x + 1) f = 0
    rw [upN_o hfy]; exact h4.2.1
  · show upN (bF b) (nx x ch) x f = f
    rw [upN_o hfy]; exact h4.2.2
  · show upN (bS b) (nx x ch) true (upN (bF b) (nx x ch) x y) = true ∧ nx (upN (bF b) (nx x ch) x y) (upN (bB b) (nx x ch) ch y) = y ∧ upN (bB b) (nx x ch) ch y < m ∧ kp (upN (bB b) (nx x ch) ch y) = true ∧ upN (bD b) (nx x ch) (bD b x + 1) y = upN (bD b) (nx x ch) (bD b x + 1) (upN (bF b) (nx x ch) x y) + 1
    by_cases e : y = nx x ch
    · rw [e, upN_s, upN_s, upN_s, upN_o hxy, upN_o hxy]
      exact ⟨hx, rfl, hc, hk, rfl⟩
    · have hy3 : upN (bS b) (nx x ch) true y = true := hy2
      rw [upN_o e] at hy3
      have g := h5 y hy3 hyf
      rw [upN_o e, upN_o e, upN_o e, upN_o (keep _ g.1), upN_o (keep _ g.1)]
      exact ⟨g.1, g.2.1, g.2.2.1, g.2.2.2.1, g.2.2.2.2⟩
  · show upN (bD b) (nx x ch) (bD b x + 1) y < bCnt b + 1 ∧ upN (bB b) (nx x ch) ch y < m ∧ upN (bS b) (nx x ch) true (upN (bF b) (nx x ch) x y) = true
    by_cases e : y = nx x ch
    · rw [e, upN_s, upN_s, upN_s]
      have := (h6 x hx).1
      exact ⟨by omega, hc, sn x hx⟩
    · have hy3 : upN (bS b) (nx x ch) true y = true := hy2
      rw [upN_o e] at hy3
      have g := h6 y hy3
      rw [upN_o e, upN_o e, upN_o e]
      exact ⟨by omega, g.2.1, sn _ g.2.2⟩
  · have g := h7 x1 c1 e
    exact ⟨sn _ g.1, g.2⟩
theorem BI_go {b : BST} {x ch : Nat} (h : BI kp nx ul m f S b) (hx : bS b x = true) (hc : ch < m) (hk : kp ch = true) (hy : nx x ch < S) : BI kp nx ul m f S (bGo nx x ch b) ∧ BLe b (bGo nx x ch b) := by
  unfold bGo
  cases hs : bS b (nx x ch) with
  | true => rw [if_pos rfl]; exact ⟨h, BLe_rf⟩
  | false => exact BI_meet h hx hc hk hy hs
theorem BI_step {b : BST} {x ch : Nat} (h : BI kp nx ul m f S b) (hx : bS b x = true) (hc : ch < m) (hy : nx x ch < S) : BI kp nx ul m f S (bStep kp nx ul x ch b) ∧ BLe b (bStep kp nx ul x ch b) := by
  unfold bStep
  by_cases hk : kp ch = true
  · rw [if_pos hk]
    have g := BI_find (ch := ch) h hx hc hk
    have g2 := BI_go g.1 (g.2.2.2.1 x hx).1 hc hk hy
    exact ⟨g2.1, BLe_tr g.2 g2.2⟩
  · rw [if_neg hk]; exact ⟨h, BLe_rf⟩
theorem BI_exp {b : BST} {x : Nat} (h : BI kp nx ul m f S b) (hx : bS b x = true) (hy : ∀ ch, ch < m → nx x ch < S) : ∀ n, n ≤ m → BI kp nx ul m f S (bExp kp nx ul x n b) ∧ BLe b (bExp kp nx ul x n b) := by
  intro n
  induction n with
  | zero => intro _; exact ⟨h, BLe_rf⟩
  | succ n ih =>
    intro hn
    have g := ih (by omega)
    have g2 := BI_step g.1 (g.2.2.2.1 x hx).1 (ch := n) (by omega) (hy n (by omega))
    exact ⟨g2.1, BLe_tr g.2 g2.2⟩
theorem cb_one {f : Nat} : ∀ n : Nat, cb (fun j => decide (j = f)) n = if f < n then 1 else 0 := by
  intro n
  induction n with
  | zero => rfl
  | succ n ih =>
    show cb _ n + (if decide (n = f) = true then 1 else 0) = _
    rw [ih]
    by_cases q : n = f
    · rw [if_pos (decide_eq_true q), if_neg (by omega), if_pos (by omega)]
    · rw [if_neg (fun e => q (of_decide_eq_true e))]
      by_cases z : f < n
      · rw [if_pos z, if_pos (by omega)]
      · rw [if_neg z, if_neg (by omega)]
theorem BI_ini (hf : f < S) (hm : 0 < m) : BI kp nx ul m f S (bIni f) := by
  refine ⟨fun j _ => ⟨hf, decide_eq_true rfl⟩, fun y hy => ?_, ?_, ⟨decide_eq_true rfl, rfl, rfl⟩, fun y hy hyf => absurd (of_decide_eq_true hy) hyf, fun y hy => ⟨Nat.one_pos, hm, decide_eq_true rfl⟩, fun x ch e => by cases e⟩
  · rw [of_decide_eq_true hy]; exact hf
  · show 1 = cb (fun j => decide (j = f)) S
    rw [cb_one, if_pos hf]
theorem BI_bfs (hf : f < S) (hm : 0 < m) (hy : ∀ x ch, x < S → ch < m → nx x ch < S) : ∀ k, BI kp nx ul m f S (bfs kp nx ul m f k) := by
  intro k
  induction k with
  | zero => exact BI_ini hf hm
  | succ k ih =>
    show BI kp nx ul m f S (if k < bCnt (bfs kp nx ul m f k) then _ else _)
    by_cases q : k < bCnt (bfs kp nx ul m f k)
    · rw [if_pos q]
      have g := ih.1 k q
      exact (BI_exp ih g.2 (fun ch hc => hy _ ch g.1 hc) m (Nat.le_refl m)).1
    · rw [if_neg q]; exact ih
theorem BI_le {b : BST} (h : BI kp nx ul m f S b) : bCnt b ≤ S := by rw [h.2.2.1]; exact cb_le _
def it (g : Nat → Nat) : Nat → Nat → Nat | 0, x => x | n + 1, x => it g n (g x)
theorem it_s {g : Nat → Nat} : ∀ (n x : Nat), it g (n + 1) x = g (it g n x) := by
  intro n
  induction n with
  | zero => intro x; rfl
  | succ n ih => intro x; exact ih (g x)
theorem it_sn {b : BST} (h : BI kp nx ul m f S b) {x : Nat} (hx : bS b x = true) : ∀ n, bS b (it (bF b) n x) = true := by
  intro n
  induction n with
  | zero => exact hx
  | succ n ih => rw [it_s]; exact (h.2.2.2.2.2.1 _ ih).2.2
theorem it_le {b b1 : BST} (h : BI kp nx ul m f S b) (hl : BLe b b1) {x : Nat} (hx : bS b x = true) : ∀ n, it (bF b1) n x = it (bF b) n x := by
  intro n
  induction n with
  | zero => rfl
  | succ n ih => rw [it_s, it_s, ih]; exact (hl.2.2.1 _ (it_sn h hx n)).2.1
/-- going back, depths fall to 0 -/
theorem it_d {b : BST} (h : BI kp nx ul m f S b) : ∀ (n x : Nat), bS b x = true → n ≤ bD b x → bD b (it (bF b) n x) + n = bD b x := by
  intro n
  induction n with
  | zero => intro x _ _; rfl
  | succ n ih =>
    intro x hx hn
    have hxf : ¬ x = f := fun e => by rw [e, h.2.2.2.1.2.1] at hn; omega
    have g := h.2.2.2.2.1 x hx hxf
    have g2 := ih (bF b x) g.1 (by omega)
    show bD b (it (bF b) n (bF b x)) + (n + 1) = bD b x
    omega
theorem it_f {b : BST} (h : BI kp nx ul m f S b) {x : Nat} (hx : bS b x = true) : it (bF b) (bD b x) x = f := by
  have g := it_d h (bD b x) x hx (Nat.le_refl _)
  have s := it_sn h hx (bD b x)
  refine Decidable.byContradiction (fun e => ?_)
  have g2 := h.2.2.2.2.1 _ s e
  omega
end BF1
