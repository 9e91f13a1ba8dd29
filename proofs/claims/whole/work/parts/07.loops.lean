/-! folds and loops -/
def fo {α : Type} (f : Int → α → α) (a : α) : Nat → α
  | 0 => a
  | n + 1 => f (n : Int) (fo f a n)
def foI {α : Type} (f : Int → α → α) (a : α) (i : Int) : α := fo f a i.toNat
theorem foI_0 {α : Type} (f : Int → α → α) (a : α) : foI f a 0 = a := rfl
theorem foI_s {α : Type} (f : Int → α → α) (a : α) {i : Int} (h : 0 ≤ i) : foI f a (i + 1) = f i (foI f a i) := by
  unfold foI
  have e : (i + 1).toNat = i.toNat + 1 := by omega
  rw [e]
  show f ((i.toNat : Nat) : Int) _ = _
  rw [show ((i.toNat : Nat) : Int) = i by omega]
theorem foI_congr {α : Type} {f g : Int → α → α} {a : α} {n : Int} (h : ∀ i x, 0 ≤ i → i < n → f i x = g i x) : foI f a n = foI g a n := by
  unfold foI
  have key : ∀ k : Nat, (k : Int) ≤ n → fo f a k = fo g a k := by
    intro k
    induction k with
    | zero => intro _; rfl
    | succ k ih =>
      intro hk
      show f k (fo f a k) = g k (fo g a k)
      rw [ih (by omega), h k _ (by omega) (by omega)]
  by_cases h0 : 0 ≤ n
  · exact key n.toNat (by omega)
  · rw [show n.toNat = 0 by omega]; rfl
theorem up_to (n : Int) (P : Int → Prop) (h : ∀ i, i ≤ n → (i < n → P (i + 1)) → P i) : ∀ i, i ≤ n → P i := by
  have key : ∀ (k : Nat) (i : Int), i + k = n → P i := by
    intro k
    induction k with
    | zero => intro i hi; exact h i (by omega) (fun q => by omega)
    | succ k ih => intro i hi; exact h i (by omega) (fun _ => ih (i + 1) (by omega))
  intro i hi
  exact key (n - i).toNat i (by omega)
theorem down_to (n : Int) (P : Int → Prop) (h : ∀ i, n ≤ i → (n < i → P (i - 1)) → P i) : ∀ i, n ≤ i → P i := by
  have key : ∀ (k : Nat) (i : Int), n + k = i → P i := by
    intro k
    induction k with
    | zero => intro i hi; exact h i (by omega) (fun q => by omega)
    | succ k ih => intro i hi; exact h i (by omega) (fun _ => ih (i - 1) (by omega))
  intro i hi
  exact key (i - n).toNat i (by omega)

