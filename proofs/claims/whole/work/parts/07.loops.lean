/-! folds and loops -/
def fo {α : Type} (f : Int → α → α) (a : α) : Nat → α
  | 0 => a
  | n + 1 => f (n : Int) (fo f a n)
def foI {α : Type} (f : Int → α → α) (a : α) (i : Int) : α := fo f a i.toNat
theorem foI_0 {α : Type} (f : Int → α → α) (a : α) : foI f a 0 = a := rfl
theorem foI_s {α : Type} (f : Int → α → α) (a : α) {i : Int} (h : 0 ≤ i) : foI f a (i + 1) = f i (foI f a i) := by
  unfold foI
  have e : (i + 1).toNat = i.toNat + 1 := by omega
  rw [e]
  show f ((i.toNat : Nat) : Int) _ = _
  rw [show ((i.toNat : Nat) : Int) = i by omega]
theorem foI_congr {α : Type} {f g : Int → α → α} {a : α} {n : Int} (h : ∀ i x, 0 ≤ i → i < n → f i x = g i x) : foI f a n = foI g a n := by
  unfold foI
  have key : ∀ k : Nat, (k : Int) ≤ n → fo f a k = fo g a k := by
    intro k
    induction k with
    | zero => intro _; rfl
    | succ k ih =>
      intro hk
      show f k (fo f a k) = g k (fo g a k)
      rw [ih (by omega), h k _ (by omega) (by omega)]
  by_cases h0 : 0 ≤ n
  · exact key n.toNat (by omega)
  · rw [show n.toNat = 0 by omega]; rfl
theorem up_to (n : Int) (P : Int → Prop) (h : ∀ i, i ≤ n → (i < n → P (i + 1)) → P i) : ∀ i, i ≤ n → P i := by
  have key : ∀ (k : Nat) (i : Int), i + k = n → P i := by
    intro k
    induction k with
    | zero => intro i hi; exact h i (by omega) (fun q => by omega)
    | succ k ih => intro i hi; exact h i (by omega) (fun _ => ih (i + 1) (by omega))
  intro i hi
  exact key (n - i).toNat i (by omega)
theorem down_to (n : Int) (P : Int → Prop) (h : ∀ i, n ≤ i → (n < i → P (i - 1)) → P i) : ∀ i, n ≤ i → P i := by
  have key : ∀ (k : Nat) (i : Int), n + k = i → P i := by
    intro k
    induction k with
    | zero => intro i hi; exact h i (by omega) (fun q => by omega)
    | succ k ih => intro i hi; exact h i (by omega) (fun _ => ih (i - 1) (by omega))
  intro i hi
  exact key (i - n).toNat i (by omega)

set_option maxRecDepth 100000 in
set_option maxHeartbeats 4000000 in
theorem ct_X0_sumWith (σ : St) (r1 r2 : Nat) (v n : Int) (hn : σ 0 6 = n) (h0 : 0 ≤ n ∧ n ≤ 60) (hs1 : shT[r1]? = some (.inr (.inl 60))) (hs2 : shT[r2]? = some (.inr (.inl 60))) (hv : InR v) : Wp mX0_sumWith 0 (fun z τ => z = foI (fun b a => if σ r1 b = v then a + σ r2 b else a) 0 n ∧ τ = σ) 0 [some (.inr 0), some (.inr r1), some (.inl v), some (.inr r2), none, none] [] σ := by
  refine Wp.rg (fun hR => ?_)
  refine w_iconst dX0_sumWith_0 ?_
  refine w_istore dX0_sumWith_1 (Nat.le_of_ble_eq_true rfl) ?_
  refine w_iconst dX0_sumWith_3 ?_
  refine w_istore dX0_sumWith_4 (Nat.le_of_ble_eq_true rfl) ?_
  refine up_to n (fun i => 0 ≤ i → ∀ a, a = foI (fun b a => if σ r1 b = v then a + σ r2 b else a) 0 i → Wp mX0_sumWith 0 (fun z τ => z = foI (fun b a => if σ r1 b = v then a + σ r2 b else a) 0 n ∧ τ = σ) 6 [some (.inr 0), some (.inr r1), some (.inl v), some (.inr r2), some (.inl a), some (.inl i)] [] σ) (fun i hi ih h0 a ha => ?_) 0 (by omega) (by omega) 0 rfl
  refine w_iload dX0_sumWith_6 rfl ?_
  refine w_aload_n dX0_sumWith_8 rfl ?_
  refine gf_X0_30 rfl dX0_sumWith_9 ?_
  refine w_icmp_ge (tgt := 38) dX0_sumWith_12 (by decide) (by omega) (by omega) (fun c_12 => ?_) (fun c_12 => ?_)
  · refine w_iload dX0_sumWith_38 rfl ?_
    refine w_iret dX0_sumWith_40 rfl ?_
    exact ⟨by rw [ha, show i = n by omega], rfl⟩
  · refine w_aload_n dX0_sumWith_15 rfl ?_
    refine w_iload dX0_sumWith_16 rfl ?_
    refine w_iald hs1 (by omega) dX0_sumWith_18 ?_
    refine w_iload_n dX0_sumWith_19 rfl ?_
    refine w_icmp_ne (tgt := 32) dX0_sumWith_20 (by decide) (hR _ _) hv (fun c_20 => ?_) (fun c_20 => ?_)
    · refine w_iinc dX0_sumWith_32 (Nat.le_of_ble_eq_true rfl) rfl ?_
      refine w_goto (tgt := 6) dX0_sumWith_35 (by decide) ?_
      exact ih (by omega) (by omega) _ (by rw [foI_s _ _ h0, ← ha]; simp [c_20])
    · refine w_iload dX0_sumWith_23 rfl ?_
      refine w_aload_n dX0_sumWith_25 rfl ?_
      refine w_iload dX0_sumWith_26 rfl ?_
      refine w_iald hs2 (by omega) dX0_sumWith_28 ?_
      refine w_iadd dX0_sumWith_29 ?_
      refine w_istore dX0_sumWith_30 (Nat.le_of_ble_eq_true rfl) ?_
      refine w_iinc dX0_sumWith_32 (Nat.le_of_ble_eq_true rfl) rfl ?_
      refine w_goto (tgt := 6) dX0_sumWith_35 (by decide) ?_
      exact ih (by omega) (by omega) _ (by rw [foI_s _ _ h0, ← ha]; simp [c_20])

