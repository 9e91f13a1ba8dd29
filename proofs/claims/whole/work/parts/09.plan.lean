set_option maxRecDepth 100000 in
set_option maxHeartbeats 4000000 in
theorem ct_X4_exists (σ : St) : Wp mX4_exists 0 (fun z τ => z = (if σ 4 6 < σ 4 5 then 1 else 0) ∧ τ = σ) 0 [some (.inr 4)] [] σ := by
  refine Wp.rg (fun hR => ?_)
  refine w_aload_n dX4_exists_0 rfl ?_
  refine gf_X4_27 rfl dX4_exists_1 ?_
  refine w_aload_n dX4_exists_4 rfl ?_
  refine gf_X4_31 rfl dX4_exists_5 ?_
  refine w_icmp_ge (tgt := 15) dX4_exists_8 (by decide) (hR _ _) (hR _ _) (fun c_8 => ?_) (fun c_8 => ?_)
  · refine w_iconst dX4_exists_15 ?_
    refine w_zret dX4_exists_16 rfl (by omega) ?_
    exact ⟨by simp; omega, rfl⟩
  · refine w_iconst dX4_exists_11 ?_
    refine w_goto (tgt := 16) dX4_exists_12 (by decide) ?_
    refine w_zret dX4_exists_16 rfl (by omega) ?_
    exact ⟨by simp; omega, rfl⟩

set_option maxRecDepth 100000 in
set_option maxHeartbeats 4000000 in
theorem ct_X4_end (σ : St) : Wp mX4_end 0 (fun z τ => τ = put (put σ 4 5 0) 4 6 0) 0 [some (.inr 4)] [] σ := by
  refine Wp.rg (fun hR => ?_)
  refine w_aload_n dX4_end_0 rfl ?_
  refine w_iconst dX4_end_1 ?_
  refine pf_X4_31 rfl (by omega) dX4_end_2 ?_
  refine w_aload_n dX4_end_5 rfl ?_
  refine w_iconst dX4_end_6 ?_
  refine pf_X4_27 rfl (by omega) dX4_end_7 ?_
  refine w_ret dX4_end_10 rfl ?_
  rfl

set_option maxRecDepth 100000 in
set_option maxHeartbeats 4000000 in
theorem ct_X4_direction (σ : St) (k : Int) (hk : 0 ≤ k ∧ k < 60) : Wp mX4_direction 0 (fun z τ => z = (if σ 53 k < σ 54 k then 1 else 2) ∧ τ = σ) 0 [some (.inr 4), some (.inl k)] [] σ := by
  refine Wp.rg (fun hR => ?_)
  refine w_aload_n dX4_direction_0 rfl ?_
  refine gf_X4_24 rfl dX4_direction_1 ?_
  refine w_iload_n dX4_direction_4 rfl ?_
  refine w_iald rfl (by omega) dX4_direction_5 ?_
  refine w_aload_n dX4_direction_6 rfl ?_
  refine gf_X4_21 rfl dX4_direction_7 ?_
  refine w_iload_n dX4_direction_10 rfl ?_
  refine w_iald rfl (by omega) dX4_direction_11 ?_
  refine w_icmp_le (tgt := 19) dX4_direction_12 (by decide) (hR _ _) (hR _ _) (fun c_12 => ?_) (fun c_12 => ?_)
  · refine w_iconst dX4_direction_19 ?_
    refine w_iret dX4_direction_20 rfl ?_
    exact ⟨by simp; omega, rfl⟩
  · refine w_iconst dX4_direction_15 ?_
    refine w_goto (tgt := 20) dX4_direction_16 (by decide) ?_
    refine w_iret dX4_direction_20 rfl ?_
    exact ⟨by simp; omega, rfl⟩

set_option maxRecDepth 100000 in
set_option maxHeartbeats 4000000 in
theorem ct_X4_add (σ : St) (b : Int) (hb : 0 ≤ b ∧ b < 60) (ht : 0 ≤ σ 4 5 ∧ σ 4 5 < 60) : Wp mX4_add 0 (fun z τ => τ = put (put (put (put (put σ 51 (σ 4 5) b) 52 (σ 4 5) (σ 9 b)) 53 (σ 4 5) (σ 11 b)) 54 (σ 4 5) (σ 50 b)) 4 5 (σ 4 5 + 1)) 0 [some (.inr 4), some (.inr 0), some (.inl b)] [] σ := by
  refine Wp.rg (fun hR => ?_)
  refine w_aload_n dX4_add_0 rfl ?_
  refine gf_X4_31 rfl dX4_add_1 ?_
  refine w_bipush dX4_add_4 (by decide) ?_
  refine w_icmp_lt (tgt := 10) dX4_add_6 (by decide) (by omega) (by omega) (fun c_6 => ?_) (fun c_6 => ?_)
  · refine w_aload_n dX4_add_10 rfl ?_
    refine gf_X4_15 rfl dX4_add_11 ?_
    refine w_aload_n dX4_add_14 rfl ?_
    refine gf_X4_31 rfl dX4_add_15 ?_
    refine w_iload_n dX4_add_18 rfl ?_
    refine w_iast rfl (by omega) (by omega) dX4_add_19 ?_
    refine w_aload_n dX4_add_20 rfl ?_
    refine gf_X4_18 rfl dX4_add_21 ?_
    refine w_aload_n dX4_add_24 rfl ?_
    refine gf_X4_31 rfl dX4_add_25 ?_
    refine w_aload_n dX4_add_28 rfl ?_
    refine gf_X4_58 rfl dX4_add_29 ?_
    refine w_iload_n dX4_add_32 rfl ?_
    refine w_iald rfl (by omega) dX4_add_33 ?_
    refine w_iast rfl (by simp [put_eq]; omega) (by simp only [put_eq]; simp; exact hR _ _) dX4_add_34 ?_
    refine w_aload_n dX4_add_35 rfl ?_
    refine gf_X4_21 rfl dX4_add_36 ?_
    refine w_aload_n dX4_add_39 rfl ?_
    refine gf_X4_31 rfl dX4_add_40 ?_
    refine w_aload_n dX4_add_43 rfl ?_
    refine gf_X4_51 rfl dX4_add_44 ?_
    refine w_iload_n dX4_add_47 rfl ?_
    refine w_iald rfl (by omega) dX4_add_48 ?_
    refine w_iast rfl (by simp [put_eq]; omega) (by simp only [put_eq]; simp; exact hR _ _) dX4_add_49 ?_
    refine w_aload_n dX4_add_50 rfl ?_
    refine gf_X4_24 rfl dX4_add_51 ?_
    refine w_aload_n dX4_add_54 rfl ?_
    refine gf_X4_31 rfl dX4_add_55 ?_
    refine w_aload_n dX4_add_58 rfl ?_
    refine gf_X4_9 rfl dX4_add_59 ?_
    refine w_iload_n dX4_add_62 rfl ?_
    refine w_iald rfl (by omega) dX4_add_63 ?_
    refine w_iast rfl (by simp [put_eq]; omega) (by simp only [put_eq]; simp; exact hR _ _) dX4_add_64 ?_
    refine w_aload_n dX4_add_65 rfl ?_
    refine w_dup dX4_add_66 ?_
    refine gf_X4_31 rfl dX4_add_67 ?_
    refine w_iconst dX4_add_70 ?_
    refine w_iadd dX4_add_71 ?_
    refine pf_X4_31 rfl (by simp only [put_eq]; simp; omega) dX4_add_72 ?_
    refine w_ret dX4_add_75 rfl ?_
    simp [put_eq]
  · exact absurd c_6 (by omega)

set_option maxRecDepth 100000 in
set_option maxHeartbeats 4000000 in
theorem ct_X4_stepOn (σ : St) (ht : 0 ≤ σ 4 6 ∧ σ 4 6 < 60) : Wp mX4_stepOn 1 (fun z τ => τ = if σ 4 6 + 1 < σ 4 5 then put σ 4 6 (σ 4 6 + 1) else put (put (put σ 4 6 (σ 4 6 + 1)) 4 5 0) 4 6 0) 0 [some (.inr 4)] [] σ := by
  refine Wp.rg (fun hR => ?_)
  refine w_aload_n dX4_stepOn_0 rfl ?_
  refine w_dup dX4_stepOn_1 ?_
  refine gf_X4_27 rfl dX4_stepOn_2 ?_
  refine w_iconst dX4_stepOn_5 ?_
  refine w_iadd dX4_stepOn_6 ?_
  refine pf_X4_27 rfl (by omega) dX4_stepOn_7 ?_
  refine w_aload_n dX4_stepOn_10 rfl ?_
  refine gf_X4_27 rfl dX4_stepOn_11 ?_
  refine w_aload_n dX4_stepOn_14 rfl ?_
  refine gf_X4_31 rfl dX4_stepOn_15 ?_
  refine w_icmp_lt (tgt := 25) dX4_stepOn_18 (by decide) (by simp only [put_eq]; simp; omega) (by simp only [put_eq]; simp; exact hR _ _) (fun c_18 => ?_) (fun c_18 => ?_)
  · refine w_ret dX4_stepOn_25 rfl ?_
    simp [put_eq] at c_18
    first | rw [if_pos (by omega)] | rw [if_neg (by omega)]
  · refine w_aload_n dX4_stepOn_21 rfl ?_
    refine cv_X4_34 rfl dX4_stepOn_22 (Nat.le_of_ble_eq_true rfl) (Nat.le_of_ble_eq_true rfl) (Wp.mono (ct_X4_end _) (fun z_ τ_ hq_ => ?_))
    subst τ_
    refine w_ret dX4_stepOn_25 rfl ?_
    simp [put_eq] at c_18
    first | rw [if_pos (by omega)] | rw [if_neg (by omega)]

def sumF (w : Int → Int) (f z : Int) : Int := foI (fun k a => a + w (f + k)) 0 z
theorem sumF_s (w : Int → Int) (f : Int) {z : Int} (h : 0 ≤ z) : sumF w f (z + 1) = sumF w f z + w (f + z) := foI_s _ _ h
theorem sumF_0 (w : Int → Int) (f : Int) : sumF w f 0 = 0 := rfl
/-- how many fit, one behind the other -/
def IsDay (w : Int → Int) (f e lim z : Int) : Prop := 0 ≤ z ∧ f + z ≤ e ∧ sumF w f z ≤ lim ∧ (f + z = e ∨ lim < sumF w f (z + 1))
def dyF (w : Int → Int) (f lim z : Int) : Int × Int := foI (fun k (p : Int × Int) => if k = 0 ∨ lim < p.2 + w (f + k) then (p.1 + 1, w (f + k)) else (p.1, p.2 + w (f + k))) (0, 0) z
def trF (fr to : Int → Int) (f z : Int) : Int := foI (fun k a => if k = 0 ∨ fr (f + k) ≠ fr (f + k - 1) ∨ to (f + k) ≠ to (f + k - 1) then a + 1 else a) 0 z
def rgF (fr to : Int → Int) (f z : Int) : Int := foI (fun k a => if fr (f + k) < to (f + k) then a + 1 else a) 0 z
set_option maxRecDepth 100000 in
set_option maxHeartbeats 4000000 in
theorem ct_X4_movesOfNextDay (σ : St) (lim : Int) (hp : 0 ≤ σ 4 6 ∧ σ 4 6 ≤ σ 4 5 ∧ σ 4 5 ≤ 60) (hw : ∀ k, 0 ≤ k → k < σ 4 5 → 0 ≤ σ 52 k ∧ σ 52 k ≤ 40) (hl : 0 ≤ lim ∧ lim ≤ 400) : Wp mX4_movesOfNextDay 0 (fun z τ => IsDay (σ 52) (σ 4 6) (σ 4 5) lim z ∧ τ = σ) 0 [some (.inr 4), some (.inl lim), none, none] [] σ := by
  refine Wp.rg (fun hR => ?_)
  refine w_iconst dX4_movesOfNextDay_0 ?_
  refine w_istore_n dX4_movesOfNextDay_1 (Nat.le_of_ble_eq_true rfl) ?_
  refine w_aload_n dX4_movesOfNextDay_2 rfl ?_
  refine gf_X4_27 rfl dX4_movesOfNextDay_3 ?_
  refine w_istore_n dX4_movesOfNextDay_6 (Nat.le_of_ble_eq_true rfl) ?_
  refine up_to (σ 4 5) (fun i => σ 4 6 ≤ i → ∀ a, (a = sumF (σ 52) (σ 4 6) (i - σ 4 6) ∧ 0 ≤ a ∧ a ≤ lim) → Wp mX4_movesOfNextDay 0 (fun z τ => IsDay (σ 52) (σ 4 6) (σ 4 5) lim z ∧ τ = σ) 7 [some (.inr 4), some (.inl lim), some (.inl a), some (.inl i)] [] σ) (fun i hi ih h0 a hinv => ?_) (σ 4 6) (by omega) (by omega) 0 ⟨by rw [Int.sub_self]; rfl, by omega, by omega⟩
  refine w_iload_n dX4_movesOfNextDay_7 rfl ?_
  refine w_aload_n dX4_movesOfNextDay_8 rfl ?_
  refine gf_X4_31 rfl dX4_movesOfNextDay_9 ?_
  refine w_icmp_ge (tgt := 42) dX4_movesOfNextDay_12 (by decide) (by omega) (by omega) (fun c_12 => ?_) (fun c_12 => ?_)
  · refine w_iload_n dX4_movesOfNextDay_42 rfl ?_
    refine w_aload_n dX4_movesOfNextDay_43 rfl ?_
    refine gf_X4_27 rfl dX4_movesOfNextDay_44 ?_
    refine w_isub dX4_movesOfNextDay_47 ?_
    refine w_iret dX4_movesOfNextDay_48 rfl ?_
    refine ⟨⟨by omega, by omega, by rw [← hinv.1]; exact hinv.2.2, ?_⟩, rfl⟩
    rw [sumF_s _ _ (by omega), ← hinv.1, show σ 4 6 + (i - σ 4 6) = i by omega]
    omega
  · refine w_iload_n dX4_movesOfNextDay_15 rfl ?_
    refine w_aload_n dX4_movesOfNextDay_16 rfl ?_
    refine gf_X4_18 rfl dX4_movesOfNextDay_17 ?_
    have hwi := hw i (by omega) (by omega)
    refine w_iload_n dX4_movesOfNextDay_20 rfl ?_
    refine w_iald rfl (by omega) dX4_movesOfNextDay_21 ?_
    refine w_iadd dX4_movesOfNextDay_22 ?_
    refine w_iload_n dX4_movesOfNextDay_23 rfl ?_
    refine w_icmp_gt (tgt := 42) dX4_movesOfNextDay_24 (by decide) (by omega) (by omega) (fun c_24 => ?_) (fun c_24 => ?_)
    · refine w_iload_n dX4_movesOfNextDay_42 rfl ?_
      refine w_aload_n dX4_movesOfNextDay_43 rfl ?_
      refine gf_X4_27 rfl dX4_movesOfNextDay_44 ?_
      refine w_isub dX4_movesOfNextDay_47 ?_
      refine w_iret dX4_movesOfNextDay_48 rfl ?_
      refine ⟨⟨by omega, by omega, by rw [← hinv.1]; exact hinv.2.2, ?_⟩, rfl⟩
      rw [sumF_s _ _ (by omega), ← hinv.1, show σ 4 6 + (i - σ 4 6) = i by omega]
      omega
    · refine w_iload_n dX4_movesOfNextDay_27 rfl ?_
      refine w_aload_n dX4_movesOfNextDay_28 rfl ?_
      refine gf_X4_18 rfl dX4_movesOfNextDay_29 ?_
      refine w_iload_n dX4_movesOfNextDay_32 rfl ?_
      refine w_iald rfl (by omega) dX4_movesOfNextDay_33 ?_
      refine w_iadd dX4_movesOfNextDay_34 ?_
      refine w_istore_n dX4_movesOfNextDay_35 (Nat.le_of_ble_eq_true rfl) ?_
      refine w_iinc dX4_movesOfNextDay_36 (Nat.le_of_ble_eq_true rfl) rfl ?_
      refine w_goto (tgt := 7) dX4_movesOfNextDay_39 (by decide) ?_
      exact ih (by omega) (by omega) _ ⟨by rw [show i + 1 - σ 4 6 = (i - σ 4 6) + 1 by omega, sumF_s _ _ (by omega), ← hinv.1, show σ 4 6 + (i - σ 4 6) = i by omega], by omega, by omega⟩

set_option maxRecDepth 100000 in
set_option maxHeartbeats 4000000 in
theorem ct_X4_days (σ : St) (f e lim : Int) (hf : 0 ≤ f ∧ f ≤ e ∧ e ≤ 60) (hw : ∀ k, f ≤ k → k < e → 0 ≤ σ 52 k ∧ σ 52 k ≤ 40) (hl : InR lim) : Wp mX4_days 0 (fun z τ => z = (dyF (σ 52) f lim (e - f)).1 ∧ τ = σ) 0 [some (.inr 4), some (.inl f), some (.inl e), some (.inl lim), none, none, none] [] σ := by
  refine Wp.rg (fun hR => ?_)
  refine w_iconst dX4_days_0 ?_
  refine w_istore dX4_days_1 (Nat.le_of_ble_eq_true rfl) ?_
  refine w_iconst dX4_days_3 ?_
  refine w_istore dX4_days_4 (Nat.le_of_ble_eq_true rfl) ?_
  refine w_iload_n dX4_days_6 rfl ?_
  refine w_istore dX4_days_7 (Nat.le_of_ble_eq_true rfl) ?_
  refine up_to (e) (fun i => f ≤ i → ∀ a b, ((a, b) = dyF (σ 52) f lim (i - f) ∧ 0 ≤ b ∧ b ≤ 40 * (i - f)) → Wp mX4_days 0 (fun z τ => z = (dyF (σ 52) f lim (e - f)).1 ∧ τ = σ) 9 [some (.inr 4), some (.inl f), some (.inl e), some (.inl lim), some (.inl a), some (.inl b), some (.inl i)] [] σ) (fun i hi ih h0 a b hinv => ?_) (f) (by omega) (by omega) 0 0 ⟨by rw [Int.sub_self]; rfl, by omega, by omega⟩
  refine w_iload dX4_days_9 rfl ?_
  refine w_iload_n dX4_days_11 rfl ?_
  refine w_icmp_ge (tgt := 59) dX4_days_12 (by decide) (by omega) (by omega) (fun c_12 => ?_) (fun c_12 => ?_)
  · refine w_iload dX4_days_59 rfl ?_
    refine w_iret dX4_days_61 rfl ?_
    exact ⟨by rw [← show i = e by omega, ← hinv.1], rfl⟩
  · have hwi := hw i (by omega) (by omega)
    refine w_iload dX4_days_15 rfl ?_
    refine w_iload_n dX4_days_17 rfl ?_
    refine w_icmp_eq (tgt := 35) dX4_days_18 (by decide) (by omega) (by omega) (fun c_18 => ?_) (fun c_18 => ?_)
    · refine w_iinc dX4_days_35 (Nat.le_of_ble_eq_true rfl) rfl ?_
      refine w_iconst dX4_days_38 ?_
      refine w_istore dX4_days_39 (Nat.le_of_ble_eq_true rfl) ?_
      refine w_iload dX4_days_41 rfl ?_
      refine w_aload_n dX4_days_43 rfl ?_
      refine gf_X4_18 rfl dX4_days_44 ?_
      refine w_iload dX4_days_47 rfl ?_
      refine w_iald rfl (by omega) dX4_days_49 ?_
      refine w_iadd dX4_days_50 ?_
      refine w_istore dX4_days_51 (Nat.le_of_ble_eq_true rfl) ?_
      refine w_iinc dX4_days_53 (Nat.le_of_ble_eq_true rfl) rfl ?_
      refine w_goto (tgt := 9) dX4_days_56 (by decide) ?_
      refine ih (by omega) (by omega) _ _ ⟨?_, by omega, by omega⟩
      rw [show i + 1 - f = (i - f) + 1 by omega]
      unfold dyF
      rw [foI_s _ _ (by omega)]
      have hinv := hinv.1
      unfold dyF at hinv
      rw [← hinv, show f + (i - f) = i by omega]
      first | rw [if_pos (by dsimp only; omega)] | rw [if_neg (by dsimp only; omega)]
      try simp
    · refine w_iload dX4_days_21 rfl ?_
      refine w_aload_n dX4_days_23 rfl ?_
      refine gf_X4_18 rfl dX4_days_24 ?_
      refine w_iload dX4_days_27 rfl ?_
      refine w_iald rfl (by omega) dX4_days_29 ?_
      refine w_iadd dX4_days_30 ?_
      refine w_iload_n dX4_days_31 rfl ?_
      refine w_icmp_le (tgt := 41) dX4_days_32 (by decide) (by omega) hl (fun c_32 => ?_) (fun c_32 => ?_)
      · refine w_iload dX4_days_41 rfl ?_
        refine w_aload_n dX4_days_43 rfl ?_
        refine gf_X4_18 rfl dX4_days_44 ?_
        refine w_iload dX4_days_47 rfl ?_
        refine w_iald rfl (by omega) dX4_days_49 ?_
        refine w_iadd dX4_days_50 ?_
        refine w_istore dX4_days_51 (Nat.le_of_ble_eq_true rfl) ?_
        refine w_iinc dX4_days_53 (Nat.le_of_ble_eq_true rfl) rfl ?_
        refine w_goto (tgt := 9) dX4_days_56 (by decide) ?_
        refine ih (by omega) (by omega) _ _ ⟨?_, by omega, by omega⟩
        rw [show i + 1 - f = (i - f) + 1 by omega]
        unfold dyF
        rw [foI_s _ _ (by omega)]
        have hinv := hinv.1
        unfold dyF at hinv
        rw [← hinv, show f + (i - f) = i by omega]
        first | rw [if_pos (by dsimp only; omega)] | rw [if_neg (by dsimp only; omega)]
        try simp
      · refine w_iinc dX4_days_35 (Nat.le_of_ble_eq_true rfl) rfl ?_
        refine w_iconst dX4_days_38 ?_
        refine w_istore dX4_days_39 (Nat.le_of_ble_eq_true rfl) ?_
        refine w_iload dX4_days_41 rfl ?_
        refine w_aload_n dX4_days_43 rfl ?_
        refine gf_X4_18 rfl dX4_days_44 ?_
        refine w_iload dX4_days_47 rfl ?_
        refine w_iald rfl (by omega) dX4_days_49 ?_
        refine w_iadd dX4_days_50 ?_
        refine w_istore dX4_days_51 (Nat.le_of_ble_eq_true rfl) ?_
        refine w_iinc dX4_days_53 (Nat.le_of_ble_eq_true rfl) rfl ?_
        refine w_goto (tgt := 9) dX4_days_56 (by decide) ?_
        refine ih (by omega) (by omega) _ _ ⟨?_, by omega, by omega⟩
        rw [show i + 1 - f = (i - f) + 1 by omega]
        unfold dyF
        rw [foI_s _ _ (by omega)]
        have hinv := hinv.1
        unfold dyF at hinv
        rw [← hinv, show f + (i - f) = i by omega]
        first | rw [if_pos (by dsimp only; omega)] | rw [if_neg (by dsimp only; omega)]
        try simp

set_option maxRecDepth 100000 in
set_option maxHeartbeats 4000000 in
theorem ct_X4_trips (σ : St) (f e : Int) (hf : 0 ≤ f ∧ f ≤ e ∧ e ≤ 60) : Wp mX4_trips 0 (fun z τ => z = trF (σ 53) (σ 54) f (e - f) ∧ τ = σ) 0 [some (.inr 4), some (.inl f), some (.inl e), none, none] [] σ := by
  refine Wp.rg (fun hR => ?_)
  refine w_iconst dX4_trips_0 ?_
  refine w_istore_n dX4_trips_1 (Nat.le_of_ble_eq_true rfl) ?_
  refine w_iload_n dX4_trips_2 rfl ?_
  refine w_istore dX4_trips_3 (Nat.le_of_ble_eq_true rfl) ?_
  refine up_to (e) (fun i => f ≤ i → ∀ a, a = trF (σ 53) (σ 54) f (i - f) → Wp mX4_trips 0 (fun z τ => z = trF (σ 53) (σ 54) f (e - f) ∧ τ = σ) 5 [some (.inr 4), some (.inl f), some (.inl e), some (.inl a), some (.inl i)] [] σ) (fun i hi ih h0 a hinv => ?_) (f) (by omega) (by omega) 0 (by rw [Int.sub_self]; rfl)
  refine w_iload dX4_trips_5 rfl ?_
  refine w_iload_n dX4_trips_7 rfl ?_
  refine w_icmp_ge (tgt := 64) dX4_trips_8 (by decide) (by omega) (by omega) (fun c_8 => ?_) (fun c_8 => ?_)
  · refine w_iload_n dX4_trips_64 rfl ?_
    refine w_iret dX4_trips_65 rfl ?_
    exact ⟨by rw [← show i = e by omega, ← hinv], rfl⟩
  · refine w_iload dX4_trips_11 rfl ?_
    refine w_iload_n dX4_trips_13 rfl ?_
    refine w_icmp_eq (tgt := 55) dX4_trips_14 (by decide) (by omega) (by omega) (fun c_14 => ?_) (fun c_14 => ?_)
    · refine w_iinc dX4_trips_55 (Nat.le_of_ble_eq_true rfl) rfl ?_
      refine w_iinc dX4_trips_58 (Nat.le_of_ble_eq_true rfl) rfl ?_
      refine w_goto (tgt := 5) dX4_trips_61 (by decide) ?_
      refine ih (by omega) (by omega) _ ?_
      rw [show i + 1 - f = (i - f) + 1 by omega]
      unfold trF
      rw [foI_s _ _ (by omega)]
      unfold trF at hinv
      rw [← hinv, show f + (i - f) = i by omega]
      first | rw [if_pos (by first | exact Or.inl (by omega) | exact Or.inr (Or.inl c_33) | exact Or.inr (Or.inr c_52))] | rw [if_neg (by intro q; rcases q with q | q | q; exact absurd q (by omega); exact q c_33; exact q c_52)]
    · refine w_aload_n dX4_trips_17 rfl ?_
      refine gf_X4_21 rfl dX4_trips_18 ?_
      refine w_iload dX4_trips_21 rfl ?_
      refine w_iald rfl (by omega) dX4_trips_23 ?_
      refine w_aload_n dX4_trips_24 rfl ?_
      refine gf_X4_21 rfl dX4_trips_25 ?_
      refine w_iload dX4_trips_28 rfl ?_
      refine w_iconst dX4_trips_30 ?_
      refine w_isub dX4_trips_31 ?_
      refine w_iald rfl (by omega) dX4_trips_32 ?_
      refine w_icmp_ne (tgt := 55) dX4_trips_33 (by decide) (hR _ _) (hR _ _) (fun c_33 => ?_) (fun c_33 => ?_)
      · refine w_iinc dX4_trips_55 (Nat.le_of_ble_eq_true rfl) rfl ?_
        refine w_iinc dX4_trips_58 (Nat.le_of_ble_eq_true rfl) rfl ?_
        refine w_goto (tgt := 5) dX4_trips_61 (by decide) ?_
        refine ih (by omega) (by omega) _ ?_
        rw [show i + 1 - f = (i - f) + 1 by omega]
        unfold trF
        rw [foI_s _ _ (by omega)]
        unfold trF at hinv
        rw [← hinv, show f + (i - f) = i by omega]
        first | rw [if_pos (by first | exact Or.inl (by omega) | exact Or.inr (Or.inl c_33) | exact Or.inr (Or.inr c_52))] | rw [if_neg (by intro q; rcases q with q | q | q; exact absurd q (by omega); exact q c_33; exact q c_52)]
      · refine w_aload_n dX4_trips_36 rfl ?_
        refine gf_X4_24 rfl dX4_trips_37 ?_
        refine w_iload dX4_trips_40 rfl ?_
        refine w_iald rfl (by omega) dX4_trips_42 ?_
        refine w_aload_n dX4_trips_43 rfl ?_
        refine gf_X4_24 rfl dX4_trips_44 ?_
        refine w_iload dX4_trips_47 rfl ?_
        refine w_iconst dX4_trips_49 ?_
        refine w_isub dX4_trips_50 ?_
        refine w_iald rfl (by omega) dX4_trips_51 ?_
        refine w_icmp_eq (tgt := 58) dX4_trips_52 (by decide) (hR _ _) (hR _ _) (fun c_52 => ?_) (fun c_52 => ?_)
        · refine w_iinc dX4_trips_58 (Nat.le_of_ble_eq_true rfl) rfl ?_
          refine w_goto (tgt := 5) dX4_trips_61 (by decide) ?_
          refine ih (by omega) (by omega) _ ?_
          rw [show i + 1 - f = (i - f) + 1 by omega]
          unfold trF
          rw [foI_s _ _ (by omega)]
          unfold trF at hinv
          rw [← hinv, show f + (i - f) = i by omega]
          first | rw [if_pos (by first | exact Or.inl (by omega) | exact Or.inr (Or.inl c_33) | exact Or.inr (Or.inr c_52))] | rw [if_neg (by intro q; rcases q with q | q | q; exact absurd q (by omega); exact q c_33; exact q c_52)]
        · refine w_iinc dX4_trips_55 (Nat.le_of_ble_eq_true rfl) rfl ?_
          refine w_iinc dX4_trips_58 (Nat.le_of_ble_eq_true rfl) rfl ?_
          refine w_goto (tgt := 5) dX4_trips_61 (by decide) ?_
          refine ih (by omega) (by omega) _ ?_
          rw [show i + 1 - f = (i - f) + 1 by omega]
          unfold trF
          rw [foI_s _ _ (by omega)]
          unfold trF at hinv
          rw [← hinv, show f + (i - f) = i by omega]
          first | rw [if_pos (by first | exact Or.inl (by omega) | exact Or.inr (Or.inl c_33) | exact Or.inr (Or.inr c_52))] | rw [if_neg (by intro q; rcases q with q | q | q; exact absurd q (by omega); exact q c_33; exact q c_52)]

set_option maxRecDepth 100000 in
set_option maxHeartbeats 4000000 in
theorem ct_X4_takenAheadOf (σ : St) (k : Int) (hk : 0 ≤ k ∧ k < 60) : Wp mX4_takenAheadOf 0 (fun z τ => z = cntW (σ 53) (σ 54 k) k ∧ τ = σ) 0 [some (.inr 4), some (.inl k), none, none] [] σ := by
  refine Wp.rg (fun hR => ?_)
  refine w_iconst dX4_takenAheadOf_0 ?_
  refine w_istore_n dX4_takenAheadOf_1 (Nat.le_of_ble_eq_true rfl) ?_
  refine w_iconst dX4_takenAheadOf_2 ?_
  refine w_istore_n dX4_takenAheadOf_3 (Nat.le_of_ble_eq_true rfl) ?_
  refine up_to (k) (fun i => 0 ≤ i → ∀ a, a = cntW (σ 53) (σ 54 k) i → Wp mX4_takenAheadOf 0 (fun z τ => z = cntW (σ 53) (σ 54 k) k ∧ τ = σ) 4 [some (.inr 4), some (.inl k), some (.inl a), some (.inl i)] [] σ) (fun i hi ih h0 a hinv => ?_) (0) (by omega) (by omega) 0 rfl
  refine w_iload_n dX4_takenAheadOf_4 rfl ?_
  refine w_iload_n dX4_takenAheadOf_5 rfl ?_
  refine w_icmp_ge (tgt := 33) dX4_takenAheadOf_6 (by decide) (by omega) (by omega) (fun c_6 => ?_) (fun c_6 => ?_)
  · refine w_iload_n dX4_takenAheadOf_33 rfl ?_
    refine w_iret dX4_takenAheadOf_34 rfl ?_
    exact ⟨by rw [hinv, show i = k by omega], rfl⟩
  · refine w_aload_n dX4_takenAheadOf_9 rfl ?_
    refine gf_X4_21 rfl dX4_takenAheadOf_10 ?_
    refine w_iload_n dX4_takenAheadOf_13 rfl ?_
    refine w_iald rfl (by omega) dX4_takenAheadOf_14 ?_
    refine w_aload_n dX4_takenAheadOf_15 rfl ?_
    refine gf_X4_24 rfl dX4_takenAheadOf_16 ?_
    refine w_iload_n dX4_takenAheadOf_19 rfl ?_
    refine w_iald rfl (by omega) dX4_takenAheadOf_20 ?_
    refine w_icmp_ne (tgt := 27) dX4_takenAheadOf_21 (by decide) (hR _ _) (hR _ _) (fun c_21 => ?_) (fun c_21 => ?_)
    · refine w_iinc dX4_takenAheadOf_27 (Nat.le_of_ble_eq_true rfl) rfl ?_
      refine w_goto (tgt := 4) dX4_takenAheadOf_30 (by decide) ?_
      exact ih (by omega) (by omega) _ (by unfold cntW; rw [foI_s _ _ h0]; unfold cntW at hinv; rw [← hinv]; simp [c_21])
    · refine w_iinc dX4_takenAheadOf_24 (Nat.le_of_ble_eq_true rfl) rfl ?_
      refine w_iinc dX4_takenAheadOf_27 (Nat.le_of_ble_eq_true rfl) rfl ?_
      refine w_goto (tgt := 4) dX4_takenAheadOf_30 (by decide) ?_
      exact ih (by omega) (by omega) _ (by unfold cntW; rw [foI_s _ _ h0]; unfold cntW at hinv; rw [← hinv]; simp [c_21])

set_option maxRecDepth 100000 in
set_option maxHeartbeats 4000000 in
theorem ct_X4_widthsLeft (σ : St) (hp : 0 ≤ σ 4 6 ∧ σ 4 6 ≤ σ 4 5 ∧ σ 4 5 ≤ 60) : Wp mX4_widthsLeft 0 (fun z τ => z = sumF (σ 52) (σ 4 6) (σ 4 5 - σ 4 6) ∧ τ = σ) 0 [some (.inr 4), none, none] [] σ := by
  refine Wp.rg (fun hR => ?_)
  refine w_iconst dX4_widthsLeft_0 ?_
  refine w_istore_n dX4_widthsLeft_1 (Nat.le_of_ble_eq_true rfl) ?_
  refine w_aload_n dX4_widthsLeft_2 rfl ?_
  refine gf_X4_27 rfl dX4_widthsLeft_3 ?_
  refine w_istore_n dX4_widthsLeft_6 (Nat.le_of_ble_eq_true rfl) ?_
  refine up_to (σ 4 5) (fun i => σ 4 6 ≤ i → ∀ a, a = sumF (σ 52) (σ 4 6) (i - σ 4 6) → Wp mX4_widthsLeft 0 (fun z τ => z = sumF (σ 52) (σ 4 6) (σ 4 5 - σ 4 6) ∧ τ = σ) 7 [some (.inr 4), some (.inl a), some (.inl i)] [] σ) (fun i hi ih h0 a hinv => ?_) (σ 4 6) (by omega) (by omega) 0 (by rw [Int.sub_self]; rfl)
  refine w_iload_n dX4_widthsLeft_7 rfl ?_
  refine w_aload_n dX4_widthsLeft_8 rfl ?_
  refine gf_X4_31 rfl dX4_widthsLeft_9 ?_
  refine w_icmp_ge (tgt := 30) dX4_widthsLeft_12 (by decide) (by omega) (by omega) (fun c_12 => ?_) (fun c_12 => ?_)
  · refine w_iload_n dX4_widthsLeft_30 rfl ?_
    refine w_iret dX4_widthsLeft_31 rfl ?_
    exact ⟨by rw [← show i = σ 4 5 by omega, ← hinv], rfl⟩
  · refine w_iload_n dX4_widthsLeft_15 rfl ?_
    refine w_aload_n dX4_widthsLeft_16 rfl ?_
    refine gf_X4_18 rfl dX4_widthsLeft_17 ?_
    refine w_iload_n dX4_widthsLeft_20 rfl ?_
    refine w_iald rfl (by omega) dX4_widthsLeft_21 ?_
    refine w_iadd dX4_widthsLeft_22 ?_
    refine w_istore_n dX4_widthsLeft_23 (Nat.le_of_ble_eq_true rfl) ?_
    refine w_iinc dX4_widthsLeft_24 (Nat.le_of_ble_eq_true rfl) rfl ?_
    refine w_goto (tgt := 7) dX4_widthsLeft_27 (by decide) ?_
    exact ih (by omega) (by omega) _ (by rw [show i + 1 - σ 4 6 = (i - σ 4 6) + 1 by omega, sumF_s _ _ (by omega), ← hinv, show σ 4 6 + (i - σ 4 6) = i by omega])

set_option maxRecDepth 100000 in
set_option maxHeartbeats 4000000 in
theorem ct_X4_rightsLeft (σ : St) (hp : 0 ≤ σ 4 6 ∧ σ 4 6 ≤ σ 4 5 ∧ σ 4 5 ≤ 60) : Wp mX4_rightsLeft 1 (fun z τ => z = rgF (σ 53) (σ 54) (σ 4 6) (σ 4 5 - σ 4 6) ∧ τ = σ) 0 [some (.inr 4), none, none] [] σ := by
  refine Wp.rg (fun hR => ?_)
  refine w_iconst dX4_rightsLeft_0 ?_
  refine w_istore_n dX4_rightsLeft_1 (Nat.le_of_ble_eq_true rfl) ?_
  refine w_aload_n dX4_rightsLeft_2 rfl ?_
  refine gf_X4_27 rfl dX4_rightsLeft_3 ?_
  refine w_istore_n dX4_rightsLeft_6 (Nat.le_of_ble_eq_true rfl) ?_
  refine up_to (σ 4 5) (fun i => σ 4 6 ≤ i → ∀ a, a = rgF (σ 53) (σ 54) (σ 4 6) (i - σ 4 6) → Wp mX4_rightsLeft 1 (fun z τ => z = rgF (σ 53) (σ 54) (σ 4 6) (σ 4 5 - σ 4 6) ∧ τ = σ) 7 [some (.inr 4), some (.inl a), some (.inl i)] [] σ) (fun i hi ih h0 a hinv => ?_) (σ 4 6) (by omega) (by omega) 0 (by rw [Int.sub_self]; rfl)
  refine w_iload_n dX4_rightsLeft_7 rfl ?_
  refine w_aload_n dX4_rightsLeft_8 rfl ?_
  refine gf_X4_31 rfl dX4_rightsLeft_9 ?_
  refine w_icmp_ge (tgt := 33) dX4_rightsLeft_12 (by decide) (by omega) (by omega) (fun c_12 => ?_) (fun c_12 => ?_)
  · refine w_iload_n dX4_rightsLeft_33 rfl ?_
    refine w_iret dX4_rightsLeft_34 rfl ?_
    exact ⟨by rw [← show i = σ 4 5 by omega, ← hinv], rfl⟩
  · refine w_aload_n dX4_rightsLeft_15 rfl ?_
    refine w_iload_n dX4_rightsLeft_16 rfl ?_
    refine cv_X4_59 rfl dX4_rightsLeft_17 (Nat.le_of_ble_eq_true rfl) (Nat.le_of_ble_eq_true rfl) (Wp.mono (ct_X4_direction _ i (by omega)) (fun z_ τ_ hq_ => ?_))
    obtain ⟨hz_, hs_⟩ := hq_
    subst z_
    subst τ_
    refine w_iconst dX4_rightsLeft_20 ?_
    refine w_icmp_ne (tgt := 27) dX4_rightsLeft_21 (by decide) (by split <;> omega) (by omega) (fun c_21 => ?_) (fun c_21 => ?_)
    · refine w_iinc dX4_rightsLeft_27 (Nat.le_of_ble_eq_true rfl) rfl ?_
      refine w_goto (tgt := 7) dX4_rightsLeft_30 (by decide) ?_
      refine ih (by omega) (by omega) _ ?_
      rw [show i + 1 - σ 4 6 = (i - σ 4 6) + 1 by omega]
      unfold rgF
      rw [foI_s _ _ (by omega)]
      unfold rgF at hinv
      rw [← hinv, show σ 4 6 + (i - σ 4 6) = i by omega]
      by_cases q : σ 53 i < σ 54 i
      · rw [if_pos q] at c_21 ⊢
        all_goals first | rfl | exact absurd rfl c_21
      · rw [if_neg q] at c_21 ⊢
        all_goals first | rfl | exact absurd c_21 (by decide)
    · refine w_iinc dX4_rightsLeft_24 (Nat.le_of_ble_eq_true rfl) rfl ?_
      refine w_iinc dX4_rightsLeft_27 (Nat.le_of_ble_eq_true rfl) rfl ?_
      refine w_goto (tgt := 7) dX4_rightsLeft_30 (by decide) ?_
      refine ih (by omega) (by omega) _ ?_
      rw [show i + 1 - σ 4 6 = (i - σ 4 6) + 1 by omega]
      unfold rgF
      rw [foI_s _ _ (by omega)]
      unfold rgF at hinv
      rw [← hinv, show σ 4 6 + (i - σ 4 6) = i by omega]
      by_cases q : σ 53 i < σ 54 i
      · rw [if_pos q] at c_21 ⊢
        all_goals first | rfl | exact absurd rfl c_21
      · rw [if_neg q] at c_21 ⊢
        all_goals first | rfl | exact absurd c_21 (by decide)

set_option maxRecDepth 100000 in
set_option maxHeartbeats 4000000 in
theorem ct_X3_write (σ : St) (k b w f t : Int) (hn : 0 ≤ σ 3 1 ∧ σ 3 1 < 40) (hc : 0 ≤ σ 3 2 ∧ σ 3 2 ≤ 40) (hk : InR k) (hb : InR b) (hw : InR w) (hf : InR f) (ht : InR t) : Wp mX3_write 1 (fun z τ => τ = put (put (put (put (put (put (put σ 49 (σ 3 1 * 5) k) 49 (σ 3 1 * 5 + 1) b) 49 (σ 3 1 * 5 + 2) w) 49 (σ 3 1 * 5 + 3) f) 49 (σ 3 1 * 5 + 4) t) 3 1 ((σ 3 1 + 1) % 40)) 3 2 (if 40 < σ 3 2 + 1 then 40 else σ 3 2 + 1)) 0 [some (.inr 3), some (.inl k), some (.inl b), some (.inl w), some (.inl f), some (.inl t), none] [] σ := by
  refine Wp.rg (fun hR => ?_)
  refine w_aload_n dX3_write_0 rfl ?_
  refine gf_X3_15 rfl dX3_write_1 ?_
  refine w_iconst dX3_write_4 ?_
  refine w_imul dX3_write_5 ?_
  refine w_istore dX3_write_6 (Nat.le_of_ble_eq_true rfl) ?_
  refine w_aload_n dX3_write_8 rfl ?_
  refine gf_X3_11 rfl dX3_write_9 ?_
  refine w_iload dX3_write_12 rfl ?_
  refine w_iload_n dX3_write_14 rfl ?_
  refine w_iast rfl (by omega) hk dX3_write_15 ?_
  refine w_aload_n dX3_write_16 rfl ?_
  refine gf_X3_11 rfl dX3_write_17 ?_
  refine w_iload dX3_write_20 rfl ?_
  refine w_iconst dX3_write_22 ?_
  refine w_iadd dX3_write_23 ?_
  refine w_iload_n dX3_write_24 rfl ?_
  refine w_iast rfl (by omega) hb dX3_write_25 ?_
  refine w_aload_n dX3_write_26 rfl ?_
  refine gf_X3_11 rfl dX3_write_27 ?_
  refine w_iload dX3_write_30 rfl ?_
  refine w_iconst dX3_write_32 ?_
  refine w_iadd dX3_write_33 ?_
  refine w_iload_n dX3_write_34 rfl ?_
  refine w_iast rfl (by omega) hw dX3_write_35 ?_
  refine w_aload_n dX3_write_36 rfl ?_
  refine gf_X3_11 rfl dX3_write_37 ?_
  refine w_iload dX3_write_40 rfl ?_
  refine w_iconst dX3_write_42 ?_
  refine w_iadd dX3_write_43 ?_
  refine w_iload dX3_write_44 rfl ?_
  refine w_iast rfl (by omega) hf dX3_write_46 ?_
  refine w_aload_n dX3_write_47 rfl ?_
  refine gf_X3_11 rfl dX3_write_48 ?_
  refine w_iload dX3_write_51 rfl ?_
  refine w_iconst dX3_write_53 ?_
  refine w_iadd dX3_write_54 ?_
  refine w_iload dX3_write_55 rfl ?_
  refine w_iast rfl (by omega) ht dX3_write_57 ?_
  refine w_aload_n dX3_write_58 rfl ?_
  refine w_aload_n dX3_write_59 rfl ?_
  refine gf_X3_15 rfl dX3_write_60 ?_
  refine w_iconst dX3_write_63 ?_
  refine w_iadd dX3_write_64 ?_
  refine w_bipush dX3_write_65 (by decide) ?_
  refine w_iremN dX3_write_67 (by simp only [put_eq]; simp; omega) (by simp only [put_eq]; simp; omega) (by omega) (by omega) ?_
  refine pf_X3_15 rfl (by simp only [put_eq]; simp; omega) dX3_write_68 ?_
  refine w_aload_n dX3_write_71 rfl ?_
  refine w_aload_n dX3_write_72 rfl ?_
  refine gf_X3_19 rfl dX3_write_73 ?_
  refine w_iconst dX3_write_76 ?_
  refine w_iadd dX3_write_77 ?_
  refine w_bipush dX3_write_78 (by decide) ?_
  refine w_min dX3_write_80 tw_412 tw_413 tw_69 tw_414 (Nat.le_of_ble_eq_true rfl) (Nat.le_of_ble_eq_true rfl) (by simp only [put_eq]; simp; omega) (by omega) ?_
  refine pf_X3_19 rfl (by simp only [put_eq]; simp; split <;> omega) dX3_write_83 ?_
  refine w_ret dX3_write_86 rfl ?_
  simp [put_eq]

set_option maxRecDepth 100000 in
set_option maxHeartbeats 4000000 in
theorem ct_X3_read (σ : St) (k w : Int) (hn : 0 ≤ σ 3 1 ∧ σ 3 1 < 40) (hc : 0 ≤ σ 3 2 ∧ σ 3 2 ≤ 40) (hk : InR k) (hw : InR w) : Wp mX3_read 0 (fun z τ => z = (if 0 ≤ k ∧ k < σ 3 2 ∧ 0 ≤ w ∧ w < 5 then σ 49 ((σ 3 1 + 40 - 1 - k) % 40 * 5 + w) else -1) ∧ τ = σ) 0 [some (.inr 3), some (.inl k), some (.inl w), none] [] σ := by
  refine Wp.rg (fun hR => ?_)
  refine w_iload_n dX3_read_0 rfl ?_
  refine w_if_lt (tgt := 21) dX3_read_1 (by decide) (by omega) (fun c_1 => ?_) (fun c_1 => ?_)
  · refine w_iconst dX3_read_21 ?_
    refine w_iret dX3_read_22 rfl ?_
    exact ⟨by rw [if_neg (by omega)], rfl⟩
  · refine w_iload_n dX3_read_4 rfl ?_
    refine w_aload_n dX3_read_5 rfl ?_
    refine gf_X3_19 rfl dX3_read_6 ?_
    refine w_icmp_ge (tgt := 21) dX3_read_9 (by decide) (by omega) (by omega) (fun c_9 => ?_) (fun c_9 => ?_)
    · refine w_iconst dX3_read_21 ?_
      refine w_iret dX3_read_22 rfl ?_
      exact ⟨by rw [if_neg (by omega)], rfl⟩
    · refine w_iload_n dX3_read_12 rfl ?_
      refine w_if_lt (tgt := 21) dX3_read_13 (by decide) (by omega) (fun c_13 => ?_) (fun c_13 => ?_)
      · refine w_iconst dX3_read_21 ?_
        refine w_iret dX3_read_22 rfl ?_
        exact ⟨by rw [if_neg (by omega)], rfl⟩
      · refine w_iload_n dX3_read_16 rfl ?_
        refine w_iconst dX3_read_17 ?_
        refine w_icmp_lt (tgt := 23) dX3_read_18 (by decide) (by omega) (by omega) (fun c_18 => ?_) (fun c_18 => ?_)
        · refine w_aload_n dX3_read_23 rfl ?_
          refine gf_X3_15 rfl dX3_read_24 ?_
          refine w_bipush dX3_read_27 (by decide) ?_
          refine w_iadd dX3_read_29 ?_
          refine w_iconst dX3_read_30 ?_
          refine w_isub dX3_read_31 ?_
          refine w_iload_n dX3_read_32 rfl ?_
          refine w_isub dX3_read_33 ?_
          refine w_bipush dX3_read_34 (by decide) ?_
          refine w_iremN dX3_read_36 (by omega) (by omega) (by omega) (by omega) ?_
          refine w_istore_n dX3_read_37 (Nat.le_of_ble_eq_true rfl) ?_
          refine w_aload_n dX3_read_38 rfl ?_
          refine gf_X3_11 rfl dX3_read_39 ?_
          refine w_iload_n dX3_read_42 rfl ?_
          refine w_iconst dX3_read_43 ?_
          refine w_imul dX3_read_44 ?_
          refine w_iload_n dX3_read_45 rfl ?_
          refine w_iadd dX3_read_46 ?_
          refine w_iald rfl (by omega) dX3_read_47 ?_
          refine w_iret dX3_read_48 rfl ?_
          exact ⟨by rw [if_pos (by omega)], rfl⟩
        · refine w_iconst dX3_read_21 ?_
          refine w_iret dX3_read_22 rfl ?_
          exact ⟨by rw [if_neg (by omega)], rfl⟩

