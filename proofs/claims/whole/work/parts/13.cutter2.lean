theorem pos_put (g : Int → Int) (i v : Int) {s : Int} (h : s ≤ i) : sumF (upF g i v) 0 s = sumF g 0 s := sumF_congr (n := i) (fun k k1 k2 => by unfold upF; rw [if_neg (by omega)]) (by omega)
theorem put_row (σ : St) (k : Nat) (i x : Int) : put σ k i x k = upF (σ k) i x := by
  funext b
  simp [put_eq, upF]

set_option maxRecDepth 100000 in
set_option maxHeartbeats 4000000 in
theorem ct_X1_follow (σ : St) (hns : 0 ≤ σ 1 9 ∧ σ 1 9 ≤ 12) (hn : 0 ≤ σ 1 10 ∧ σ 1 10 ≤ 60) (hm : ∀ s, 0 ≤ s → s < σ 1 9 → ∀ f, 0 ≤ f → f ≤ σ 1 10 → 0 ≤ σ (36 + s.toNat) f ∧ f + σ (36 + s.toNat) f ≤ σ 1 10) : Wp mX1_follow 0 (fun z τ => (∀ s, 0 ≤ s → s < σ 1 9 → τ 15 s = σ (36 + s.toNat) (sumF (τ 15) 0 s)) ∧ (∀ s b, 0 ≤ s → s < σ 1 9 → sumF (τ 15) 0 s ≤ b → b < sumF (τ 15) 0 (s + 1) → τ 14 b = s) ∧ (∀ k, k ≠ 14 → k ≠ 15 → τ k = σ k)) 0 [some (.inr 1), none, none, none, none] [] σ := by
  refine Wp.rg (fun hR => ?_)
  have hpb : ∀ (τ : St) (i : Int), (∀ s, 0 ≤ s → s < i → τ 15 s = σ (36 + s.toNat) (sumF (τ 15) 0 s)) → i ≤ σ 1 9 → ∀ s, 0 ≤ s → s ≤ i → 0 ≤ sumF (τ 15) 0 s ∧ sumF (τ 15) 0 s ≤ σ 1 10 := by
    intro τ i hq hi s s0 s1
    have key : ∀ k : Nat, (k : Int) ≤ i → 0 ≤ sumF (τ 15) 0 k ∧ sumF (τ 15) 0 k ≤ σ 1 10 := by
      intro k
      induction k with
      | zero => intro _; rw [show ((0 : Nat) : Int) = 0 from rfl, sumF_0]; omega
      | succ k ih =>
        intro hk
        have ih := ih (by omega)
        rw [show ((k + 1 : Nat) : Int) = (k : Int) + 1 by omega, pos_s _ (by omega), hq k (by omega) (by omega)]
        have := hm k (by omega) (by omega) _ ih.1 ih.2
        omega
    have := key s.toNat (by omega)
    rwa [show ((s.toNat : Nat) : Int) = s by omega] at this
  refine w_iconst dX1_follow_0 ?_
  refine w_istore_n dX1_follow_1 (Nat.le_of_ble_eq_true rfl) ?_
  refine w_iconst dX1_follow_2 ?_
  refine w_istore_n dX1_follow_3 (Nat.le_of_ble_eq_true rfl) ?_
  refine up_to (σ 1 9) (fun i => 0 ≤ i → ∀ (τ : St) (f : Int) (x3 x4 : Option PV), ((∀ s, 0 ≤ s → s < i → τ 15 s = σ (36 + s.toNat) (sumF (τ 15) 0 s)) ∧ (∀ s b, 0 ≤ s → s < i → sumF (τ 15) 0 s ≤ b → b < sumF (τ 15) 0 (s + 1) → τ 14 b = s) ∧ (∀ k, k ≠ 14 → k ≠ 15 → τ k = σ k) ∧ f = sumF (τ 15) 0 i ∧ 0 ≤ f ∧ f ≤ σ 1 10) → Wp mX1_follow 0 (fun z τ => (∀ s, 0 ≤ s → s < σ 1 9 → τ 15 s = σ (36 + s.toNat) (sumF (τ 15) 0 s)) ∧ (∀ s b, 0 ≤ s → s < σ 1 9 → sumF (τ 15) 0 s ≤ b → b < sumF (τ 15) 0 (s + 1) → τ 14 b = s) ∧ (∀ k, k ≠ 14 → k ≠ 15 → τ k = σ k)) 4 [some (.inr 1), some (.inl f), some (.inl i), x3, x4] [] τ) (fun i hi ih h0 τ f x3 x4 hinv => ?_) (0) (by omega) (by omega) σ 0 _ _ ⟨fun s s0 s1 => by omega, fun s b s0 s1 => by omega, fun k _ _ => rfl, rfl, by omega, by omega⟩
  obtain ⟨q1, q2, q3, q4, q5, q6⟩ := hinv
  have e1 : τ 1 = σ 1 := q3 1 (by decide) (by decide)
  refine Wp.rg (fun hR2 => ?_)
  refine w_iload_n dX1_follow_4 rfl ?_
  refine w_aload_n dX1_follow_5 rfl ?_
  refine gf_X1_47 rfl dX1_follow_6 ?_
  refine w_icmp_ge (tgt := 66) dX1_follow_9 (by decide) (by omega) (by rw [e1]; omega) (fun c_9 => ?_) (fun c_9 => ?_)
  · refine w_ret dX1_follow_66 rfl ?_
    exact ⟨fun s s0 s1 => q1 s s0 (by rw [e1] at c_9; omega), fun s b s0 s1 => q2 s b s0 (by rw [e1] at c_9; omega), q3⟩
  · rw [e1] at c_9
    have hmi := hm i h0 c_9 f q5 q6
    have em : τ (36 + i.toNat) = σ (36 + i.toNat) := q3 _ (by omega) (by omega)
    refine w_aload_n dX1_follow_12 rfl ?_
    refine gf_X1_15 rfl dX1_follow_13 ?_
    refine w_iload_n dX1_follow_16 rfl ?_
    refine w_aload_n dX1_follow_17 rfl ?_
    refine gf_X1_38 rfl dX1_follow_18 ?_
    refine w_iload_n dX1_follow_21 rfl ?_
    refine w_aald rfl (by omega) dX1_follow_22 ?_
    refine w_iload_n dX1_follow_23 rfl ?_
    refine w_iald (sh_most (by omega) (by omega)) (by omega) dX1_follow_24 ?_
    rw [em]
    refine w_iast rfl (by omega) (hR _ _) dX1_follow_25 ?_
    refine w_iload_n dX1_follow_26 rfl ?_
    refine w_aload_n dX1_follow_27 rfl ?_
    refine gf_X1_15 rfl dX1_follow_28 ?_
    refine w_iload_n dX1_follow_31 rfl ?_
    refine w_iald rfl (by omega) dX1_follow_32 ?_
    refine w_iadd dX1_follow_33 ?_
    refine w_istore_n dX1_follow_34 (Nat.le_of_ble_eq_true rfl) ?_
    refine w_iload_n dX1_follow_35 rfl ?_
    refine w_istore dX1_follow_36 (Nat.le_of_ble_eq_true rfl) ?_
    simp only [put_eq, if_true]
    obtain ⟨e, he⟩ : ∃ e, e = f + σ (36 + i.toNat) f := ⟨_, rfl⟩
    rw [← he]
    refine up_to (e) (fun j => f ≤ j → ∀ (τ : St), ((∀ s, 0 ≤ s → s < i → τ 15 s = σ (36 + s.toNat) (sumF (τ 15) 0 s)) ∧ (∀ s b, 0 ≤ s → s < i → sumF (τ 15) 0 s ≤ b → b < sumF (τ 15) 0 (s + 1) → τ 14 b = s) ∧ (∀ k, k ≠ 14 → k ≠ 15 → τ k = σ k) ∧ f = sumF (τ 15) 0 i ∧ e = f + τ 15 i ∧ τ 15 i = σ (36 + i.toNat) f ∧ (∀ b, f ≤ b → b < j → τ 14 b = i)) → Wp mX1_follow 0 (fun z τ => (∀ s, 0 ≤ s → s < σ 1 9 → τ 15 s = σ (36 + s.toNat) (sumF (τ 15) 0 s)) ∧ (∀ s b, 0 ≤ s → s < σ 1 9 → sumF (τ 15) 0 s ≤ b → b < sumF (τ 15) 0 (s + 1) → τ 14 b = s) ∧ (∀ k, k ≠ 14 → k ≠ 15 → τ k = σ k)) 38 [some (.inr 1), some (.inl f), some (.inl i), some (.inl e), some (.inl j)] [] τ) (fun j hi2 ih2 h02 τ hinv2 => ?_) (f) (by omega) (by omega) _ ⟨?_, ?_, ?_, ?_, ?_, ?_, fun b b1 b2 => by omega⟩
    rotate_left 1
    · intro s s0 s1
      rw [put_row, pos_put _ _ _ (by omega)]
      unfold upF
      rw [if_neg (by omega)]
      exact q1 s s0 s1
    · intro s b s0 s1 b1 b2
      rw [put_row, pos_put _ _ _ (by omega)] at b1 b2
      rw [put_ne (by decide)]
      exact q2 s b s0 s1 b1 b2
    · intro k k1 k2
      rw [put_ne k2]; exact q3 k k1 k2
    · rw [put_row, pos_put _ _ _ (by omega)]; exact q4
    · simp [put_eq, he]
    · simp [put_eq]
    obtain ⟨r1, r2, r3, r4, r5, r6, r7⟩ := hinv2
    have e1 : τ 1 = σ 1 := r3 1 (by decide) (by decide)
    have hpos : ∀ s, 0 ≤ s → s < i → sumF (τ 15) 0 (s + 1) ≤ f := by
      intro s s0 s1
      rw [r4]
      refine sumF_mono (n := i) (fun k k1 k2 => ?_) (by omega) (by omega) (by omega)
      rw [r1 k k1 k2]
      have hpk := hpb τ i r1 (by omega) k k1 (by omega)
      exact (hm k k1 (by omega) _ hpk.1 hpk.2).1
    refine w_iload dX1_follow_38 rfl ?_
    refine w_iload_n dX1_follow_40 rfl ?_
    refine w_icmp_ge (tgt := 58) dX1_follow_41 (by decide) (by omega) (by omega) (fun c_41 => ?_) (fun c_41 => ?_)
    · refine w_iload_n dX1_follow_58 rfl ?_
      refine w_istore_n dX1_follow_59 (Nat.le_of_ble_eq_true rfl) ?_
      refine w_iinc dX1_follow_60 (Nat.le_of_ble_eq_true rfl) rfl ?_
      refine w_goto (tgt := 4) dX1_follow_63 (by decide) ?_
      refine ih (by omega) (by omega) _ _ _ _ ⟨?_, ?_, r3, ?_, by omega, by omega⟩
      · intro s s0 s1
        by_cases q : s = i
        · subst q; rw [r6, ← r4]
        · exact r1 s s0 (by omega)
      · intro s b s0 s1 b1 b2
        by_cases q : s = i
        · subst q
          rw [← r4] at b1
          rw [pos_s _ s0, ← r4] at b2
          exact r7 b b1 (by omega)
        · exact r2 s b s0 (by omega) b1 b2
      · rw [pos_s _ h0, ← r4]; exact r5
    · refine w_aload_n dX1_follow_44 rfl ?_
      refine gf_X1_9 rfl dX1_follow_45 ?_
      refine w_iload dX1_follow_48 rfl ?_
      refine w_iload_n dX1_follow_50 rfl ?_
      refine w_iast rfl (by omega) (by omega) dX1_follow_51 ?_
      refine w_iinc dX1_follow_52 (Nat.le_of_ble_eq_true rfl) rfl ?_
      refine w_goto (tgt := 38) dX1_follow_55 (by decide) ?_
      refine ih2 (by omega) (by omega) _ ⟨?_, ?_, fun k k1 k2 => by rw [put_ne k1]; exact r3 k k1 k2, by rw [put_ne (by decide)]; exact r4, by rw [put_ne (by decide)]; exact r5, by rw [put_ne (by decide)]; exact r6, fun b b1 b2 => ?_⟩
      · rw [put_ne (by decide)]; exact r1
      · rw [put_ne (by decide)]
        intro s b s0 s1 b1 b2
        have hp := hpos s s0 s1
        rw [put_eq, if_pos rfl, if_neg (by omega)]
        exact r2 s b s0 s1 b1 b2
      · rw [put_eq, if_pos rfl]
        by_cases q : b = j
        · rw [if_pos q]
        · rw [if_neg q]; exact r7 b b1 (by omega)

