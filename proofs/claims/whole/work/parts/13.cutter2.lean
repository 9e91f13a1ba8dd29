theorem pos_put (g : Int → Int) (i v : Int) {s : Int} (h : s ≤ i) : sumF (upF g i v) 0 s = sumF g 0 s := sumF_congr (n := i) (fun k k1 k2 => by unfold upF; rw [if_neg (by omega)]) (by omega)
theorem put_row (σ : St) (k : Nat) (i x : Int) : put σ k i x k = upF (σ k) i x := by
  funext b
  simp [put_eq, upF]

set_option maxRecDepth 100000 in
set_option maxHeartbeats 4000000 in
theorem ct_X1_follow (σ : St) (hns : 0 ≤ σ 1 9 ∧ σ 1 9 ≤ 12) (hn : 0 ≤ σ 1 10 ∧ σ 1 10 ≤ 60) (hm : ∀ s, 0 ≤ s → s < σ 1 9 → ∀ f, 0 ≤ f → f ≤ σ 1 10 → 0 ≤ σ (36 + s.toNat) f ∧ f + σ (36 + s.toNat) f ≤ σ 1 10) : Wp mX1_follow 0 (fun z τ => (∀ s, 0 ≤ s → s < σ 1 9 → τ 15 s = σ (36 + s.toNat) (sumF (τ 15) 0 s)) ∧ (∀ s b, 0 ≤ s → s < σ 1 9 → sumF (τ 15) 0 s ≤ b → b < sumF (τ 15) 0 (s + 1) → τ 14 b = s) ∧ (∀ k, k ≠ 14 → k ≠ 15 → τ k = σ k)) 0 [some (.inr 1), none, none, none, none] [] σ := by
  refine Wp.rg (fun hR => ?_)
  have hpb : ∀ (τ : St) (i : Int), (∀ s, 0 ≤ s → s < i → τ 15 s = σ (36 + s.toNat) (sumF (τ 15) 0 s)) → i ≤ σ 1 9 → ∀ s, 0 ≤ s → s ≤ i → 0 ≤ sumF (τ 15) 0 s ∧ sumF (τ 15) 0 s ≤ σ 1 10 := by
    intro τ i hq hi s s0 s1
    have key : ∀ k : Nat, (k : Int) ≤ i → 0 ≤ sumF (τ 15) 0 k ∧ sumF (τ 15) 0 k ≤ σ 1 10 := by
      intro k
      induction k with
      | zero => intro _; rw [show ((0 : Nat) : Int) = 0 from rfl, sumF_0]; omega
      | succ k ih =>
        intro hk
        have ih := ih (by omega)
        rw [show ((k + 1 : Nat) : Int) = (k : Int) + 1 by omega, pos_s _ (by omega), hq k (by omega) (by omega)]
        have := hm k (by omega) (by omega) _ ih.1 ih.2
        omega
    have := key s.toNat (by omega)
    rwa [show ((s.toNat : Nat) : Int) = s by omega] at this
  refine w_iconst dX1_follow_0 ?_
  refine w_istore_n dX1_follow_1 (Nat.le_of_ble_eq_true rfl) ?_
  refine w_iconst dX1_follow_2 ?_
  refine w_istore_n dX1_follow_3 (Nat.le_of_ble_eq_true rfl) ?_
  refine up_to (σ 1 9) (fun i => 0 ≤ i → ∀ (τ : St) (f : Int) (x3 x4 : Option PV), ((∀ s, 0 ≤ s → s < i → τ 15 s = σ (36 + s.toNat) (sumF (τ 15) 0 s)) ∧ (∀ s b, 0 ≤ s → s < i → sumF (τ 15) 0 s ≤ b → b < sumF (τ 15) 0 (s + 1) → τ 14 b = s) ∧ (∀ k, k ≠ 14 → k ≠ 15 → τ k = σ k) ∧ f = sumF (τ 15) 0 i ∧ 0 ≤ f ∧ f ≤ σ 1 10) → Wp mX1_follow 0 (fun z τ => (∀ s, 0 ≤ s → s < σ 1 9 → τ 15 s = σ (36 + s.toNat) (sumF (τ 15) 0 s)) ∧ (∀ s b, 0 ≤ s → s < σ 1 9 → sumF (τ 15) 0 s ≤ b → b < sumF (τ 15) 0 (s + 1) → τ 14 b = s) ∧ (∀ k, k ≠ 14 → k ≠ 15 → τ k = σ k)) 4 [some (.inr 1), some (.inl f), some (.inl i), x3, x4] [] τ) (fun i hi ih h0 τ f x3 x4 hinv => ?_) (0) (by omega) (by omega) σ 0 _ _ ⟨fun s s0 s1 => by omega, fun s b s0 s1 => by omega, fun k _ _ => rfl, rfl, by omega, by omega⟩
  obtain ⟨q1, q2, q3, q4, q5, q6⟩ := hinv
  have e1 : τ 1 = σ 1 := q3 1 (by decide) (by decide)
  refine Wp.rg (fun hR2 => ?_)
  refine w_iload_n dX1_follow_4 rfl ?_
  refine w_aload_n dX1_follow_5 rfl ?_
  refine gf_X1_47 rfl dX1_follow_6 ?_
  refine w_icmp_ge (tgt := 66) dX1_follow_9 (by decide) (by omega) (by rw [e1]; omega) (fun c_9 => ?_) (fun c_9 => ?_)
  · refine w_ret dX1_follow_66 rfl ?_
    exact ⟨fun s s0 s1 => q1 s s0 (by rw [e1] at c_9; omega), fun s b s0 s1 => q2 s b s0 (by rw [e1] at c_9; omega), q3⟩
  · rw [e1] at c_9
    have hmi := hm i h0 c_9 f q5 q6
    have em : τ (36 + i.toNat) = σ (36 + i.toNat) := q3 _ (by omega) (by omega)
    refine w_aload_n dX1_follow_12 rfl ?_
    refine gf_X1_15 rfl dX1_follow_13 ?_
    refine w_iload_n dX1_follow_16 rfl ?_
    refine w_aload_n dX1_follow_17 rfl ?_
    refine gf_X1_38 rfl dX1_follow_18 ?_
    refine w_iload_n dX1_follow_21 rfl ?_
    refine w_aald rfl (by omega) dX1_follow_22 ?_
    refine w_iload_n dX1_follow_23 rfl ?_
    refine w_iald (sh_most (by omega) (by omega)) (by omega) dX1_follow_24 ?_
    rw [em]
    refine w_iast rfl (by omega) (hR _ _) dX1_follow_25 ?_
    refine w_iload_n dX1_follow_26 rfl ?_
    refine w_aload_n dX1_follow_27 rfl ?_
    refine gf_X1_15 rfl dX1_follow_28 ?_
    refine w_iload_n dX1_follow_31 rfl ?_
    refine w_iald rfl (by omega) dX1_follow_32 ?_
    refine w_iadd dX1_follow_33 ?_
    refine w_istore_n dX1_follow_34 (Nat.le_of_ble_eq_true rfl) ?_
    refine w_iload_n dX1_follow_35 rfl ?_
    refine w_istore dX1_follow_36 (Nat.le_of_ble_eq_true rfl) ?_
    simp only [put_eq, if_true]
    obtain ⟨e, he⟩ : ∃ e, e = f + σ (36 + i.toNat) f := ⟨_, rfl⟩
    rw [← he]
    refine up_to (e) (fun j => f ≤ j → ∀ (τ : St), ((∀ s, 0 ≤ s → s < i → τ 15 s = σ (36 + s.toNat) (sumF (τ 15) 0 s)) ∧ (∀ s b, 0 ≤ s → s < i → sumF (τ 15) 0 s ≤ b → b < sumF (τ 15) 0 (s + 1) → τ 14 b = s) ∧ (∀ k, k ≠ 14 → k ≠ 15 → τ k = σ k) ∧ f = sumF (τ 15) 0 i ∧ e = f + τ 15 i ∧ τ 15 i = σ (36 + i.toNat) f ∧ (∀ b, f ≤ b → b < j → τ 14 b = i)) → Wp mX1_follow 0 (fun z τ => (∀ s, 0 ≤ s → s < σ 1 9 → τ 15 s = σ (36 + s.toNat) (sumF (τ 15) 0 s)) ∧ (∀ s b, 0 ≤ s → s < σ 1 9 → sumF (τ 15) 0 s ≤ b → b < sumF (τ 15) 0 (s + 1) → τ 14 b = s) ∧ (∀ k, k ≠ 14 → k ≠ 15 → τ k = σ k)) 38 [some (.inr 1), some (.inl f), some (.inl i), some (.inl e), some (.inl j)] [] τ) (fun j hi2 ih2 h02 τ hinv2 => ?_) (f) (by omega) (by omega) _ ⟨?_, ?_, ?_, ?_, ?_, ?_, fun b b1 b2 => by omega⟩
    rotate_left 1
    · intro s s0 s1
      rw [put_row, pos_put _ _ _ (by omega)]
      unfold upF
      rw [if_neg (by omega)]
      exact q1 s s0 s1
    · intro s b s0 s1 b1 b2
      rw [put_row, pos_put _ _ _ (by omega)] at b1 b2
      rw [put_ne (by decide)]
      exact q2 s b s0 s1 b1 b2
    · intro k k1 k2
      rw [put_ne k2]; exact q3 k k1 k2
    · rw [put_row, pos_put _ _ _ (by omega)]; exact q4
    · simp [put_eq, he]
    · simp [put_eq]
    obtain ⟨r1, r2, r3, r4, r5, r6, r7⟩ := hinv2
    have e1 : τ 1 = σ 1 := r3 1 (by decide) (by decide)
    have hpos : ∀ s, 0 ≤ s → s < i → sumF (τ 15) 0 (s + 1) ≤ f := by
      intro s s0 s1
      rw [r4]
      refine sumF_mono (n := i) (fun k k1 k2 => ?_) (by omega) (by omega) (by omega)
      rw [r1 k k1 k2]
      have hpk := hpb τ i r1 (by omega) k k1 (by omega)
      exact (hm k k1 (by omega) _ hpk.1 hpk.2).1
    refine w_iload dX1_follow_38 rfl ?_
    refine w_iload_n dX1_follow_40 rfl ?_
    refine w_icmp_ge (tgt := 58) dX1_follow_41 (by decide) (by omega) (by omega) (fun c_41 => ?_) (fun c_41 => ?_)
    · refine w_iload_n dX1_follow_58 rfl ?_
      refine w_istore_n dX1_follow_59 (Nat.le_of_ble_eq_true rfl) ?_
      refine w_iinc dX1_follow_60 (Nat.le_of_ble_eq_true rfl) rfl ?_
      refine w_goto (tgt := 4) dX1_follow_63 (by decide) ?_
      refine ih (by omega) (by omega) _ _ _ _ ⟨?_, ?_, r3, ?_, by omega, by omega⟩
      · intro s s0 s1
        by_cases q : s = i
        · subst q; rw [r6, ← r4]
        · exact r1 s s0 (by omega)
      · intro s b s0 s1 b1 b2
        by_cases q : s = i
        · subst q
          rw [← r4] at b1
          rw [pos_s _ s0, ← r4] at b2
          exact r7 b b1 (by omega)
        · exact r2 s b s0 (by omega) b1 b2
      · rw [pos_s _ h0, ← r4]; exact r5
    · refine w_aload_n dX1_follow_44 rfl ?_
      refine gf_X1_9 rfl dX1_follow_45 ?_
      refine w_iload dX1_follow_48 rfl ?_
      refine w_iload_n dX1_follow_50 rfl ?_
      refine w_iast rfl (by omega) (by omega) dX1_follow_51 ?_
      refine w_iinc dX1_follow_52 (Nat.le_of_ble_eq_true rfl) rfl ?_
      refine w_goto (tgt := 38) dX1_follow_55 (by decide) ?_
      refine ih2 (by omega) (by omega) _ ⟨?_, ?_, fun k k1 k2 => by rw [put_ne k1]; exact r3 k k1 k2, by rw [put_ne (by decide)]; exact r4, by rw [put_ne (by decide)]; exact r5, by rw [put_ne (by decide)]; exact r6, fun b b1 b2 => ?_⟩
      · rw [put_ne (by decide)]; exact r1
      · rw [put_ne (by decide)]
        intro s b s0 s1 b1 b2
        have hp := hpos s s0 s1
        rw [put_eq, if_pos rfl, if_neg (by omega)]
        exact r2 s b s0 s1 b1 b2
      · rw [put_eq, if_pos rfl]
        by_cases q : b = j
        · rw [if_pos q]
        · rw [if_neg q]; exact r7 b b1 (by omega)

def BaseR (τ : St) (ns n : Int) : Prop := ∀ b, 0 ≤ b → b ≤ n → τ (22 + ns.toNat) b = if b = n then 0 else 1000000000
def GoodE (c : CP) (n : Int) (τ : St) (s f : Int) : Prop := IsMn c n (τ (22 + (s + 1).toNat)) s f (τ (22 + s.toNat) f) ∧ IsMost c n (τ (22 + (s + 1).toNat)) s f (τ (22 + s.toNat) f) (τ (36 + s.toNat) f) ∧ 0 ≤ τ (22 + s.toNat) f ∧ τ (22 + s.toNat) f ≤ 1000000000
theorem GoodE.keep {c : CP} {n s f : Int} {τ υ : St} (h : GoodE c n τ s f) (e1 : υ (22 + (s + 1).toNat) = τ (22 + (s + 1).toNat)) (e2 : υ (22 + s.toNat) f = τ (22 + s.toNat) f) (e3 : υ (36 + s.toNat) f = τ (36 + s.toNat) f) : GoodE c n υ s f := by
  unfold GoodE
  rw [e1, e2, e3]
  exact h

set_option maxRecDepth 100000 in
set_option maxHeartbeats 4000000 in
theorem ct_X1_findCuts (σ : St) (hc : CPok (σ 16, σ 17, σ 18, σ 19, σ 20) (σ 1 9) (σ 1 10)) : Wp mX1_findCuts 2 (fun z τ => ∃ L, TblL (σ 16, σ 17, σ 18, σ 19, σ 20) (σ 1 9) (σ 1 10) L ∧ L 0 0 = τ 1 11 ∧ ((z = 1 ∧ L 0 0 < 1000000000 ∧ IsCut (σ 16, σ 17, σ 18, σ 19, σ 20) (σ 1 9) (σ 1 10) L (τ 15) ∧ GoIs (τ 15) (τ 14) (σ 1 9)) ∨ (z = 0 ∧ 1000000000 ≤ L 0 0)) ∧ (∀ j, j ≠ 11 → τ 1 j = σ 1 j) ∧ (∀ k, k ≠ 1 → k ≠ 14 → k ≠ 15 → (k < 22 ∨ 47 < k) → τ k = σ k)) 0 [some (.inr 1), none, none] [] σ := by
  refine Wp.rg (fun hR => ?_)
  have hns := hc.1
  have hn := hc.2.1
  refine w_iconst dX1_findCuts_0 ?_
  refine w_istore_n dX1_findCuts_1 (Nat.le_of_ble_eq_true rfl) ?_
  refine up_to (σ 1 10) (fun i => 0 ≤ i → ∀ (τ : St), ((∀ b, 0 ≤ b → b < i → τ (22 + (σ 1 9).toNat) b = 1000000000) ∧ (∀ k, (k < 22 ∨ 47 < k) → τ k = σ k)) → Wp mX1_findCuts 2 (fun z τ => ∃ L, TblL (σ 16, σ 17, σ 18, σ 19, σ 20) (σ 1 9) (σ 1 10) L ∧ L 0 0 = τ 1 11 ∧ ((z = 1 ∧ L 0 0 < 1000000000 ∧ IsCut (σ 16, σ 17, σ 18, σ 19, σ 20) (σ 1 9) (σ 1 10) L (τ 15) ∧ GoIs (τ 15) (τ 14) (σ 1 9)) ∨ (z = 0 ∧ 1000000000 ≤ L 0 0)) ∧ (∀ j, j ≠ 11 → τ 1 j = σ 1 j) ∧ (∀ k, k ≠ 1 → k ≠ 14 → k ≠ 15 → (k < 22 ∨ 47 < k) → τ k = σ k)) 2 [some (.inr 1), some (.inl i), none] [] τ) (fun i hi ih h0 τ hinv => ?_) (0) (by omega) (by omega) σ ⟨fun b b0 b1 => by omega, fun k _ => rfl⟩
  obtain ⟨p1, p2⟩ := hinv
  have e1 : τ 1 = σ 1 := p2 1 (by omega)
  refine w_iload_n dX1_findCuts_2 rfl ?_
  refine w_aload_n dX1_findCuts_3 rfl ?_
  refine gf_X1_55 rfl dX1_findCuts_4 ?_
  refine w_icmp_ge (tgt := 29) dX1_findCuts_7 (by decide) (by omega) (by rw [e1]; omega) (fun c_7 => ?_) (fun c_7 => ?_)
  · rw [e1] at c_7
    refine w_aload_n dX1_findCuts_29 rfl ?_
    refine gf_X1_35 rfl dX1_findCuts_30 ?_
    refine w_aload_n dX1_findCuts_33 rfl ?_
    refine gf_X1_47 rfl dX1_findCuts_34 ?_
    refine w_aald rfl (by rw [e1]; omega) dX1_findCuts_37 ?_
    refine w_aload_n dX1_findCuts_38 rfl ?_
    refine gf_X1_55 rfl dX1_findCuts_39 ?_
    refine w_iconst dX1_findCuts_42 ?_
    refine w_iast (sh_least (by rw [e1]; omega) (by rw [e1]; omega)) (by rw [e1]; omega) (by omega) dX1_findCuts_43 ?_
    refine w_aload_n dX1_findCuts_44 rfl ?_
    refine gf_X1_47 rfl dX1_findCuts_45 ?_
    refine w_iconst dX1_findCuts_48 ?_
    refine w_isub dX1_findCuts_49 ?_
    refine w_istore_n dX1_findCuts_50 (Nat.le_of_ble_eq_true rfl) ?_
    rw [e1, put_ne (show (1 : Nat) ≠ 22 + (σ 1 9).toNat by omega), e1]
    refine down_to (-1) (fun i => i < σ 1 9 → ∀ (τ : St) (x2 : Option PV), (BaseR τ (σ 1 9) (σ 1 10) ∧ (∀ s, i < s → s < σ 1 9 → ∀ f, 0 ≤ f → f ≤ σ 1 10 → GoodE (σ 16, σ 17, σ 18, σ 19, σ 20) (σ 1 10) τ s f) ∧ (∀ k, (k < 22 ∨ 47 < k) → τ k = σ k)) → Wp mX1_findCuts 2 (fun z τ => ∃ L, TblL (σ 16, σ 17, σ 18, σ 19, σ 20) (σ 1 9) (σ 1 10) L ∧ L 0 0 = τ 1 11 ∧ ((z = 1 ∧ L 0 0 < 1000000000 ∧ IsCut (σ 16, σ 17, σ 18, σ 19, σ 20) (σ 1 9) (σ 1 10) L (τ 15) ∧ GoIs (τ 15) (τ 14) (σ 1 9)) ∨ (z = 0 ∧ 1000000000 ≤ L 0 0)) ∧ (∀ j, j ≠ 11 → τ 1 j = σ 1 j) ∧ (∀ k, k ≠ 1 → k ≠ 14 → k ≠ 15 → (k < 22 ∨ 47 < k) → τ k = σ k)) 51 [some (.inr 1), some (.inl i), x2] [] τ) (fun i hi ih h0 τ x2 hinv => ?_) (σ 1 9 - 1) (by omega) (by omega) _ _ ⟨?_, fun s s0 s1 => by omega, ?_⟩
    rotate_left 1
    · intro b b0 b1
      rw [put_eq, if_pos rfl]
      by_cases q : b = σ 1 10
      · rw [if_pos q, if_pos q]
      · rw [if_neg q, if_neg q]; exact p1 b b0 (by omega)
    · intro k hk
      rw [put_ne (by omega)]; exact p2 k hk
    obtain ⟨q1, q2, q3⟩ := hinv
    have e1 : τ 1 = σ 1 := q3 1 (by omega)
    refine Wp.rg (fun hR2 => ?_)
    refine w_iload_n dX1_findCuts_51 rfl ?_
    refine w_if_lt (tgt := 83) dX1_findCuts_52 (by decide) (by omega) (fun c_52 => ?_) (fun c_52 => ?_)
    · have hT : TblL (σ 16, σ 17, σ 18, σ 19, σ 20) (σ 1 9) (σ 1 10) (fun s b => τ (22 + s.toNat) b) := ⟨q1, fun s s0 s1 f f0 f1 => (q2 s (by omega) s1 f f0 f1).1⟩
      refine w_aload_n dX1_findCuts_83 rfl ?_
      refine w_aload_n dX1_findCuts_84 rfl ?_
      refine gf_X1_35 rfl dX1_findCuts_85 ?_
      refine w_iconst dX1_findCuts_88 ?_
      refine w_aald rfl (by omega) dX1_findCuts_89 ?_
      refine w_iconst dX1_findCuts_90 ?_
      refine w_iald (sh_least (by omega) (by omega)) (by omega) dX1_findCuts_91 ?_
      refine pf_X1_78 rfl (hR2 _ _) dX1_findCuts_92 ?_
      refine w_aload_n dX1_findCuts_95 rfl ?_
      refine gf_X1_78 rfl dX1_findCuts_96 ?_
      refine w_ldc (n := 1000000000) dX1_findCuts_99 tw_368 ?_
      refine w_icmp_lt (tgt := 106) dX1_findCuts_101 (by decide) (by simp only [put_eq]; simp; exact hR2 _ _) (by omega) (fun c_101 => ?_) (fun c_101 => ?_)
      · have hfm : ∀ s, 0 ≤ s → s < put τ 1 11 (τ 22 0) 1 9 → ∀ f, 0 ≤ f → f ≤ put τ 1 11 (τ 22 0) 1 10 → 0 ≤ put τ 1 11 (τ 22 0) (36 + s.toNat) f ∧ f + put τ 1 11 (τ 22 0) (36 + s.toNat) f ≤ put τ 1 11 (τ 22 0) 1 10 := by
          simp only [put_eq]
          simp
          rw [e1]
          intro s s0 s1 f f0 f1
          rw [if_neg (by omega)]
          have := (q2 s (by omega) s1 f f0 f1).2.1.1
          exact ⟨this.1, this.2.1⟩
        refine w_aload_n dX1_findCuts_106 rfl ?_
        refine cv_X1_81 rfl dX1_findCuts_107 (Nat.le_of_ble_eq_true rfl) (Nat.le_of_ble_eq_true rfl) (Wp.mono (ct_X1_follow _ (by simp only [put_eq]; simp; rw [e1]; omega) (by simp only [put_eq]; simp; rw [e1]; omega) hfm) (fun z_ τ_ hq_ => ?_))
        obtain ⟨g1, g2, g3⟩ := hq_
        rw [show (22 + Int.toNat 0) = 22 from rfl] at g1 g2 g3
        refine w_iconst dX1_findCuts_110 ?_
        refine w_zret dX1_findCuts_111 rfl (by omega) ?_
        have e9 : put τ 1 11 (τ 22 0) 1 9 = σ 1 9 := by simp [put_eq, e1]
        rw [e9] at g1 g2
        have g11 : τ_ 1 = put τ 1 11 (τ 22 0) 1 := g3 1 (by decide) (by decide)
        refine ⟨fun s b => τ (22 + s.toNat) b, hT, by rw [g11]; simp [put_eq], Or.inl ⟨rfl, ?_, ?_, fun s b s0 s1 b0 b1 => g2 s b s0 s1 b0 b1⟩, fun j hj => by rw [g11]; simp [put_eq, hj, e1], fun k k1 k2 k3 hk => by rw [g3 k k2 k3, put_ne k1]; exact q3 k hk⟩
        · simp [put_eq] at c_101; exact c_101
        · have key : ∀ j : Nat, (j : Int) ≤ σ 1 9 → 0 ≤ sumF (τ_ 15) 0 j ∧ sumF (τ_ 15) 0 j ≤ σ 1 10 := by
            intro j
            induction j with
            | zero => intro _; rw [show ((0 : Nat) : Int) = 0 from rfl, sumF_0]; have := hc.2.1; omega
            | succ j ihj =>
              intro hj
              have ihj := ihj (by omega)
              rw [show ((j + 1 : Nat) : Int) = (j : Int) + 1 by omega, pos_s _ (by omega), g1 j (by omega) (by omega), put_ne (by omega)]
              have := (q2 j (by omega) (by omega) _ ihj.1 ihj.2).2.1.1
              have a1 := this.1
              have a2 := this.2.1
              omega
          intro s s0 s1
          have kp := key s.toNat (by omega)
          rw [show ((s.toNat : Nat) : Int) = s by omega] at kp
          have a1 := (q2 s (by omega) s1 _ kp.1 kp.2).2.1
          have a2 := g1 s s0 s1
          rw [put_ne (by omega)] at a2
          rw [a2]
          exact a1
      · refine w_iconst dX1_findCuts_104 ?_
        refine w_zret dX1_findCuts_105 rfl (by omega) ?_
        refine ⟨fun s b => τ (22 + s.toNat) b, hT, by simp [put_eq], Or.inr ⟨rfl, ?_⟩, fun j hj => by simp [put_eq, hj, e1], fun k k1 k2 k3 hk => by rw [put_ne k1]; exact q3 k hk⟩
        simp [put_eq] at c_101
        exact c_101
    · refine w_iconst dX1_findCuts_55 ?_
      refine w_istore_n dX1_findCuts_56 (Nat.le_of_ble_eq_true rfl) ?_
      clear e1
      refine up_to (σ 1 10 + 1) (fun j => 0 ≤ j → ∀ (τ : St), (BaseR τ (σ 1 9) (σ 1 10) ∧ (∀ s, i < s → s < σ 1 9 → ∀ f, 0 ≤ f → f ≤ σ 1 10 → GoodE (σ 16, σ 17, σ 18, σ 19, σ 20) (σ 1 10) τ s f) ∧ (∀ f, 0 ≤ f → f < j → GoodE (σ 16, σ 17, σ 18, σ 19, σ 20) (σ 1 10) τ i f) ∧ (∀ k, (k < 22 ∨ 47 < k) → τ k = σ k)) → Wp mX1_findCuts 2 (fun z τ => ∃ L, TblL (σ 16, σ 17, σ 18, σ 19, σ 20) (σ 1 9) (σ 1 10) L ∧ L 0 0 = τ 1 11 ∧ ((z = 1 ∧ L 0 0 < 1000000000 ∧ IsCut (σ 16, σ 17, σ 18, σ 19, σ 20) (σ 1 9) (σ 1 10) L (τ 15) ∧ GoIs (τ 15) (τ 14) (σ 1 9)) ∨ (z = 0 ∧ 1000000000 ≤ L 0 0)) ∧ (∀ j, j ≠ 11 → τ 1 j = σ 1 j) ∧ (∀ k, k ≠ 1 → k ≠ 14 → k ≠ 15 → (k < 22 ∨ 47 < k) → τ k = σ k)) 57 [some (.inr 1), some (.inl i), some (.inl j)] [] τ) (fun j hi2 ih2 h02 τ hinv2 => ?_) (0) (by omega) (by omega) _ ⟨q1, q2, fun f f0 f1 => by omega, q3⟩
      obtain ⟨r1, r2, r3, r4⟩ := hinv2
      have e1 : τ 1 = σ 1 := r4 1 (by omega)
      have e16 : τ 16 = σ 16 := r4 16 (by omega)
      have e17 : τ 17 = σ 17 := r4 17 (by omega)
      have e18 : τ 18 = σ 18 := r4 18 (by omega)
      have e19 : τ 19 = σ 19 := r4 19 (by omega)
      have e20 : τ 20 = σ 20 := r4 20 (by omega)
      refine w_iload_n dX1_findCuts_57 rfl ?_
      refine w_aload_n dX1_findCuts_58 rfl ?_
      refine gf_X1_55 rfl dX1_findCuts_59 ?_
      refine w_icmp_gt (tgt := 77) dX1_findCuts_62 (by decide) (by omega) (by rw [e1]; omega) (fun c_62 => ?_) (fun c_62 => ?_)
      · refine w_iinc dX1_findCuts_77 (Nat.le_of_ble_eq_true rfl) rfl ?_
        refine w_goto (tgt := 51) dX1_findCuts_80 (by decide) ?_
        refine ih (by omega) (by omega) _ _ ⟨r1, ?_, r4⟩
        intro s s0 s1 f f0 f1
        rw [e1] at c_62
        by_cases q : s = i
        · subst q; exact r3 f f0 (by omega)
        · exact r2 s (by omega) s1 f f0 f1
      · have hrow : ∀ b, j ≤ b → b ≤ τ 1 10 → 0 ≤ τ (22 + (i + 1).toNat) b ∧ τ (22 + (i + 1).toNat) b ≤ 1000000000 := by
          rw [e1]
          intro b b0 b1
          by_cases q : i + 1 = σ 1 9
          · rw [q, r1 b (by omega) b1]
            split <;> omega
          · have := r2 (i + 1) (by omega) (by omega) b (by omega) b1
            exact this.2.2
        refine w_aload_n dX1_findCuts_65 rfl ?_
        refine w_iload_n dX1_findCuts_66 rfl ?_
        refine w_iload_n dX1_findCuts_67 rfl ?_
        refine cv_X1_74 rfl dX1_findCuts_68 (Nat.le_of_ble_eq_true rfl) (Nat.le_of_ble_eq_true rfl) (Wp.mono (ct_X1_chooseMost τ i j (by rw [e16, e17, e18, e19, e20, e1]; exact hc) (by rw [e1]; omega) (by rw [e1] at c_62 ⊢; omega) hrow) (fun z_ τ_ hq_ => ?_))
        obtain ⟨v, m, g1, g2, g3, g4, hs_⟩ := hq_
        rw [e16, e17, e18, e19, e20, e1] at g1 g2
        subst τ_
        rw [e1] at c_62
        refine w_iinc dX1_findCuts_71 (Nat.le_of_ble_eq_true rfl) rfl ?_
        refine w_goto (tgt := 57) dX1_findCuts_74 (by decide) ?_
        refine ih2 (by omega) (by omega) _ ⟨?_, ?_, ?_, ?_⟩
        · intro b b0 b1
          rw [put_ne (by omega), put_ne (by omega)]
          exact r1 b b0 b1
        · intro s s0 s1 f f0 f1
          refine (r2 s s0 s1 f f0 f1).keep ?_ ?_ ?_
          · rw [put_ne (by omega), put_ne (by omega)]
          · rw [put_ne (by omega), put_ne (by omega)]
          · rw [put_ne (by omega), put_ne (by omega)]
        · intro f f0 f1
          by_cases q : f = j
          · subst q
            unfold GoodE
            have a1 : put (put τ (22 + i.toNat) f v) (36 + i.toNat) f m (22 + i.toNat) f = v := by
              rw [put_ne (by omega)]; simp [put_eq]
            have a2 : put (put τ (22 + i.toNat) f v) (36 + i.toNat) f m (36 + i.toNat) f = m := by simp [put_eq]
            have a3 : put (put τ (22 + i.toNat) f v) (36 + i.toNat) f m (22 + (i + 1).toNat) = τ (22 + (i + 1).toNat) := by rw [put_ne (by omega), put_ne (by omega)]
            rw [a1, a2, a3]
            exact ⟨g1, g2, g3, g4⟩
          · refine (r3 f f0 (by omega)).keep ?_ ?_ ?_
            · rw [put_ne (by omega), put_ne (by omega)]
            · rw [put_ne (by omega), put_eq, if_pos rfl, if_neg q]
            · rw [put_eq, if_pos rfl, if_neg q, put_ne (by omega)]
        · intro k hk
          rw [put_ne (by omega), put_ne (by omega)]
          exact r4 k hk
  · refine w_aload_n dX1_findCuts_10 rfl ?_
    refine gf_X1_35 rfl dX1_findCuts_11 ?_
    refine w_aload_n dX1_findCuts_14 rfl ?_
    refine gf_X1_47 rfl dX1_findCuts_15 ?_
    refine w_aald rfl (by rw [e1]; omega) dX1_findCuts_18 ?_
    refine w_iload_n dX1_findCuts_19 rfl ?_
    refine w_ldc (n := 1000000000) dX1_findCuts_20 tw_368 ?_
    refine w_iast (sh_least (by rw [e1]; omega) (by rw [e1]; omega)) (by omega) (by omega) dX1_findCuts_22 ?_
    refine w_iinc dX1_findCuts_23 (Nat.le_of_ble_eq_true rfl) rfl ?_
    refine w_goto (tgt := 2) dX1_findCuts_26 (by decide) ?_
    rw [e1]
    rw [e1] at c_7
    refine ih (by omega) (by omega) _ ⟨fun b b0 b1 => ?_, fun k hk => by rw [put_ne (by omega)]; exact p2 k hk⟩
    rw [put_eq, if_pos rfl]
    by_cases q : b = i
    · rw [if_pos q]
    · rw [if_neg q]; exact p1 b b0 (by omega)

def IsFill (len kind span : Int → Int) (kd ns n : Int) (q : Int → Int) : Prop := q 0 = 0 ∧ ∀ s, 0 ≤ s → s < ns → (kind s ≤ kd → IsDay span (q s) n (len s) (q (s + 1) - q s)) ∧ (kd < kind s → q (s + 1) = q s)
theorem IsFill.bd {len kind span q : Int → Int} {kd ns n : Int} (hn : 0 ≤ n) (h : IsFill len kind span kd ns n q) : ∀ s, 0 ≤ s → s ≤ ns → 0 ≤ q s ∧ q s ≤ n := by
  intro s s0 s1
  have key : ∀ k : Nat, (k : Int) ≤ ns → 0 ≤ q k ∧ q k ≤ n := by
    intro k
    induction k with
    | zero => intro _; rw [show ((0 : Nat) : Int) = 0 from rfl, h.1]; omega
    | succ k ih =>
      intro hk
      have ih := ih (by omega)
      have a := h.2 k (by omega) (by omega)
      rw [show ((k + 1 : Nat) : Int) = (k : Int) + 1 by omega]
      by_cases e : kind k ≤ kd
      · have b := a.1 e
        have b1 := b.1
        have b2 := b.2.1
        omega
      · have := a.2 (by omega)
        omega
  have := key s.toNat (by omega)
  rwa [show ((s.toNat : Nat) : Int) = s by omega] at this
theorem IsFill.mono {len kind span q : Int → Int} {kd ns n : Int} (h : IsFill len kind span kd ns n q) {s : Int} (s0 : 0 ≤ s) (s1 : s < ns) : q s ≤ q (s + 1) := by
  have a := h.2 s s0 s1
  by_cases e : kind s ≤ kd
  · have := (a.1 e).1; omega
  · have := a.2 (by omega); omega
theorem IsFill.monoL {len kind span q : Int → Int} {kd ns n : Int} (h : IsFill len kind span kd ns n q) {s t : Int} (s0 : 0 ≤ s) (st : s ≤ t) (t1 : t ≤ ns) : q s ≤ q t := by
  have key : ∀ k : Nat, s + k ≤ ns → q s ≤ q (s + k) := by
    intro k
    induction k with
    | zero => intro _; rw [show s + ((0 : Nat) : Int) = s by omega]; exact Int.le_refl _
    | succ k ih =>
      intro hk
      have a := ih (by omega)
      have b := h.mono (s := s + k) (by omega) (by omega)
      rw [show s + ((k + 1 : Nat) : Int) = s + k + 1 by omega]
      omega
  have := key (t - s).toNat (by omega)
  rwa [show s + (((t - s).toNat : Nat) : Int) = t by omega] at this
theorem IsFill.uniq {len kind span q q2 len2 kind2 span2 : Int → Int} {kd ns n : Int} (hn : 0 ≤ n) (hs : ∀ s, 0 ≤ s → s < ns → len s = len2 s ∧ kind s = kind2 s) (hb : ∀ b, 0 ≤ b → b < n → span b = span2 b ∧ 0 ≤ span b) (h : IsFill len kind span kd ns n q) (k : IsFill len2 kind2 span2 kd ns n q2) : ∀ s, 0 ≤ s → s ≤ ns → q s = q2 s := by
  intro s s0 s1
  have key : ∀ j : Nat, (j : Int) ≤ ns → q j = q2 j := by
    intro j
    induction j with
    | zero => intro _; rw [show ((0 : Nat) : Int) = 0 from rfl, h.1, k.1]
    | succ j ih =>
      intro hj
      have ih := ih (by omega)
      have p := h.bd hn j (by omega) (by omega)
      have a := h.2 j (by omega) (by omega)
      have b := k.2 j (by omega) (by omega)
      have e := hs j (by omega) (by omega)
      rw [← e.1, ← e.2, ← ih] at b
      rw [show ((j + 1 : Nat) : Int) = (j : Int) + 1 by omega]
      by_cases c : kind j ≤ kd
      · have a1 := a.1 c
        have b1 := (b.1 c).congr (u := span) (fun x x1 x2 => (hb x (by omega) x2).1.symm)
        have := IsDay.uniq (fun x x1 x2 => (hb x (by omega) x2).2) a1 b1
        omega
      · have a1 := a.2 (by omega)
        have b1 := b.2 (by omega)
        omega
  have := key s.toNat (by omega)
  rwa [show ((s.toNat : Nat) : Int) = s by omega] at this

set_option maxRecDepth 100000 in
set_option maxHeartbeats 4000000 in
theorem ct_X1_shelvesFilled (σ : St) (kd : Int) (hk : InR kd) (hns : 0 ≤ σ 1 9 ∧ σ 1 9 ≤ 12) (hn : 0 ≤ σ 1 10 ∧ σ 1 10 ≤ 60) (hl : ∀ s, 0 ≤ s → s < σ 1 9 → 0 ≤ σ 16 s ∧ σ 16 s ≤ 200) (hsp : ∀ b, 0 ≤ b → b < σ 1 10 → 0 ≤ σ 19 b) : Wp mX1_shelvesFilled 1 (fun z τ => (∃ q, IsFill (σ 16) (σ 17) (σ 19) kd (σ 1 9) (σ 1 10) q ∧ ((q (σ 1 9) = σ 1 10 ∧ 0 ≤ z ∧ z ≤ σ 1 9 ∧ q z = σ 1 10 ∧ ∀ s, 0 ≤ s → s < z → q s < σ 1 10) ∨ (q (σ 1 9) < σ 1 10 ∧ z = -1))) ∧ τ = σ) 0 [some (.inr 1), some (.inl kd), none, none] [] σ := by
  refine Wp.rg (fun hR => ?_)
  refine w_iconst dX1_shelvesFilled_0 ?_
  refine w_istore_n dX1_shelvesFilled_1 (Nat.le_of_ble_eq_true rfl) ?_
  refine w_iconst dX1_shelvesFilled_2 ?_
  refine w_istore_n dX1_shelvesFilled_3 (Nat.le_of_ble_eq_true rfl) ?_
  refine up_to (σ 1 9) (fun i => 0 ≤ i → ∀ a, (∃ q, IsFill (σ 16) (σ 17) (σ 19) kd i (σ 1 10) q ∧ q i = a ∧ ∀ s, 0 ≤ s → s < i → q s < σ 1 10) → Wp mX1_shelvesFilled 1 (fun z τ => (∃ q, IsFill (σ 16) (σ 17) (σ 19) kd (σ 1 9) (σ 1 10) q ∧ ((q (σ 1 9) = σ 1 10 ∧ 0 ≤ z ∧ z ≤ σ 1 9 ∧ q z = σ 1 10 ∧ ∀ s, 0 ≤ s → s < z → q s < σ 1 10) ∨ (q (σ 1 9) < σ 1 10 ∧ z = -1))) ∧ τ = σ) 4 [some (.inr 1), some (.inl kd), some (.inl a), some (.inl i)] [] σ) (fun i hi ih h0 a hinv => ?_) (0) (by omega) (by omega) 0 ⟨fun _ => 0, ⟨rfl, fun s s0 s1 => by omega⟩, rfl, fun s s0 s1 => by omega⟩
  obtain ⟨q, f1, f2, f3⟩ := hinv
  have fb := f1.bd hn.1 i h0 (Int.le_refl i)
  refine w_iload_n dX1_shelvesFilled_4 rfl ?_
  refine w_aload_n dX1_shelvesFilled_5 rfl ?_
  refine gf_X1_47 rfl dX1_shelvesFilled_6 ?_
  refine w_icmp_ge (tgt := 43) dX1_shelvesFilled_9 (by decide) (by omega) (by omega) (fun c_9 => ?_) (fun c_9 => ?_)
  · refine w_iload_n dX1_shelvesFilled_43 rfl ?_
    refine w_aload_n dX1_shelvesFilled_44 rfl ?_
    refine gf_X1_55 rfl dX1_shelvesFilled_45 ?_
    refine w_icmp_ne (tgt := 55) dX1_shelvesFilled_48 (by decide) (by omega) (by omega) (fun c_48 => ?_) (fun c_48 => ?_)
    · refine w_iconst dX1_shelvesFilled_55 ?_
      refine w_iret dX1_shelvesFilled_56 rfl ?_
      first
      | exact absurd c_48 (by omega)
      | (refine ⟨⟨fun s => if s ≤ i then q s else σ 1 10, ⟨by dsimp only; rw [if_pos (by omega)]; exact f1.1, fun s s0 s1 => ?_⟩, ?_⟩, rfl⟩
         · dsimp only
           by_cases e : s < i
           · rw [if_pos (by omega), if_pos (by omega)]; exact f1.2 s s0 e
           · have eq2 : (if s ≤ i then q s else σ 1 10) = σ 1 10 := by
               by_cases e2 : s ≤ i
               · rw [if_pos e2, show s = i by omega]; omega
               · rw [if_neg e2]
             rw [eq2, if_neg (by omega)]
             have hls := hl s s0 s1
             exact ⟨fun _ => ⟨by omega, by omega, by rw [Int.sub_self, sumF_0]; omega, Or.inl (by omega)⟩, fun _ => rfl⟩
         · dsimp only
           refine Or.inl ⟨?_, by omega, by omega, by rw [if_pos (by omega)]; omega, fun s s0 s1 => by rw [if_pos (by omega)]; exact f3 s s0 s1⟩
           by_cases e : σ 1 9 ≤ i
           · rw [if_pos e, show σ 1 9 = i by omega]; omega
           · rw [if_neg e])
      | (exact ⟨⟨q, by rw [show σ 1 9 = i by omega]; exact f1, Or.inr ⟨by rw [show σ 1 9 = i by omega]; omega, rfl⟩⟩, rfl⟩)
    · refine w_iload_n dX1_shelvesFilled_51 rfl ?_
      refine w_goto (tgt := 56) dX1_shelvesFilled_52 (by decide) ?_
      refine w_iret dX1_shelvesFilled_56 rfl ?_
      first
      | exact absurd c_48 (by omega)
      | (refine ⟨⟨fun s => if s ≤ i then q s else σ 1 10, ⟨by dsimp only; rw [if_pos (by omega)]; exact f1.1, fun s s0 s1 => ?_⟩, ?_⟩, rfl⟩
         · dsimp only
           by_cases e : s < i
           · rw [if_pos (by omega), if_pos (by omega)]; exact f1.2 s s0 e
           · have eq2 : (if s ≤ i then q s else σ 1 10) = σ 1 10 := by
               by_cases e2 : s ≤ i
               · rw [if_pos e2, show s = i by omega]; omega
               · rw [if_neg e2]
             rw [eq2, if_neg (by omega)]
             have hls := hl s s0 s1
             exact ⟨fun _ => ⟨by omega, by omega, by rw [Int.sub_self, sumF_0]; omega, Or.inl (by omega)⟩, fun _ => rfl⟩
         · dsimp only
           refine Or.inl ⟨?_, by omega, by omega, by rw [if_pos (by omega)]; omega, fun s s0 s1 => by rw [if_pos (by omega)]; exact f3 s s0 s1⟩
           by_cases e : σ 1 9 ≤ i
           · rw [if_pos e, show σ 1 9 = i by omega]; omega
           · rw [if_neg e])
      | (exact ⟨⟨q, by rw [show σ 1 9 = i by omega]; exact f1, Or.inr ⟨by rw [show σ 1 9 = i by omega]; omega, rfl⟩⟩, rfl⟩)
  · refine w_iload_n dX1_shelvesFilled_12 rfl ?_
    refine w_aload_n dX1_shelvesFilled_13 rfl ?_
    refine gf_X1_55 rfl dX1_shelvesFilled_14 ?_
    refine w_icmp_ge (tgt := 43) dX1_shelvesFilled_17 (by decide) (by omega) (by omega) (fun c_17 => ?_) (fun c_17 => ?_)
    · refine w_iload_n dX1_shelvesFilled_43 rfl ?_
      refine w_aload_n dX1_shelvesFilled_44 rfl ?_
      refine gf_X1_55 rfl dX1_shelvesFilled_45 ?_
      refine w_icmp_ne (tgt := 55) dX1_shelvesFilled_48 (by decide) (by omega) (by omega) (fun c_48 => ?_) (fun c_48 => ?_)
      · refine w_iconst dX1_shelvesFilled_55 ?_
        refine w_iret dX1_shelvesFilled_56 rfl ?_
        first
        | exact absurd c_48 (by omega)
        | (refine ⟨⟨fun s => if s ≤ i then q s else σ 1 10, ⟨by dsimp only; rw [if_pos (by omega)]; exact f1.1, fun s s0 s1 => ?_⟩, ?_⟩, rfl⟩
           · dsimp only
             by_cases e : s < i
             · rw [if_pos (by omega), if_pos (by omega)]; exact f1.2 s s0 e
             · have eq2 : (if s ≤ i then q s else σ 1 10) = σ 1 10 := by
                 by_cases e2 : s ≤ i
                 · rw [if_pos e2, show s = i by omega]; omega
                 · rw [if_neg e2]
               rw [eq2, if_neg (by omega)]
               have hls := hl s s0 s1
               exact ⟨fun _ => ⟨by omega, by omega, by rw [Int.sub_self, sumF_0]; omega, Or.inl (by omega)⟩, fun _ => rfl⟩
           · dsimp only
             refine Or.inl ⟨?_, by omega, by omega, by rw [if_pos (by omega)]; omega, fun s s0 s1 => by rw [if_pos (by omega)]; exact f3 s s0 s1⟩
             by_cases e : σ 1 9 ≤ i
             · rw [if_pos e, show σ 1 9 = i by omega]; omega
             · rw [if_neg e])
        | (exact ⟨⟨q, by rw [show σ 1 9 = i by omega]; exact f1, Or.inr ⟨by rw [show σ 1 9 = i by omega]; omega, rfl⟩⟩, rfl⟩)
      · refine w_iload_n dX1_shelvesFilled_51 rfl ?_
        refine w_goto (tgt := 56) dX1_shelvesFilled_52 (by decide) ?_
        refine w_iret dX1_shelvesFilled_56 rfl ?_
        first
        | exact absurd c_48 (by omega)
        | (refine ⟨⟨fun s => if s ≤ i then q s else σ 1 10, ⟨by dsimp only; rw [if_pos (by omega)]; exact f1.1, fun s s0 s1 => ?_⟩, ?_⟩, rfl⟩
           · dsimp only
             by_cases e : s < i
             · rw [if_pos (by omega), if_pos (by omega)]; exact f1.2 s s0 e
             · have eq2 : (if s ≤ i then q s else σ 1 10) = σ 1 10 := by
                 by_cases e2 : s ≤ i
                 · rw [if_pos e2, show s = i by omega]; omega
                 · rw [if_neg e2]
               rw [eq2, if_neg (by omega)]
               have hls := hl s s0 s1
               exact ⟨fun _ => ⟨by omega, by omega, by rw [Int.sub_self, sumF_0]; omega, Or.inl (by omega)⟩, fun _ => rfl⟩
           · dsimp only
             refine Or.inl ⟨?_, by omega, by omega, by rw [if_pos (by omega)]; omega, fun s s0 s1 => by rw [if_pos (by omega)]; exact f3 s s0 s1⟩
             by_cases e : σ 1 9 ≤ i
             · rw [if_pos e, show σ 1 9 = i by omega]; omega
             · rw [if_neg e])
        | (exact ⟨⟨q, by rw [show σ 1 9 = i by omega]; exact f1, Or.inr ⟨by rw [show σ 1 9 = i by omega]; omega, rfl⟩⟩, rfl⟩)
    · refine w_aload_n dX1_shelvesFilled_20 rfl ?_
      refine gf_X1_21 rfl dX1_shelvesFilled_21 ?_
      refine w_iload_n dX1_shelvesFilled_24 rfl ?_
      refine w_iald rfl (by omega) dX1_shelvesFilled_25 ?_
      refine w_iload_n dX1_shelvesFilled_26 rfl ?_
      refine w_icmp_gt (tgt := 37) dX1_shelvesFilled_27 (by decide) (hR _ _) hk (fun c_27 => ?_) (fun c_27 => ?_)
      · refine w_iinc dX1_shelvesFilled_37 (Nat.le_of_ble_eq_true rfl) rfl ?_
        refine w_goto (tgt := 4) dX1_shelvesFilled_40 (by decide) ?_
        first
        | (refine ih (by omega) (by omega) _ ⟨upF q (i + 1) z_, ⟨by unfold upF; rw [if_neg (by omega)]; exact f1.1, fun s s0 s1 => ?_⟩, by unfold upF; rw [if_pos rfl], fun s s0 s1 => ?_⟩
           · unfold upF
             by_cases e : s = i
             · subst e
               rw [if_neg (by omega), if_pos rfl, f2]
               exact ⟨fun _ => hz_, fun q2 => by omega⟩
             · rw [if_neg (by omega), if_neg (by omega)]
               exact f1.2 s s0 (by omega)
           · unfold upF
             rw [if_neg (by omega)]
             by_cases e : s = i
             · subst e; omega
             · exact f3 s s0 (by omega))
        | (refine ih (by omega) (by omega) _ ⟨upF q (i + 1) a, ⟨by unfold upF; rw [if_neg (by omega)]; exact f1.1, fun s s0 s1 => ?_⟩, by unfold upF; rw [if_pos rfl], fun s s0 s1 => ?_⟩
           · unfold upF
             by_cases e : s = i
             · subst e
               rw [if_neg (by omega), if_pos rfl, f2]
               exact ⟨fun q2 => by omega, fun _ => rfl⟩
             · rw [if_neg (by omega), if_neg (by omega)]
               exact f1.2 s s0 (by omega)
           · unfold upF
             rw [if_neg (by omega)]
             by_cases e : s = i
             · subst e; omega
             · exact f3 s s0 (by omega))
      · refine w_aload_n dX1_shelvesFilled_30 rfl ?_
        refine w_iload_n dX1_shelvesFilled_31 rfl ?_
        refine w_iload_n dX1_shelvesFilled_32 rfl ?_
        refine cv_X1_69 rfl dX1_shelvesFilled_33 (Nat.le_of_ble_eq_true rfl) (Nat.le_of_ble_eq_true rfl) (Wp.mono (ct_X1_fill σ a i (by omega) (by omega) (hl i h0 (by omega)) hsp) (fun z_ τ_ hq_ => ?_))
        obtain ⟨hz_, hs_⟩ := hq_
        subst τ_
        refine w_istore_n dX1_shelvesFilled_36 (Nat.le_of_ble_eq_true rfl) ?_
        refine w_iinc dX1_shelvesFilled_37 (Nat.le_of_ble_eq_true rfl) rfl ?_
        refine w_goto (tgt := 4) dX1_shelvesFilled_40 (by decide) ?_
        first
        | (refine ih (by omega) (by omega) _ ⟨upF q (i + 1) z_, ⟨by unfold upF; rw [if_neg (by omega)]; exact f1.1, fun s s0 s1 => ?_⟩, by unfold upF; rw [if_pos rfl], fun s s0 s1 => ?_⟩
           · unfold upF
             by_cases e : s = i
             · subst e
               rw [if_neg (by omega), if_pos rfl, f2]
               exact ⟨fun _ => hz_, fun q2 => by omega⟩
             · rw [if_neg (by omega), if_neg (by omega)]
               exact f1.2 s s0 (by omega)
           · unfold upF
             rw [if_neg (by omega)]
             by_cases e : s = i
             · subst e; omega
             · exact f3 s s0 (by omega))
        | (refine ih (by omega) (by omega) _ ⟨upF q (i + 1) a, ⟨by unfold upF; rw [if_neg (by omega)]; exact f1.1, fun s s0 s1 => ?_⟩, by unfold upF; rw [if_pos rfl], fun s s0 s1 => ?_⟩
           · unfold upF
             by_cases e : s = i
             · subst e
               rw [if_neg (by omega), if_pos rfl, f2]
               exact ⟨fun q2 => by omega, fun _ => rfl⟩
             · rw [if_neg (by omega), if_neg (by omega)]
               exact f1.2 s s0 (by omega)
           · unfold upF
             rw [if_neg (by omega)]
             by_cases e : s = i
             · subst e; omega
             · exact f3 s s0 (by omega))

set_option maxRecDepth 100000 in
set_option maxHeartbeats 4000000 in
theorem ct_X1_partOfPrice (σ : St) (w : Int) (hw : 0 ≤ w ∧ w ≤ 2) (hp : 0 ≤ σ 1 11 ∧ σ 1 11 ≤ 1000000000) : Wp mX1_partOfPrice 0 (fun z τ => z = (if w = 0 then σ 1 11 / 1000000 else if w = 1 then σ 1 11 % 1000000 / 100 else σ 1 11 % 100) ∧ τ = σ) 0 [some (.inr 1), some (.inl w)] [] σ := by
  refine Wp.rg (fun hR => ?_)
  refine w_iload_n dX1_partOfPrice_0 rfl ?_
  rcases (show w = 0 ∨ w = 1 ∨ w = 2 by omega) with rfl | rfl | rfl
  · refine w_lsw (off := 27) (tgt := 28) dX1_partOfPrice_1 (by decide) (by omega) (by decide) (by decide) ?_
    refine w_aload_n dX1_partOfPrice_28 rfl ?_
    refine gf_X1_78 rfl dX1_partOfPrice_29 ?_
    refine w_ldc (n := 1000000) dX1_partOfPrice_32 tw_373 ?_
    refine w_idivN dX1_partOfPrice_34 (by omega) (by omega) (by omega) (by omega) ?_
    refine w_iret dX1_partOfPrice_35 rfl ?_
    exact ⟨by simp, rfl⟩
  · refine w_lsw (off := 35) (tgt := 36) dX1_partOfPrice_1 (by decide) (by omega) (by decide) (by decide) ?_
    refine w_aload_n dX1_partOfPrice_36 rfl ?_
    refine gf_X1_78 rfl dX1_partOfPrice_37 ?_
    refine w_ldc (n := 1000000) dX1_partOfPrice_40 tw_373 ?_
    refine w_iremN dX1_partOfPrice_42 (by omega) (by omega) (by omega) (by omega) ?_
    refine w_bipush dX1_partOfPrice_43 (by decide) ?_
    refine w_idivN dX1_partOfPrice_45 (by omega) (by omega) (by omega) (by omega) ?_
    refine w_iret dX1_partOfPrice_46 rfl ?_
    exact ⟨by simp, rfl⟩
  · refine w_lsw (off := 46) (tgt := 47) dX1_partOfPrice_1 (by decide) (by omega) (by decide) (by decide) ?_
    refine w_aload_n dX1_partOfPrice_47 rfl ?_
    refine gf_X1_78 rfl dX1_partOfPrice_48 ?_
    refine w_bipush dX1_partOfPrice_51 (by decide) ?_
    refine w_iremN dX1_partOfPrice_53 (by omega) (by omega) (by omega) (by omega) ?_
    refine w_iret dX1_partOfPrice_54 rfl ?_
    exact ⟨by simp, rfl⟩

