set_option maxRecDepth 100000 in
set_option maxHeartbeats 4000000 in
theorem ct_X1_load (σ : St) (y : Int) (hs : 0 ≤ σ 5 2 ∧ σ 5 2 ≤ 12) (hb : 0 ≤ σ 0 6 ∧ σ 0 6 ≤ 60) (hy : 0 ≤ y ∧ y ≤ 999) (hw : ∀ b, 0 ≤ b → b < σ 0 6 → 1 ≤ σ 9 b ∧ σ 9 b ≤ 40) (hnd : ∀ b, 0 ≤ b → b < σ 0 6 → 0 ≤ σ 10 b ∧ σ 10 b ≤ 1000) : Wp mX1_load 0 (fun z τ => τ 1 9 = σ 5 2 ∧ τ 1 10 = σ 0 6 ∧ τ 1 11 = σ 1 11 ∧ (∀ s, 0 ≤ s → s < σ 5 2 → τ 16 s = σ 55 s ∧ τ 17 s = σ 56 s) ∧ (∀ b, 0 ≤ b → b < σ 0 6 → τ 18 b = σ 9 b ∧ τ 19 b = σ 9 b + y * σ 10 b ∧ τ 20 b = σ 11 b) ∧ (∀ k, k ≠ 1 → k ≠ 16 → k ≠ 17 → k ≠ 18 → k ≠ 19 → k ≠ 20 → τ k = σ k)) 0 [some (.inr 1), some (.inr 5), some (.inr 0), some (.inl y), none] [] σ := by
  refine Wp.rg (fun hR => ?_)
  refine w_aload_n dX1_load_0 rfl ?_
  refine w_aload_n dX1_load_1 rfl ?_
  refine gf_X1_41 rfl dX1_load_2 ?_
  refine pf_X1_47 rfl (hR _ _) dX1_load_5 ?_
  refine w_iconst dX1_load_8 ?_
  refine w_istore dX1_load_9 (Nat.le_of_ble_eq_true rfl) ?_
  refine up_to (σ 5 2) (fun i => 0 ≤ i → ∀ (τ : St), (τ 1 9 = σ 5 2 ∧ τ 1 11 = σ 1 11 ∧ (∀ s, 0 ≤ s → s < i → τ 16 s = σ 55 s ∧ τ 17 s = σ 56 s) ∧ (∀ k, k ≠ 1 → k ≠ 16 → k ≠ 17 → k ≠ 18 → k ≠ 19 → k ≠ 20 → τ k = σ k)) → Wp mX1_load 0 (fun z τ => τ 1 9 = σ 5 2 ∧ τ 1 10 = σ 0 6 ∧ τ 1 11 = σ 1 11 ∧ (∀ s, 0 ≤ s → s < σ 5 2 → τ 16 s = σ 55 s ∧ τ 17 s = σ 56 s) ∧ (∀ b, 0 ≤ b → b < σ 0 6 → τ 18 b = σ 9 b ∧ τ 19 b = σ 9 b + y * σ 10 b ∧ τ 20 b = σ 11 b) ∧ (∀ k, k ≠ 1 → k ≠ 16 → k ≠ 17 → k ≠ 18 → k ≠ 19 → k ≠ 20 → τ k = σ k)) 11 [some (.inr 1), some (.inr 5), some (.inr 0), some (.inl y), some (.inl i)] [] τ) (fun i hi ih h0 τ hinv => ?_) (0) (by omega) (by omega) _ ⟨by simp [put_eq], by simp [put_eq], fun s h1 h2 => by omega, fun k k1 k2 k3 k4 k5 k6 => by rw [put_ne k1]⟩
  obtain ⟨p1, p2, p3, p4⟩ := hinv
  have e55 : τ 55 = σ 55 := p4 55 (by decide) (by decide) (by decide) (by decide) (by decide) (by decide)
  have e56 : τ 56 = σ 56 := p4 56 (by decide) (by decide) (by decide) (by decide) (by decide) (by decide)
  have p0 : τ 0 6 = σ 0 6 := by rw [p4 0 (by decide) (by decide) (by decide) (by decide) (by decide) (by decide)]
  refine Wp.rg (fun hR2 => ?_)
  refine w_iload dX1_load_11 rfl ?_
  refine w_aload_n dX1_load_13 rfl ?_
  refine gf_X1_47 rfl dX1_load_14 ?_
  refine w_icmp_ge (tgt := 54) dX1_load_17 (by decide) (by omega) (by rw [p1]; omega) (fun c_17 => ?_) (fun c_17 => ?_)
  · refine w_aload_n dX1_load_54 rfl ?_
    refine w_aload_n dX1_load_55 rfl ?_
    refine gf_X1_52 rfl dX1_load_56 ?_
    refine pf_X1_55 rfl (hR2 _ _) dX1_load_59 ?_
    refine w_iconst dX1_load_62 ?_
    refine w_istore dX1_load_63 (Nat.le_of_ble_eq_true rfl) ?_
    refine up_to (σ 0 6) (fun i => 0 ≤ i → ∀ (τ : St), (τ 1 9 = σ 5 2 ∧ τ 1 10 = σ 0 6 ∧ τ 1 11 = σ 1 11 ∧ (∀ s, 0 ≤ s → s < σ 5 2 → τ 16 s = σ 55 s ∧ τ 17 s = σ 56 s) ∧ (∀ b, 0 ≤ b → b < i → τ 18 b = σ 9 b ∧ τ 19 b = σ 9 b + y * σ 10 b ∧ τ 20 b = σ 11 b) ∧ (∀ k, k ≠ 1 → k ≠ 16 → k ≠ 17 → k ≠ 18 → k ≠ 19 → k ≠ 20 → τ k = σ k)) → Wp mX1_load 0 (fun z τ => τ 1 9 = σ 5 2 ∧ τ 1 10 = σ 0 6 ∧ τ 1 11 = σ 1 11 ∧ (∀ s, 0 ≤ s → s < σ 5 2 → τ 16 s = σ 55 s ∧ τ 17 s = σ 56 s) ∧ (∀ b, 0 ≤ b → b < σ 0 6 → τ 18 b = σ 9 b ∧ τ 19 b = σ 9 b + y * σ 10 b ∧ τ 20 b = σ 11 b) ∧ (∀ k, k ≠ 1 → k ≠ 16 → k ≠ 17 → k ≠ 18 → k ≠ 19 → k ≠ 20 → τ k = σ k)) 65 [some (.inr 1), some (.inr 5), some (.inr 0), some (.inl y), some (.inl i)] [] τ) (fun i hi ih h0 τ hinv => ?_) (0) (by omega) (by omega) _ ⟨by simp [put_eq, p1], by simp [put_eq, p0], by simp [put_eq, p2], fun s h1 h2 => by simp only [put_eq]; simp; exact p3 s h1 (by omega), fun b h1 h2 => by omega, fun k k1 k2 k3 k4 k5 k6 => by rw [put_ne k1]; exact p4 k k1 k2 k3 k4 k5 k6⟩
    obtain ⟨q1, q2, q3, q4, q5, q6⟩ := hinv
    have e9 : τ 9 = σ 9 := q6 9 (by decide) (by decide) (by decide) (by decide) (by decide) (by decide)
    have e10 : τ 10 = σ 10 := q6 10 (by decide) (by decide) (by decide) (by decide) (by decide) (by decide)
    have e11 : τ 11 = σ 11 := q6 11 (by decide) (by decide) (by decide) (by decide) (by decide) (by decide)
    refine Wp.rg (fun hR2 => ?_)
    
    refine w_iload dX1_load_65 rfl ?_
    refine w_aload_n dX1_load_67 rfl ?_
    refine gf_X1_55 rfl dX1_load_68 ?_
    refine w_icmp_ge (tgt := 132) dX1_load_71 (by decide) (by omega) (by rw [q2]; omega) (fun c_71 => ?_) (fun c_71 => ?_)
    · refine w_ret dX1_load_132 rfl ?_
      exact ⟨q1, q2, q3, q4, fun b h1 h2 => q5 b h1 (by omega), q6⟩
    · have hwi := hw i h0 (by omega)
      have hni := hnd i h0 (by omega)
      have hyn : 0 ≤ y * σ 10 i := Int.mul_nonneg hy.1 hni.1
      have hyn2 : y * σ 10 i ≤ 999 * 1000 := Int.le_trans (Int.mul_le_mul_of_nonneg_right hy.2 hni.1) (Int.mul_le_mul_of_nonneg_left hni.2 (by omega))
      refine w_aload_n dX1_load_74 rfl ?_
      refine gf_X1_24 rfl dX1_load_75 ?_
      refine w_iload dX1_load_78 rfl ?_
      refine w_aload_n dX1_load_80 rfl ?_
      refine gf_X1_56 rfl dX1_load_81 ?_
      refine w_iload dX1_load_84 rfl ?_
      refine w_iald rfl (by omega) dX1_load_86 ?_
      refine w_iast rfl (by omega) (by rw [e9]; omega) dX1_load_87 ?_
      refine w_aload_n dX1_load_88 rfl ?_
      refine gf_X1_27 rfl dX1_load_89 ?_
      refine w_iload dX1_load_92 rfl ?_
      refine w_aload_n dX1_load_94 rfl ?_
      refine gf_X1_56 rfl dX1_load_95 ?_
      refine w_iload dX1_load_98 rfl ?_
      refine w_iald rfl (by omega) dX1_load_100 ?_
      refine w_iload_n dX1_load_101 rfl ?_
      refine w_aload_n dX1_load_102 rfl ?_
      refine gf_X1_57 rfl dX1_load_103 ?_
      refine w_iload dX1_load_106 rfl ?_
      refine w_iald rfl (by omega) dX1_load_108 ?_
      refine w_imul dX1_load_109 ?_
      refine w_iadd dX1_load_110 ?_
      refine w_iast rfl (by omega) (by simp only [put_eq]; simp; rw [e9, e10]; omega) dX1_load_111 ?_
      refine w_aload_n dX1_load_112 rfl ?_
      refine gf_X1_30 rfl dX1_load_113 ?_
      refine w_iload dX1_load_116 rfl ?_
      refine w_aload_n dX1_load_118 rfl ?_
      refine gf_X1_60 rfl dX1_load_119 ?_
      refine w_iload dX1_load_122 rfl ?_
      refine w_iald rfl (by omega) dX1_load_124 ?_
      refine w_iast rfl (by omega) (by simp only [put_eq]; simp; exact hR2 _ _) dX1_load_125 ?_
      refine w_iinc dX1_load_126 (Nat.le_of_ble_eq_true rfl) rfl ?_
      refine w_goto (tgt := 65) dX1_load_129 (by decide) ?_
      refine ih (by omega) (by omega) _ ⟨by simp [put_eq, q1], by simp [put_eq, q2], by simp [put_eq, q3], fun s h1 h2 => ?_, fun b h1 h2 => ?_, fun k k1 k2 k3 k4 k5 k6 => ?_⟩
      · simp only [put_eq]; simp; exact q4 s h1 h2
      · simp only [put_eq]; simp
        by_cases e : b = i
        · simp [e, e9, e10, e11]
        · simp [e]; exact q5 b h1 (by omega)
      · rw [put_ne (by omega), put_ne (by omega), put_ne (by omega)]; exact q6 k k1 k2 k3 k4 k5 k6
  · refine w_aload_n dX1_load_20 rfl ?_
    refine gf_X1_18 rfl dX1_load_21 ?_
    refine w_iload dX1_load_24 rfl ?_
    refine w_aload_n dX1_load_26 rfl ?_
    refine gf_X1_50 rfl dX1_load_27 ?_
    refine w_iload dX1_load_30 rfl ?_
    refine w_iald rfl (by omega) dX1_load_32 ?_
    refine w_iast rfl (by omega) (hR2 _ _) dX1_load_33 ?_
    refine w_aload_n dX1_load_34 rfl ?_
    refine gf_X1_21 rfl dX1_load_35 ?_
    refine w_iload dX1_load_38 rfl ?_
    refine w_aload_n dX1_load_40 rfl ?_
    refine gf_X1_51 rfl dX1_load_41 ?_
    refine w_iload dX1_load_44 rfl ?_
    refine w_iald rfl (by omega) dX1_load_46 ?_
    refine w_iast rfl (by omega) (by simp only [put_eq]; simp; exact hR2 _ _) dX1_load_47 ?_
    refine w_iinc dX1_load_48 (Nat.le_of_ble_eq_true rfl) rfl ?_
    refine w_goto (tgt := 11) dX1_load_51 (by decide) ?_
    refine ih (by omega) (by omega) _ ⟨by simp [put_eq, p1], by simp [put_eq, p2], fun s h1 h2 => ?_, fun k k1 k2 k3 k4 k5 k6 => by rw [put_ne k3, put_ne k2]; exact p4 k k1 k2 k3 k4 k5 k6⟩
    simp only [put_eq]; simp
    by_cases e : s = i
    · simp [e, e55, e56]
    · simp [e]; exact p3 s h1 (by omega)

set_option maxRecDepth 100000 in
set_option maxHeartbeats 4000000 in
theorem ct_X1_insert (σ : St) (b w : Int) (hb : 0 ≤ b ∧ b ≤ σ 1 10 ∧ σ 1 10 < 60) (hw : InR w) : Wp mX1_insert 1 (fun z τ => (∀ j, 0 ≤ j → j ≤ σ 1 10 → τ 18 j = ins (σ 18) b w j ∧ τ 19 j = ins (σ 19) b w j ∧ τ 20 j = ins (σ 20) b (-1) j) ∧ τ 1 10 = σ 1 10 + 1 ∧ (∀ j, j ≠ 10 → τ 1 j = σ 1 j) ∧ ∀ k, k ≠ 1 → k ≠ 18 → k ≠ 19 → k ≠ 20 → τ k = σ k) 0 [some (.inr 1), some (.inl b), some (.inl w)] [] σ := by
  refine Wp.rg (fun hR => ?_)
  refine w_aload_n dX1_insert_0 rfl ?_
  refine gf_X1_55 rfl dX1_insert_1 ?_
  refine w_bipush dX1_insert_4 (by decide) ?_
  refine w_icmp_lt (tgt := 10) dX1_insert_6 (by decide) (by omega) (by omega) (fun c_6 => ?_) (fun c_6 => ?_)
  · refine w_aload_n dX1_insert_10 rfl ?_
    refine gf_X1_24 rfl dX1_insert_11 ?_
    refine w_iload_n dX1_insert_14 rfl ?_
    refine w_aload_n dX1_insert_15 rfl ?_
    refine gf_X1_24 rfl dX1_insert_16 ?_
    refine w_iload_n dX1_insert_19 rfl ?_
    refine w_iconst dX1_insert_20 ?_
    refine w_iadd dX1_insert_21 ?_
    refine w_aload_n dX1_insert_22 rfl ?_
    refine gf_X1_55 rfl dX1_insert_23 ?_
    refine w_iload_n dX1_insert_26 rfl ?_
    refine w_isub dX1_insert_27 ?_
    refine w_copy dX1_insert_28 tw_361 tw_363 tw_362 tw_68 (Nat.le_of_ble_eq_true rfl) rfl rfl (by first | omega | (simp only [putA_eq]; simp; omega)) (by first | omega | (simp only [putA_eq]; simp; omega)) (by first | omega | (simp only [putA_eq]; simp; omega)) (by first | omega | (simp only [putA_eq]; simp; omega)) (by first | omega | (simp only [putA_eq]; simp; omega)) ?_
    refine w_aload_n dX1_insert_31 rfl ?_
    refine gf_X1_27 rfl dX1_insert_32 ?_
    refine w_iload_n dX1_insert_35 rfl ?_
    refine w_aload_n dX1_insert_36 rfl ?_
    refine gf_X1_27 rfl dX1_insert_37 ?_
    refine w_iload_n dX1_insert_40 rfl ?_
    refine w_iconst dX1_insert_41 ?_
    refine w_iadd dX1_insert_42 ?_
    refine w_aload_n dX1_insert_43 rfl ?_
    refine gf_X1_55 rfl dX1_insert_44 ?_
    refine w_iload_n dX1_insert_47 rfl ?_
    refine w_isub dX1_insert_48 ?_
    refine w_copy dX1_insert_49 tw_361 tw_363 tw_362 tw_68 (Nat.le_of_ble_eq_true rfl) rfl rfl (by first | omega | (simp only [putA_eq]; simp; omega)) (by first | omega | (simp only [putA_eq]; simp; omega)) (by first | omega | (simp only [putA_eq]; simp; omega)) (by first | omega | (simp only [putA_eq]; simp; omega)) (by first | omega | (simp only [putA_eq]; simp; omega)) ?_
    refine w_aload_n dX1_insert_52 rfl ?_
    refine gf_X1_30 rfl dX1_insert_53 ?_
    refine w_iload_n dX1_insert_56 rfl ?_
    refine w_aload_n dX1_insert_57 rfl ?_
    refine gf_X1_30 rfl dX1_insert_58 ?_
    refine w_iload_n dX1_insert_61 rfl ?_
    refine w_iconst dX1_insert_62 ?_
    refine w_iadd dX1_insert_63 ?_
    refine w_aload_n dX1_insert_64 rfl ?_
    refine gf_X1_55 rfl dX1_insert_65 ?_
    refine w_iload_n dX1_insert_68 rfl ?_
    refine w_isub dX1_insert_69 ?_
    refine w_copy dX1_insert_70 tw_361 tw_363 tw_362 tw_68 (Nat.le_of_ble_eq_true rfl) rfl rfl (by first | omega | (simp only [putA_eq]; simp; omega)) (by first | omega | (simp only [putA_eq]; simp; omega)) (by first | omega | (simp only [putA_eq]; simp; omega)) (by first | omega | (simp only [putA_eq]; simp; omega)) (by first | omega | (simp only [putA_eq]; simp; omega)) ?_
    refine w_aload_n dX1_insert_73 rfl ?_
    refine w_dup dX1_insert_74 ?_
    refine gf_X1_55 rfl dX1_insert_75 ?_
    refine w_iconst dX1_insert_78 ?_
    refine w_iadd dX1_insert_79 ?_
    refine pf_X1_55 rfl (by simp only [putA_eq]; simp; omega) dX1_insert_80 ?_
    refine w_aload_n dX1_insert_83 rfl ?_
    refine gf_X1_24 rfl dX1_insert_84 ?_
    refine w_iload_n dX1_insert_87 rfl ?_
    refine w_iload_n dX1_insert_88 rfl ?_
    refine w_iast rfl (by omega) hw dX1_insert_89 ?_
    refine w_aload_n dX1_insert_90 rfl ?_
    refine gf_X1_27 rfl dX1_insert_91 ?_
    refine w_iload_n dX1_insert_94 rfl ?_
    refine w_iload_n dX1_insert_95 rfl ?_
    refine w_iast rfl (by omega) hw dX1_insert_96 ?_
    refine w_aload_n dX1_insert_97 rfl ?_
    refine gf_X1_30 rfl dX1_insert_98 ?_
    refine w_iload_n dX1_insert_101 rfl ?_
    refine w_iconst dX1_insert_102 ?_
    refine w_iast rfl (by omega) (by omega) dX1_insert_103 ?_
    refine w_ret dX1_insert_104 rfl ?_
    refine ⟨fun j h1 h2 => ?_, by simp [put_eq, putA_eq], fun j hj => by simp [put_eq, putA_eq, hj], fun k k0 k1 k2 k3 => by funext j; simp [put_eq, putA_eq, k0, k1, k2, k3]⟩
    simp only [put_eq, putA_eq, cpI, ins]
    simp
    by_cases q1 : j < b
    · simp [q1, show ¬ j = b by omega, show ¬ b + 1 ≤ j by omega]
    · by_cases q2 : j = b
      · simp [q2]
      · have e1 : b + (j - (b + 1)) = j - 1 := by omega
        have e2 : b + 1 ≤ j ∧ j < b + 1 + (σ 1 10 - b) := by omega
        simp [q1, q2, e1, e2]
  · exact absurd c_6 (by omega)

set_option maxRecDepth 100000 in
set_option maxHeartbeats 4000000 in
theorem ct_X1_forget (σ : St) (b : Int) (hb : 0 ≤ b ∧ b < σ 1 10 ∧ σ 1 10 ≤ 60) : Wp mX1_forget 1 (fun z τ => (∀ j, 0 ≤ j → j < σ 1 10 - 1 → τ 14 j = del (σ 14) b j) ∧ τ 1 10 = σ 1 10 - 1 ∧ ∀ k, k ≠ 1 → k ≠ 14 → τ k = σ k) 0 [some (.inr 1), some (.inl b)] [] σ := by
  refine Wp.rg (fun hR => ?_)
  refine w_aload_n dX1_forget_0 rfl ?_
  refine gf_X1_9 rfl dX1_forget_1 ?_
  refine w_iload_n dX1_forget_4 rfl ?_
  refine w_iconst dX1_forget_5 ?_
  refine w_iadd dX1_forget_6 ?_
  refine w_aload_n dX1_forget_7 rfl ?_
  refine gf_X1_9 rfl dX1_forget_8 ?_
  refine w_iload_n dX1_forget_11 rfl ?_
  refine w_aload_n dX1_forget_12 rfl ?_
  refine gf_X1_55 rfl dX1_forget_13 ?_
  refine w_iload_n dX1_forget_16 rfl ?_
  refine w_isub dX1_forget_17 ?_
  refine w_iconst dX1_forget_18 ?_
  refine w_isub dX1_forget_19 ?_
  refine w_copy dX1_forget_20 tw_361 tw_363 tw_362 tw_68 (Nat.le_of_ble_eq_true rfl) rfl rfl (by omega) (by omega) (by omega) (by omega) (by omega) ?_
  refine w_aload_n dX1_forget_23 rfl ?_
  refine w_dup dX1_forget_24 ?_
  refine gf_X1_55 rfl dX1_forget_25 ?_
  refine w_iconst dX1_forget_28 ?_
  refine w_isub dX1_forget_29 ?_
  refine pf_X1_55 rfl (by simp only [putA_eq]; simp; omega) dX1_forget_30 ?_
  refine w_ret dX1_forget_33 rfl ?_
  refine ⟨fun j h1 h2 => ?_, by simp [put_eq, putA_eq], fun k k0 k1 => by funext j; simp [put_eq, putA_eq, k0, k1]⟩
  simp only [put_eq, putA_eq, cpI, del]
  simp
  by_cases q1 : j < b
  · simp [q1, show ¬ b ≤ j by omega]
  · have e1 : b + 1 + (j - b) = j + 1 := by omega
    have e2 : b ≤ j ∧ j < b + (σ 1 10 - b - 1) := by omega
    simp [q1, e1, e2]

set_option maxRecDepth 100000 in
set_option maxHeartbeats 4000000 in
theorem ct_X1_fill (σ : St) (f s : Int) (hf : 0 ≤ f ∧ f ≤ σ 1 10 ∧ σ 1 10 ≤ 60) (hs : 0 ≤ s ∧ s < 12) (hl : 0 ≤ σ 16 s ∧ σ 16 s ≤ 200) (hsp : ∀ b, 0 ≤ b → b < σ 1 10 → 0 ≤ σ 19 b) : Wp mX1_fill 0 (fun z τ => IsDay (σ 19) f (σ 1 10) (σ 16 s) (z - f) ∧ τ = σ) 0 [some (.inr 1), some (.inl f), some (.inl s), none, none] [] σ := by
  refine Wp.rg (fun hR => ?_)
  refine w_aload_n dX1_fill_0 rfl ?_
  refine gf_X1_18 rfl dX1_fill_1 ?_
  refine w_iload_n dX1_fill_4 rfl ?_
  refine w_iald rfl (by omega) dX1_fill_5 ?_
  refine w_istore_n dX1_fill_6 (Nat.le_of_ble_eq_true rfl) ?_
  refine w_iload_n dX1_fill_7 rfl ?_
  refine w_istore dX1_fill_8 (Nat.le_of_ble_eq_true rfl) ?_
  refine up_to (σ 1 10) (fun i => f ≤ i → ∀ a, (a = σ 16 s - sumF (σ 19) f (i - f) ∧ 0 ≤ a ∧ a ≤ 200) → Wp mX1_fill 0 (fun z τ => IsDay (σ 19) f (σ 1 10) (σ 16 s) (z - f) ∧ τ = σ) 10 [some (.inr 1), some (.inl f), some (.inl s), some (.inl a), some (.inl i)] [] σ) (fun i hi ih h0 a hinv => ?_) (f) (by omega) (by omega) _ ⟨by rw [Int.sub_self, sumF_0]; omega, by omega, by omega⟩
  refine w_iload dX1_fill_10 rfl ?_
  refine w_aload_n dX1_fill_12 rfl ?_
  refine gf_X1_55 rfl dX1_fill_13 ?_
  refine w_icmp_ge (tgt := 46) dX1_fill_16 (by decide) (by omega) (by omega) (fun c_16 => ?_) (fun c_16 => ?_)
  · refine w_iload dX1_fill_46 rfl ?_
    refine w_iret dX1_fill_48 rfl ?_
    refine ⟨⟨by omega, by omega, by omega, ?_⟩, rfl⟩
    rw [sumF_s _ _ (by omega), show f + (i - f) = i by omega]
    omega
  · refine w_aload_n dX1_fill_19 rfl ?_
    refine gf_X1_27 rfl dX1_fill_20 ?_
    refine w_iload dX1_fill_23 rfl ?_
    refine w_iald rfl (by omega) dX1_fill_25 ?_
    refine w_iload_n dX1_fill_26 rfl ?_
    refine w_icmp_gt (tgt := 46) dX1_fill_27 (by decide) (hR _ _) (by omega) (fun c_27 => ?_) (fun c_27 => ?_)
    · refine w_iload dX1_fill_46 rfl ?_
      refine w_iret dX1_fill_48 rfl ?_
      refine ⟨⟨by omega, by omega, by omega, ?_⟩, rfl⟩
      rw [sumF_s _ _ (by omega), show f + (i - f) = i by omega]
      omega
    · have hsi := hsp i (by omega) (by omega)
      refine w_iload_n dX1_fill_30 rfl ?_
      refine w_aload_n dX1_fill_31 rfl ?_
      refine gf_X1_27 rfl dX1_fill_32 ?_
      refine w_iload dX1_fill_35 rfl ?_
      refine w_iald rfl (by omega) dX1_fill_37 ?_
      refine w_isub dX1_fill_38 ?_
      refine w_istore_n dX1_fill_39 (Nat.le_of_ble_eq_true rfl) ?_
      refine w_iinc dX1_fill_40 (Nat.le_of_ble_eq_true rfl) rfl ?_
      refine w_goto (tgt := 10) dX1_fill_43 (by decide) ?_
      refine ih (by omega) (by omega) _ ⟨?_, by omega, by omega⟩
      rw [show i + 1 - f = (i - f) + 1 by omega, sumF_s _ _ (by omega), show f + (i - f) = i by omega]
      omega

set_option maxRecDepth 100000 in
set_option maxHeartbeats 4000000 in
theorem ct_X1_priceOfMove (σ : St) (len kind span : Int → Int) (b s : Int) (hb : 0 ≤ b ∧ b < 60) (hs : InR s) : Wp mX1_priceOfMove 0 (fun z τ => z = pmP (len, kind, σ 18, span, σ 20) s b ∧ τ = σ) 0 [some (.inr 1), some (.inl b), some (.inl s), none] [] σ := by
  refine Wp.rg (fun hR => ?_)
  refine w_aload_n dX1_priceOfMove_0 rfl ?_
  refine gf_X1_30 rfl dX1_priceOfMove_1 ?_
  refine w_iload_n dX1_priceOfMove_4 rfl ?_
  refine w_iald rfl (by omega) dX1_priceOfMove_5 ?_
  refine w_iload_n dX1_priceOfMove_6 rfl ?_
  refine w_icmp_eq (tgt := 20) dX1_priceOfMove_7 (by decide) (hR _ _) hs (fun c_7 => ?_) (fun c_7 => ?_)
  · refine w_iconst dX1_priceOfMove_20 ?_
    refine w_goto (tgt := 25) dX1_priceOfMove_21 (by decide) ?_
    refine w_istore_n dX1_priceOfMove_25 (Nat.le_of_ble_eq_true rfl) ?_
    refine w_iload_n dX1_priceOfMove_26 rfl ?_
    refine w_if_eq (tgt := 34) dX1_priceOfMove_27 (by decide) (by omega) (fun c_27 => ?_) (fun c_27 => ?_)
    · refine w_bipush dX1_priceOfMove_34 (by decide) ?_
      refine w_aload_n dX1_priceOfMove_36 rfl ?_
      refine gf_X1_24 rfl dX1_priceOfMove_37 ?_
      refine w_iload_n dX1_priceOfMove_40 rfl ?_
      refine w_iald rfl (by omega) dX1_priceOfMove_41 ?_
      refine w_imul dX1_priceOfMove_42 ?_
      refine w_iconst dX1_priceOfMove_43 ?_
      refine w_iadd dX1_priceOfMove_44 ?_
      refine w_iret dX1_priceOfMove_45 rfl ?_
      first | exact absurd c_27 (by decide) | exact absurd rfl c_27 | (refine ⟨?_, rfl⟩; unfold pmP; dsimp only; first | rw [if_pos (by omega)] | rw [if_neg (by omega)])
    · refine w_iconst dX1_priceOfMove_30 ?_
      refine w_goto (tgt := 45) dX1_priceOfMove_31 (by decide) ?_
      refine w_iret dX1_priceOfMove_45 rfl ?_
      first | exact absurd c_27 (by decide) | exact absurd rfl c_27 | (refine ⟨?_, rfl⟩; unfold pmP; dsimp only; first | rw [if_pos (by omega)] | rw [if_neg (by omega)])
  · refine w_aload_n dX1_priceOfMove_10 rfl ?_
    refine gf_X1_30 rfl dX1_priceOfMove_11 ?_
    refine w_iload_n dX1_priceOfMove_14 rfl ?_
    refine w_iald rfl (by omega) dX1_priceOfMove_15 ?_
    refine w_iconst dX1_priceOfMove_16 ?_
    refine w_icmp_ne (tgt := 24) dX1_priceOfMove_17 (by decide) (hR _ _) (by omega) (fun c_17 => ?_) (fun c_17 => ?_)
    · refine w_iconst dX1_priceOfMove_24 ?_
      refine w_istore_n dX1_priceOfMove_25 (Nat.le_of_ble_eq_true rfl) ?_
      refine w_iload_n dX1_priceOfMove_26 rfl ?_
      refine w_if_eq (tgt := 34) dX1_priceOfMove_27 (by decide) (by omega) (fun c_27 => ?_) (fun c_27 => ?_)
      · refine w_bipush dX1_priceOfMove_34 (by decide) ?_
        refine w_aload_n dX1_priceOfMove_36 rfl ?_
        refine gf_X1_24 rfl dX1_priceOfMove_37 ?_
        refine w_iload_n dX1_priceOfMove_40 rfl ?_
        refine w_iald rfl (by omega) dX1_priceOfMove_41 ?_
        refine w_imul dX1_priceOfMove_42 ?_
        refine w_iconst dX1_priceOfMove_43 ?_
        refine w_iadd dX1_priceOfMove_44 ?_
        refine w_iret dX1_priceOfMove_45 rfl ?_
        first | exact absurd c_27 (by decide) | exact absurd rfl c_27 | (refine ⟨?_, rfl⟩; unfold pmP; dsimp only; first | rw [if_pos (by omega)] | rw [if_neg (by omega)])
      · refine w_iconst dX1_priceOfMove_30 ?_
        refine w_goto (tgt := 45) dX1_priceOfMove_31 (by decide) ?_
        refine w_iret dX1_priceOfMove_45 rfl ?_
        first | exact absurd c_27 (by decide) | exact absurd rfl c_27 | (refine ⟨?_, rfl⟩; unfold pmP; dsimp only; first | rw [if_pos (by omega)] | rw [if_neg (by omega)])
    · refine w_iconst dX1_priceOfMove_20 ?_
      refine w_goto (tgt := 25) dX1_priceOfMove_21 (by decide) ?_
      refine w_istore_n dX1_priceOfMove_25 (Nat.le_of_ble_eq_true rfl) ?_
      refine w_iload_n dX1_priceOfMove_26 rfl ?_
      refine w_if_eq (tgt := 34) dX1_priceOfMove_27 (by decide) (by omega) (fun c_27 => ?_) (fun c_27 => ?_)
      · refine w_bipush dX1_priceOfMove_34 (by decide) ?_
        refine w_aload_n dX1_priceOfMove_36 rfl ?_
        refine gf_X1_24 rfl dX1_priceOfMove_37 ?_
        refine w_iload_n dX1_priceOfMove_40 rfl ?_
        refine w_iald rfl (by omega) dX1_priceOfMove_41 ?_
        refine w_imul dX1_priceOfMove_42 ?_
        refine w_iconst dX1_priceOfMove_43 ?_
        refine w_iadd dX1_priceOfMove_44 ?_
        refine w_iret dX1_priceOfMove_45 rfl ?_
        first | exact absurd c_27 (by decide) | exact absurd rfl c_27 | (refine ⟨?_, rfl⟩; unfold pmP; dsimp only; first | rw [if_pos (by omega)] | rw [if_neg (by omega)])
      · refine w_iconst dX1_priceOfMove_30 ?_
        refine w_goto (tgt := 45) dX1_priceOfMove_31 (by decide) ?_
        refine w_iret dX1_priceOfMove_45 rfl ?_
        first | exact absurd c_27 (by decide) | exact absurd rfl c_27 | (refine ⟨?_, rfl⟩; unfold pmP; dsimp only; first | rw [if_pos (by omega)] | rw [if_neg (by omega)])

theorem sh_least {s : Int} (h0 : 0 ≤ s) (h1 : s ≤ 12) : shT[22 + s.toNat]? = some (.inr (.inl 61)) := by
  have h : ∀ k : Nat, k < 13 → shT[22 + k]? = some (.inr (.inl 61)) := by decide +kernel
  exact h s.toNat (by omega)
theorem sh_most {s : Int} (h0 : 0 ≤ s) (h1 : s < 12) : shT[36 + s.toNat]? = some (.inr (.inl 61)) := by
  have h : ∀ k : Nat, k < 12 → shT[36 + k]? = some (.inr (.inl 61)) := by decide +kernel
  exact h s.toNat (by omega)

set_option maxRecDepth 100000 in
set_option maxHeartbeats 4000000 in
theorem ct_X1_chooseMost (σ : St) (s f : Int) (hc : CPok (σ 16, σ 17, σ 18, σ 19, σ 20) (σ 1 9) (σ 1 10)) (hs : 0 ≤ s ∧ s < σ 1 9) (hf : 0 ≤ f ∧ f ≤ σ 1 10) (hrow : ∀ b, f ≤ b → b ≤ σ 1 10 → 0 ≤ σ (22 + (s + 1).toNat) b ∧ σ (22 + (s + 1).toNat) b ≤ 1000000000) : Wp mX1_chooseMost 1 (fun z τ => ∃ v m, IsMn (σ 16, σ 17, σ 18, σ 19, σ 20) (σ 1 10) (σ (22 + (s + 1).toNat)) s f v ∧ IsMost (σ 16, σ 17, σ 18, σ 19, σ 20) (σ 1 10) (σ (22 + (s + 1).toNat)) s f v m ∧ 0 ≤ v ∧ v ≤ 1000000000 ∧ τ = put (put σ (22 + s.toNat) f v) (36 + s.toNat) f m) 0 [some (.inr 1), some (.inl s), some (.inl f), none, none, none, none, none, none] [] σ := by
  refine Wp.rg (fun hR => ?_)
  have hn := hc.2.1
  have hns := hc.1
  refine w_aload_n dX1_chooseMost_0 rfl ?_
  refine gf_X1_35 rfl dX1_chooseMost_1 ?_
  refine w_iload_n dX1_chooseMost_4 rfl ?_
  refine w_iconst dX1_chooseMost_5 ?_
  refine w_iadd dX1_chooseMost_6 ?_
  refine w_aald rfl (by omega) dX1_chooseMost_7 ?_
  refine w_astore_n dX1_chooseMost_8 (Nat.le_of_ble_eq_true rfl) ?_
  refine w_aload_n dX1_chooseMost_9 rfl ?_
  refine w_iload_n dX1_chooseMost_10 rfl ?_
  refine w_iald (sh_least (by omega) (by omega)) (by omega) dX1_chooseMost_11 ?_
  refine w_istore dX1_chooseMost_12 (Nat.le_of_ble_eq_true rfl) ?_
  refine w_iconst dX1_chooseMost_14 ?_
  refine w_istore dX1_chooseMost_15 (Nat.le_of_ble_eq_true rfl) ?_
  refine w_aload_n dX1_chooseMost_17 rfl ?_
  refine gf_X1_21 rfl dX1_chooseMost_18 ?_
  refine w_iload_n dX1_chooseMost_21 rfl ?_
  refine w_iald rfl (by omega) dX1_chooseMost_22 ?_
  refine w_iconst dX1_chooseMost_23 ?_
  refine w_icmp_ne (tgt := 32) dX1_chooseMost_24 (by decide) (hR _ _) (by omega) (fun c_24 => ?_) (fun c_24 => ?_)
  · refine w_iconst dX1_chooseMost_32 ?_
    refine w_istore dX1_chooseMost_33 (Nat.le_of_ble_eq_true rfl) ?_
    refine w_aload_n dX1_chooseMost_35 rfl ?_
    refine gf_X1_21 rfl dX1_chooseMost_36 ?_
    refine w_iload_n dX1_chooseMost_39 rfl ?_
    refine w_iald rfl (by omega) dX1_chooseMost_40 ?_
    refine w_iconst dX1_chooseMost_41 ?_
    refine w_icmp_ne (tgt := 49) dX1_chooseMost_42 (by decide) (hR _ _) (by omega) (fun c_42 => ?_) (fun c_42 => ?_)
    · refine w_aload_n dX1_chooseMost_49 rfl ?_
      refine gf_X1_18 rfl dX1_chooseMost_50 ?_
      refine w_iload_n dX1_chooseMost_53 rfl ?_
      refine w_iald rfl (by omega) dX1_chooseMost_54 ?_
      refine w_istore dX1_chooseMost_55 (Nat.le_of_ble_eq_true rfl) ?_
      refine w_iload_n dX1_chooseMost_57 rfl ?_
      refine w_istore dX1_chooseMost_58 (Nat.le_of_ble_eq_true rfl) ?_
      refine up_to (σ 1 10) (fun i => f ≤ i → ∀ v h w a, (a = rmP (σ 16, σ 17, σ 18, σ 19, σ 20) s - sumF (σ 19) f (i - f) ∧ 0 ≤ a ∧ a ≤ 200 ∧ w = (if σ 17 s = 1 then 1000000 else 0) + sumF (pmP (σ 16, σ 17, σ 18, σ 19, σ 20) s) f (i - f) ∧ 0 ≤ w ∧ w ≤ 1000000 + 4001 * (i - f) ∧ (∀ m, 0 ≤ m → m ≤ i - f → v ≤ owP (σ 16, σ 17, σ 18, σ 19, σ 20) s f m + (σ (22 + (s + 1).toNat)) (f + m)) ∧ 0 ≤ h ∧ h ≤ i - f ∧ v = owP (σ 16, σ 17, σ 18, σ 19, σ 20) s f h + (σ (22 + (s + 1).toNat)) (f + h) ∧ ∀ m, h < m → m ≤ i - f → v < owP (σ 16, σ 17, σ 18, σ 19, σ 20) s f m + (σ (22 + (s + 1).toNat)) (f + m)) → Wp mX1_chooseMost 1 (fun z τ => ∃ v m, IsMn (σ 16, σ 17, σ 18, σ 19, σ 20) (σ 1 10) (σ (22 + (s + 1).toNat)) s f v ∧ IsMost (σ 16, σ 17, σ 18, σ 19, σ 20) (σ 1 10) (σ (22 + (s + 1).toNat)) s f v m ∧ 0 ≤ v ∧ v ≤ 1000000000 ∧ τ = put (put σ (22 + s.toNat) f v) (36 + s.toNat) f m) 60 [some (.inr 1), some (.inl s), some (.inl f), some (.inr (22 + (s + 1).toNat)), some (.inl v), some (.inl h), some (.inl w), some (.inl a), some (.inl i)] [] σ) (fun i hi ih h0 v h w a hinv => ?_) (f) (by omega) (by omega) _ 0 _ _ ⟨?_, ?_, ?_, ?_, ?_, ?_, ?_, by omega, by omega, ?_, ?_⟩
      rotate_left 1
      · rw [Int.sub_self, sumF_0]; unfold rmP; dsimp only; first | rw [if_pos (by omega)]; omega | rw [if_neg (by omega)]; omega
      · have := hc.2.2.1 s hs.1 hs.2; dsimp only at this; omega
      · have := hc.2.2.1 s hs.1 hs.2; dsimp only at this; omega
      · rw [Int.sub_self, sumF_0]; first | (rw [if_pos (by omega)]; rfl) | (rw [if_neg (by omega)]; rfl)
      · omega
      · omega
      · intro m m0 m1
        rw [show m = 0 by omega, owP_0, Int.zero_add, Int.add_zero]; exact Int.le_refl _
      · rw [owP_0, Int.zero_add, Int.add_zero]
      · intro m m0 m1; omega
      obtain ⟨i1, i2, i3, i4, i5, i6, i7, i8, i9, i10, i11⟩ := hinv
      have hvb : 0 ≤ v ∧ v ≤ 1000000000 := by
        have a1 := i7 0 (by omega) (by omega)
        rw [owP_0, Int.zero_add, Int.add_zero] at a1
        have a2 := hrow f (by omega) (by omega)
        have a3 := hrow (f + h) (by omega) (by omega)
        have a4 := owP_bd hc s hf.1 i8 (by omega)
        omega
      refine w_iload dX1_chooseMost_60 rfl ?_
      refine w_aload_n dX1_chooseMost_62 rfl ?_
      refine gf_X1_55 rfl dX1_chooseMost_63 ?_
      refine w_icmp_ge (tgt := 144) dX1_chooseMost_66 (by decide) (by omega) (by omega) (fun c_66 => ?_) (fun c_66 => ?_)
      · refine w_aload_n dX1_chooseMost_144 rfl ?_
        refine gf_X1_35 rfl dX1_chooseMost_145 ?_
        refine w_iload_n dX1_chooseMost_148 rfl ?_
        refine w_aald rfl (by omega) dX1_chooseMost_149 ?_
        refine w_iload_n dX1_chooseMost_150 rfl ?_
        refine w_iload dX1_chooseMost_151 rfl ?_
        refine w_iast (sh_least (by omega) (by omega)) (by omega) (by omega) dX1_chooseMost_153 ?_
        refine w_aload_n dX1_chooseMost_154 rfl ?_
        refine gf_X1_38 rfl dX1_chooseMost_155 ?_
        refine w_iload_n dX1_chooseMost_158 rfl ?_
        refine w_aald rfl (by omega) dX1_chooseMost_159 ?_
        refine w_iload_n dX1_chooseMost_160 rfl ?_
        refine w_iload dX1_chooseMost_161 rfl ?_
        refine w_iast (sh_most (by omega) (by omega)) (by omega) (by omega) dX1_chooseMost_163 ?_
        refine w_ret dX1_chooseMost_164 rfl ?_
        have hfit : ∀ m, fitP (σ 16, σ 17, σ 18, σ 19, σ 20) (σ 1 10) s f m ↔ 0 ≤ m ∧ m ≤ i - f := by
          intro m
          constructor
          · intro hm
            refine ⟨hm.1, ?_⟩
            have m2 := hm.2.1
            by_cases q : m ≤ i - f
            · exact q
            · exfalso
              have hm3 := hm.2.2
              have hmo := sumF_mono (w := σ 19) (f := f) (n := σ 1 10) (fun k k1 k2 => by have := hc.2.2.2 k (by omega) k2; dsimp only at this; omega) (a := i - f + 1) (b := m) (by omega) (by omega) m2
              rw [sumF_s _ _ (by omega), show f + (i - f) = i by omega] at hmo
              dsimp only at hm3
              omega
          · intro hm
            refine ⟨hm.1, by omega, ?_⟩
            have hmo := sumF_mono (w := σ 19) (f := f) (n := σ 1 10) (fun k k1 k2 => by have := hc.2.2.2 k (by omega) k2; dsimp only at this; omega) (a := m) (b := i - f) hm.1 hm.2 (by omega)
            dsimp only
            omega
        refine ⟨v, h, ⟨fun m hm => i7 m ((hfit m).mp hm).1 ((hfit m).mp hm).2, h, (hfit h).mpr ⟨by omega, by omega⟩, i10⟩, ⟨(hfit h).mpr ⟨by omega, by omega⟩, i10, fun m m1 hm => ?_⟩, by omega, by omega, rfl⟩
        have := i11 m m1 ((hfit m).mp hm).2
        omega
      · refine w_aload_n dX1_chooseMost_69 rfl ?_
        refine gf_X1_27 rfl dX1_chooseMost_70 ?_
        refine w_iload dX1_chooseMost_73 rfl ?_
        refine w_iald rfl (by omega) dX1_chooseMost_75 ?_
        refine w_iload dX1_chooseMost_76 rfl ?_
        refine w_icmp_gt (tgt := 144) dX1_chooseMost_78 (by decide) (hR _ _) (by omega) (fun c_78 => ?_) (fun c_78 => ?_)
        · refine w_aload_n dX1_chooseMost_144 rfl ?_
          refine gf_X1_35 rfl dX1_chooseMost_145 ?_
          refine w_iload_n dX1_chooseMost_148 rfl ?_
          refine w_aald rfl (by omega) dX1_chooseMost_149 ?_
          refine w_iload_n dX1_chooseMost_150 rfl ?_
          refine w_iload dX1_chooseMost_151 rfl ?_
          refine w_iast (sh_least (by omega) (by omega)) (by omega) (by omega) dX1_chooseMost_153 ?_
          refine w_aload_n dX1_chooseMost_154 rfl ?_
          refine gf_X1_38 rfl dX1_chooseMost_155 ?_
          refine w_iload_n dX1_chooseMost_158 rfl ?_
          refine w_aald rfl (by omega) dX1_chooseMost_159 ?_
          refine w_iload_n dX1_chooseMost_160 rfl ?_
          refine w_iload dX1_chooseMost_161 rfl ?_
          refine w_iast (sh_most (by omega) (by omega)) (by omega) (by omega) dX1_chooseMost_163 ?_
          refine w_ret dX1_chooseMost_164 rfl ?_
          have hfit : ∀ m, fitP (σ 16, σ 17, σ 18, σ 19, σ 20) (σ 1 10) s f m ↔ 0 ≤ m ∧ m ≤ i - f := by
            intro m
            constructor
            · intro hm
              refine ⟨hm.1, ?_⟩
              have m2 := hm.2.1
              by_cases q : m ≤ i - f
              · exact q
              · exfalso
                have hm3 := hm.2.2
                have hmo := sumF_mono (w := σ 19) (f := f) (n := σ 1 10) (fun k k1 k2 => by have := hc.2.2.2 k (by omega) k2; dsimp only at this; omega) (a := i - f + 1) (b := m) (by omega) (by omega) m2
                rw [sumF_s _ _ (by omega), show f + (i - f) = i by omega] at hmo
                dsimp only at hm3
                omega
            · intro hm
              refine ⟨hm.1, by omega, ?_⟩
              have hmo := sumF_mono (w := σ 19) (f := f) (n := σ 1 10) (fun k k1 k2 => by have := hc.2.2.2 k (by omega) k2; dsimp only at this; omega) (a := m) (b := i - f) hm.1 hm.2 (by omega)
              dsimp only
              omega
          refine ⟨v, h, ⟨fun m hm => i7 m ((hfit m).mp hm).1 ((hfit m).mp hm).2, h, (hfit h).mpr ⟨by omega, by omega⟩, i10⟩, ⟨(hfit h).mpr ⟨by omega, by omega⟩, i10, fun m m1 hm => ?_⟩, by omega, by omega, rfl⟩
          have := i11 m m1 ((hfit m).mp hm).2
          omega
        · have hcb := hc.2.2.2 i (by omega) (by omega)
          dsimp only at hcb
          refine w_iload dX1_chooseMost_81 rfl ?_
          refine w_aload_n dX1_chooseMost_83 rfl ?_
          refine gf_X1_27 rfl dX1_chooseMost_84 ?_
          refine w_iload dX1_chooseMost_87 rfl ?_
          refine w_iald rfl (by omega) dX1_chooseMost_89 ?_
          refine w_isub dX1_chooseMost_90 ?_
          refine w_istore dX1_chooseMost_91 (Nat.le_of_ble_eq_true rfl) ?_
          refine w_iload dX1_chooseMost_93 rfl ?_
          refine w_aload_n dX1_chooseMost_95 rfl ?_
          refine w_iload dX1_chooseMost_96 rfl ?_
          refine w_iload_n dX1_chooseMost_98 rfl ?_
          refine cv_X1_85 rfl dX1_chooseMost_99 (Nat.le_of_ble_eq_true rfl) (Nat.le_of_ble_eq_true rfl) (Wp.mono (ct_X1_priceOfMove σ (σ 16) (σ 17) (σ 19) i s (by omega) (by omega)) (fun z_ τ_ hq_ => ?_))
          obtain ⟨hz_, hs_⟩ := hq_
          subst z_
          subst τ_
          have hpm := pmP_bd hc s (b := i) (by omega) (by omega)
          have hrw := hrow (i + 1) (by omega) (by omega)
          refine w_iadd dX1_chooseMost_102 ?_
          refine w_istore dX1_chooseMost_103 (Nat.le_of_ble_eq_true rfl) ?_
          refine w_iload dX1_chooseMost_105 rfl ?_
          refine w_aload_n dX1_chooseMost_107 rfl ?_
          refine w_iload dX1_chooseMost_108 rfl ?_
          refine w_iconst dX1_chooseMost_110 ?_
          refine w_iadd dX1_chooseMost_111 ?_
          refine w_iald (sh_least (by omega) (by omega)) (by omega) dX1_chooseMost_112 ?_
          refine w_iadd dX1_chooseMost_113 ?_
          refine w_iload dX1_chooseMost_114 rfl ?_
          refine w_icmp_gt (tgt := 138) dX1_chooseMost_116 (by decide) (by omega) (by omega) (fun c_116 => ?_) (fun c_116 => ?_)
          · refine w_iinc dX1_chooseMost_138 (Nat.le_of_ble_eq_true rfl) rfl ?_
            refine w_goto (tgt := 60) dX1_chooseMost_141 (by decide) ?_
            have eo : owP (σ 16, σ 17, σ 18, σ 19, σ 20) s f (i + 1 - f) = (if σ 17 s = 1 then 1000000 else 0) + sumF (pmP (σ 16, σ 17, σ 18, σ 19, σ 20) s) f (i - f) + pmP (σ 16, σ 17, σ 18, σ 19, σ 20) s i := by
              unfold owP
              rw [show i + 1 - f = (i - f) + 1 by omega, sumF_s _ _ (by omega), show f + (i - f) = i by omega]
              dsimp only
              by_cases qk : σ 17 s = 1
              · rw [if_pos ⟨by omega, qk⟩, if_pos qk]; omega
              · rw [if_neg (fun q => qk q.2), if_neg qk]; omega
            refine ih (by omega) (by omega) _ _ _ _ ⟨?_, by omega, by omega, ?_, by omega, by omega, ?_, ?_, ?_, ?_, ?_⟩
            · rw [show i + 1 - f = (i - f) + 1 by omega, sumF_s _ _ (by omega), show f + (i - f) = i by omega]; omega
            · rw [show i + 1 - f = (i - f) + 1 by omega, sumF_s _ _ (by omega), show f + (i - f) = i by omega]; omega
            · intro m m0 m1
              by_cases e : m = i + 1 - f
              · rw [e, eo, show f + (i + 1 - f) = i + 1 by omega]; omega
              · have := i7 m m0 (by omega); omega
            · omega
            · omega
            · first
              | (rw [eo, show f + (i + 1 - f) = i + 1 by omega]; omega)
              | exact i10
            · intro m m0 m1
              by_cases e : m = i + 1 - f
              · rw [e, eo, show f + (i + 1 - f) = i + 1 by omega]; omega
              · have := i11 m (by omega) (by omega); omega
          · refine w_iload dX1_chooseMost_119 rfl ?_
            refine w_aload_n dX1_chooseMost_121 rfl ?_
            refine w_iload dX1_chooseMost_122 rfl ?_
            refine w_iconst dX1_chooseMost_124 ?_
            refine w_iadd dX1_chooseMost_125 ?_
            refine w_iald (sh_least (by omega) (by omega)) (by omega) dX1_chooseMost_126 ?_
            refine w_iadd dX1_chooseMost_127 ?_
            refine w_istore dX1_chooseMost_128 (Nat.le_of_ble_eq_true rfl) ?_
            refine w_iload dX1_chooseMost_130 rfl ?_
            refine w_iconst dX1_chooseMost_132 ?_
            refine w_iadd dX1_chooseMost_133 ?_
            refine w_iload_n dX1_chooseMost_134 rfl ?_
            refine w_isub dX1_chooseMost_135 ?_
            refine w_istore dX1_chooseMost_136 (Nat.le_of_ble_eq_true rfl) ?_
            refine w_iinc dX1_chooseMost_138 (Nat.le_of_ble_eq_true rfl) rfl ?_
            refine w_goto (tgt := 60) dX1_chooseMost_141 (by decide) ?_
            have eo : owP (σ 16, σ 17, σ 18, σ 19, σ 20) s f (i + 1 - f) = (if σ 17 s = 1 then 1000000 else 0) + sumF (pmP (σ 16, σ 17, σ 18, σ 19, σ 20) s) f (i - f) + pmP (σ 16, σ 17, σ 18, σ 19, σ 20) s i := by
              unfold owP
              rw [show i + 1 - f = (i - f) + 1 by omega, sumF_s _ _ (by omega), show f + (i - f) = i by omega]
              dsimp only
              by_cases qk : σ 17 s = 1
              · rw [if_pos ⟨by omega, qk⟩, if_pos qk]; omega
              · rw [if_neg (fun q => qk q.2), if_neg qk]; omega
            refine ih (by omega) (by omega) _ _ _ _ ⟨?_, by omega, by omega, ?_, by omega, by omega, ?_, ?_, ?_, ?_, ?_⟩
            · rw [show i + 1 - f = (i - f) + 1 by omega, sumF_s _ _ (by omega), show f + (i - f) = i by omega]; omega
            · rw [show i + 1 - f = (i - f) + 1 by omega, sumF_s _ _ (by omega), show f + (i - f) = i by omega]; omega
            · intro m m0 m1
              by_cases e : m = i + 1 - f
              · rw [e, eo, show f + (i + 1 - f) = i + 1 by omega]; omega
              · have := i7 m m0 (by omega); omega
            · omega
            · omega
            · first
              | (rw [eo, show f + (i + 1 - f) = i + 1 by omega]; omega)
              | exact i10
            · intro m m0 m1
              by_cases e : m = i + 1 - f
              · rw [e, eo, show f + (i + 1 - f) = i + 1 by omega]; omega
              · have := i11 m (by omega) (by omega); omega
    · refine w_iconst dX1_chooseMost_45 ?_
      refine w_goto (tgt := 55) dX1_chooseMost_46 (by decide) ?_
      refine w_istore dX1_chooseMost_55 (Nat.le_of_ble_eq_true rfl) ?_
      refine w_iload_n dX1_chooseMost_57 rfl ?_
      refine w_istore dX1_chooseMost_58 (Nat.le_of_ble_eq_true rfl) ?_
      refine up_to (σ 1 10) (fun i => f ≤ i → ∀ v h w a, (a = rmP (σ 16, σ 17, σ 18, σ 19, σ 20) s - sumF (σ 19) f (i - f) ∧ 0 ≤ a ∧ a ≤ 200 ∧ w = (if σ 17 s = 1 then 1000000 else 0) + sumF (pmP (σ 16, σ 17, σ 18, σ 19, σ 20) s) f (i - f) ∧ 0 ≤ w ∧ w ≤ 1000000 + 4001 * (i - f) ∧ (∀ m, 0 ≤ m → m ≤ i - f → v ≤ owP (σ 16, σ 17, σ 18, σ 19, σ 20) s f m + (σ (22 + (s + 1).toNat)) (f + m)) ∧ 0 ≤ h ∧ h ≤ i - f ∧ v = owP (σ 16, σ 17, σ 18, σ 19, σ 20) s f h + (σ (22 + (s + 1).toNat)) (f + h) ∧ ∀ m, h < m → m ≤ i - f → v < owP (σ 16, σ 17, σ 18, σ 19, σ 20) s f m + (σ (22 + (s + 1).toNat)) (f + m)) → Wp mX1_chooseMost 1 (fun z τ => ∃ v m, IsMn (σ 16, σ 17, σ 18, σ 19, σ 20) (σ 1 10) (σ (22 + (s + 1).toNat)) s f v ∧ IsMost (σ 16, σ 17, σ 18, σ 19, σ 20) (σ 1 10) (σ (22 + (s + 1).toNat)) s f v m ∧ 0 ≤ v ∧ v ≤ 1000000000 ∧ τ = put (put σ (22 + s.toNat) f v) (36 + s.toNat) f m) 60 [some (.inr 1), some (.inl s), some (.inl f), some (.inr (22 + (s + 1).toNat)), some (.inl v), some (.inl h), some (.inl w), some (.inl a), some (.inl i)] [] σ) (fun i hi ih h0 v h w a hinv => ?_) (f) (by omega) (by omega) _ 0 _ _ ⟨?_, ?_, ?_, ?_, ?_, ?_, ?_, by omega, by omega, ?_, ?_⟩
      rotate_left 1
      · rw [Int.sub_self, sumF_0]; unfold rmP; dsimp only; first | rw [if_pos (by omega)]; omega | rw [if_neg (by omega)]; omega
      · have := hc.2.2.1 s hs.1 hs.2; dsimp only at this; omega
      · have := hc.2.2.1 s hs.1 hs.2; dsimp only at this; omega
      · rw [Int.sub_self, sumF_0]; first | (rw [if_pos (by omega)]; rfl) | (rw [if_neg (by omega)]; rfl)
      · omega
      · omega
      · intro m m0 m1
        rw [show m = 0 by omega, owP_0, Int.zero_add, Int.add_zero]; exact Int.le_refl _
      · rw [owP_0, Int.zero_add, Int.add_zero]
      · intro m m0 m1; omega
      obtain ⟨i1, i2, i3, i4, i5, i6, i7, i8, i9, i10, i11⟩ := hinv
      have hvb : 0 ≤ v ∧ v ≤ 1000000000 := by
        have a1 := i7 0 (by omega) (by omega)
        rw [owP_0, Int.zero_add, Int.add_zero] at a1
        have a2 := hrow f (by omega) (by omega)
        have a3 := hrow (f + h) (by omega) (by omega)
        have a4 := owP_bd hc s hf.1 i8 (by omega)
        omega
      refine w_iload dX1_chooseMost_60 rfl ?_
      refine w_aload_n dX1_chooseMost_62 rfl ?_
      refine gf_X1_55 rfl dX1_chooseMost_63 ?_
      refine w_icmp_ge (tgt := 144) dX1_chooseMost_66 (by decide) (by omega) (by omega) (fun c_66 => ?_) (fun c_66 => ?_)
      · refine w_aload_n dX1_chooseMost_144 rfl ?_
        refine gf_X1_35 rfl dX1_chooseMost_145 ?_
        refine w_iload_n dX1_chooseMost_148 rfl ?_
        refine w_aald rfl (by omega) dX1_chooseMost_149 ?_
        refine w_iload_n dX1_chooseMost_150 rfl ?_
        refine w_iload dX1_chooseMost_151 rfl ?_
        refine w_iast (sh_least (by omega) (by omega)) (by omega) (by omega) dX1_chooseMost_153 ?_
        refine w_aload_n dX1_chooseMost_154 rfl ?_
        refine gf_X1_38 rfl dX1_chooseMost_155 ?_
        refine w_iload_n dX1_chooseMost_158 rfl ?_
        refine w_aald rfl (by omega) dX1_chooseMost_159 ?_
        refine w_iload_n dX1_chooseMost_160 rfl ?_
        refine w_iload dX1_chooseMost_161 rfl ?_
        refine w_iast (sh_most (by omega) (by omega)) (by omega) (by omega) dX1_chooseMost_163 ?_
        refine w_ret dX1_chooseMost_164 rfl ?_
        have hfit : ∀ m, fitP (σ 16, σ 17, σ 18, σ 19, σ 20) (σ 1 10) s f m ↔ 0 ≤ m ∧ m ≤ i - f := by
          intro m
          constructor
          · intro hm
            refine ⟨hm.1, ?_⟩
            have m2 := hm.2.1
            by_cases q : m ≤ i - f
            · exact q
            · exfalso
              have hm3 := hm.2.2
              have hmo := sumF_mono (w := σ 19) (f := f) (n := σ 1 10) (fun k k1 k2 => by have := hc.2.2.2 k (by omega) k2; dsimp only at this; omega) (a := i - f + 1) (b := m) (by omega) (by omega) m2
              rw [sumF_s _ _ (by omega), show f + (i - f) = i by omega] at hmo
              dsimp only at hm3
              omega
          · intro hm
            refine ⟨hm.1, by omega, ?_⟩
            have hmo := sumF_mono (w := σ 19) (f := f) (n := σ 1 10) (fun k k1 k2 => by have := hc.2.2.2 k (by omega) k2; dsimp only at this; omega) (a := m) (b := i - f) hm.1 hm.2 (by omega)
            dsimp only
            omega
        refine ⟨v, h, ⟨fun m hm => i7 m ((hfit m).mp hm).1 ((hfit m).mp hm).2, h, (hfit h).mpr ⟨by omega, by omega⟩, i10⟩, ⟨(hfit h).mpr ⟨by omega, by omega⟩, i10, fun m m1 hm => ?_⟩, by omega, by omega, rfl⟩
        have := i11 m m1 ((hfit m).mp hm).2
        omega
      · refine w_aload_n dX1_chooseMost_69 rfl ?_
        refine gf_X1_27 rfl dX1_chooseMost_70 ?_
        refine w_iload dX1_chooseMost_73 rfl ?_
        refine w_iald rfl (by omega) dX1_chooseMost_75 ?_
        refine w_iload dX1_chooseMost_76 rfl ?_
        refine w_icmp_gt (tgt := 144) dX1_chooseMost_78 (by decide) (hR _ _) (by omega) (fun c_78 => ?_) (fun c_78 => ?_)
        · refine w_aload_n dX1_chooseMost_144 rfl ?_
          refine gf_X1_35 rfl dX1_chooseMost_145 ?_
          refine w_iload_n dX1_chooseMost_148 rfl ?_
          refine w_aald rfl (by omega) dX1_chooseMost_149 ?_
          refine w_iload_n dX1_chooseMost_150 rfl ?_
          refine w_iload dX1_chooseMost_151 rfl ?_
          refine w_iast (sh_least (by omega) (by omega)) (by omega) (by omega) dX1_chooseMost_153 ?_
          refine w_aload_n dX1_chooseMost_154 rfl ?_
          refine gf_X1_38 rfl dX1_chooseMost_155 ?_
          refine w_iload_n dX1_chooseMost_158 rfl ?_
          refine w_aald rfl (by omega) dX1_chooseMost_159 ?_
          refine w_iload_n dX1_chooseMost_160 rfl ?_
          refine w_iload dX1_chooseMost_161 rfl ?_
          refine w_iast (sh_most (by omega) (by omega)) (by omega) (by omega) dX1_chooseMost_163 ?_
          refine w_ret dX1_chooseMost_164 rfl ?_
          have hfit : ∀ m, fitP (σ 16, σ 17, σ 18, σ 19, σ 20) (σ 1 10) s f m ↔ 0 ≤ m ∧ m ≤ i - f := by
            intro m
            constructor
            · intro hm
              refine ⟨hm.1, ?_⟩
              have m2 := hm.2.1
              by_cases q : m ≤ i - f
              · exact q
              · exfalso
                have hm3 := hm.2.2
                have hmo := sumF_mono (w := σ 19) (f := f) (n := σ 1 10) (fun k k1 k2 => by have := hc.2.2.2 k (by omega) k2; dsimp only at this; omega) (a := i - f + 1) (b := m) (by omega) (by omega) m2
                rw [sumF_s _ _ (by omega), show f + (i - f) = i by omega] at hmo
                dsimp only at hm3
                omega
            · intro hm
              refine ⟨hm.1, by omega, ?_⟩
              have hmo := sumF_mono (w := σ 19) (f := f) (n := σ 1 10) (fun k k1 k2 => by have := hc.2.2.2 k (by omega) k2; dsimp only at this; omega) (a := m) (b := i - f) hm.1 hm.2 (by omega)
              dsimp only
              omega
          refine ⟨v, h, ⟨fun m hm => i7 m ((hfit m).mp hm).1 ((hfit m).mp hm).2, h, (hfit h).mpr ⟨by omega, by omega⟩, i10⟩, ⟨(hfit h).mpr ⟨by omega, by omega⟩, i10, fun m m1 hm => ?_⟩, by omega, by omega, rfl⟩
          have := i11 m m1 ((hfit m).mp hm).2
          omega
        · have hcb := hc.2.2.2 i (by omega) (by omega)
          dsimp only at hcb
          refine w_iload dX1_chooseMost_81 rfl ?_
          refine w_aload_n dX1_chooseMost_83 rfl ?_
          refine gf_X1_27 rfl dX1_chooseMost_84 ?_
          refine w_iload dX1_chooseMost_87 rfl ?_
          refine w_iald rfl (by omega) dX1_chooseMost_89 ?_
          refine w_isub dX1_chooseMost_90 ?_
          refine w_istore dX1_chooseMost_91 (Nat.le_of_ble_eq_true rfl) ?_
          refine w_iload dX1_chooseMost_93 rfl ?_
          refine w_aload_n dX1_chooseMost_95 rfl ?_
          refine w_iload dX1_chooseMost_96 rfl ?_
          refine w_iload_n dX1_chooseMost_98 rfl ?_
          refine cv_X1_85 rfl dX1_chooseMost_99 (Nat.le_of_ble_eq_true rfl) (Nat.le_of_ble_eq_true rfl) (Wp.mono (ct_X1_priceOfMove σ (σ 16) (σ 17) (σ 19) i s (by omega) (by omega)) (fun z_ τ_ hq_ => ?_))
          obtain ⟨hz_, hs_⟩ := hq_
          subst z_
          subst τ_
          have hpm := pmP_bd hc s (b := i) (by omega) (by omega)
          have hrw := hrow (i + 1) (by omega) (by omega)
          refine w_iadd dX1_chooseMost_102 ?_
          refine w_istore dX1_chooseMost_103 (Nat.le_of_ble_eq_true rfl) ?_
          refine w_iload dX1_chooseMost_105 rfl ?_
          refine w_aload_n dX1_chooseMost_107 rfl ?_
          refine w_iload dX1_chooseMost_108 rfl ?_
          refine w_iconst dX1_chooseMost_110 ?_
          refine w_iadd dX1_chooseMost_111 ?_
          refine w_iald (sh_least (by omega) (by omega)) (by omega) dX1_chooseMost_112 ?_
          refine w_iadd dX1_chooseMost_113 ?_
          refine w_iload dX1_chooseMost_114 rfl ?_
          refine w_icmp_gt (tgt := 138) dX1_chooseMost_116 (by decide) (by omega) (by omega) (fun c_116 => ?_) (fun c_116 => ?_)
          · refine w_iinc dX1_chooseMost_138 (Nat.le_of_ble_eq_true rfl) rfl ?_
            refine w_goto (tgt := 60) dX1_chooseMost_141 (by decide) ?_
            have eo : owP (σ 16, σ 17, σ 18, σ 19, σ 20) s f (i + 1 - f) = (if σ 17 s = 1 then 1000000 else 0) + sumF (pmP (σ 16, σ 17, σ 18, σ 19, σ 20) s) f (i - f) + pmP (σ 16, σ 17, σ 18, σ 19, σ 20) s i := by
              unfold owP
              rw [show i + 1 - f = (i - f) + 1 by omega, sumF_s _ _ (by omega), show f + (i - f) = i by omega]
              dsimp only
              by_cases qk : σ 17 s = 1
              · rw [if_pos ⟨by omega, qk⟩, if_pos qk]; omega
              · rw [if_neg (fun q => qk q.2), if_neg qk]; omega
            refine ih (by omega) (by omega) _ _ _ _ ⟨?_, by omega, by omega, ?_, by omega, by omega, ?_, ?_, ?_, ?_, ?_⟩
            · rw [show i + 1 - f = (i - f) + 1 by omega, sumF_s _ _ (by omega), show f + (i - f) = i by omega]; omega
            · rw [show i + 1 - f = (i - f) + 1 by omega, sumF_s _ _ (by omega), show f + (i - f) = i by omega]; omega
            · intro m m0 m1
              by_cases e : m = i + 1 - f
              · rw [e, eo, show f + (i + 1 - f) = i + 1 by omega]; omega
              · have := i7 m m0 (by omega); omega
            · omega
            · omega
            · first
              | (rw [eo, show f + (i + 1 - f) = i + 1 by omega]; omega)
              | exact i10
            · intro m m0 m1
              by_cases e : m = i + 1 - f
              · rw [e, eo, show f + (i + 1 - f) = i + 1 by omega]; omega
              · have := i11 m (by omega) (by omega); omega
          · refine w_iload dX1_chooseMost_119 rfl ?_
            refine w_aload_n dX1_chooseMost_121 rfl ?_
            refine w_iload dX1_chooseMost_122 rfl ?_
            refine w_iconst dX1_chooseMost_124 ?_
            refine w_iadd dX1_chooseMost_125 ?_
            refine w_iald (sh_least (by omega) (by omega)) (by omega) dX1_chooseMost_126 ?_
            refine w_iadd dX1_chooseMost_127 ?_
            refine w_istore dX1_chooseMost_128 (Nat.le_of_ble_eq_true rfl) ?_
            refine w_iload dX1_chooseMost_130 rfl ?_
            refine w_iconst dX1_chooseMost_132 ?_
            refine w_iadd dX1_chooseMost_133 ?_
            refine w_iload_n dX1_chooseMost_134 rfl ?_
            refine w_isub dX1_chooseMost_135 ?_
            refine w_istore dX1_chooseMost_136 (Nat.le_of_ble_eq_true rfl) ?_
            refine w_iinc dX1_chooseMost_138 (Nat.le_of_ble_eq_true rfl) rfl ?_
            refine w_goto (tgt := 60) dX1_chooseMost_141 (by decide) ?_
            have eo : owP (σ 16, σ 17, σ 18, σ 19, σ 20) s f (i + 1 - f) = (if σ 17 s = 1 then 1000000 else 0) + sumF (pmP (σ 16, σ 17, σ 18, σ 19, σ 20) s) f (i - f) + pmP (σ 16, σ 17, σ 18, σ 19, σ 20) s i := by
              unfold owP
              rw [show i + 1 - f = (i - f) + 1 by omega, sumF_s _ _ (by omega), show f + (i - f) = i by omega]
              dsimp only
              by_cases qk : σ 17 s = 1
              · rw [if_pos ⟨by omega, qk⟩, if_pos qk]; omega
              · rw [if_neg (fun q => qk q.2), if_neg qk]; omega
            refine ih (by omega) (by omega) _ _ _ _ ⟨?_, by omega, by omega, ?_, by omega, by omega, ?_, ?_, ?_, ?_, ?_⟩
            · rw [show i + 1 - f = (i - f) + 1 by omega, sumF_s _ _ (by omega), show f + (i - f) = i by omega]; omega
            · rw [show i + 1 - f = (i - f) + 1 by omega, sumF_s _ _ (by omega), show f + (i - f) = i by omega]; omega
            · intro m m0 m1
              by_cases e : m = i + 1 - f
              · rw [e, eo, show f + (i + 1 - f) = i + 1 by omega]; omega
              · have := i7 m m0 (by omega); omega
            · omega
            · omega
            · first
              | (rw [eo, show f + (i + 1 - f) = i + 1 by omega]; omega)
              | exact i10
            · intro m m0 m1
              by_cases e : m = i + 1 - f
              · rw [e, eo, show f + (i + 1 - f) = i + 1 by omega]; omega
              · have := i11 m (by omega) (by omega); omega
  · refine w_ldc (n := 1000000) dX1_chooseMost_27 tw_373 ?_
    refine w_goto (tgt := 33) dX1_chooseMost_29 (by decide) ?_
    refine w_istore dX1_chooseMost_33 (Nat.le_of_ble_eq_true rfl) ?_
    refine w_aload_n dX1_chooseMost_35 rfl ?_
    refine gf_X1_21 rfl dX1_chooseMost_36 ?_
    refine w_iload_n dX1_chooseMost_39 rfl ?_
    refine w_iald rfl (by omega) dX1_chooseMost_40 ?_
    refine w_iconst dX1_chooseMost_41 ?_
    refine w_icmp_ne (tgt := 49) dX1_chooseMost_42 (by decide) (hR _ _) (by omega) (fun c_42 => ?_) (fun c_42 => ?_)
    · refine w_aload_n dX1_chooseMost_49 rfl ?_
      refine gf_X1_18 rfl dX1_chooseMost_50 ?_
      refine w_iload_n dX1_chooseMost_53 rfl ?_
      refine w_iald rfl (by omega) dX1_chooseMost_54 ?_
      refine w_istore dX1_chooseMost_55 (Nat.le_of_ble_eq_true rfl) ?_
      refine w_iload_n dX1_chooseMost_57 rfl ?_
      refine w_istore dX1_chooseMost_58 (Nat.le_of_ble_eq_true rfl) ?_
      refine up_to (σ 1 10) (fun i => f ≤ i → ∀ v h w a, (a = rmP (σ 16, σ 17, σ 18, σ 19, σ 20) s - sumF (σ 19) f (i - f) ∧ 0 ≤ a ∧ a ≤ 200 ∧ w = (if σ 17 s = 1 then 1000000 else 0) + sumF (pmP (σ 16, σ 17, σ 18, σ 19, σ 20) s) f (i - f) ∧ 0 ≤ w ∧ w ≤ 1000000 + 4001 * (i - f) ∧ (∀ m, 0 ≤ m → m ≤ i - f → v ≤ owP (σ 16, σ 17, σ 18, σ 19, σ 20) s f m + (σ (22 + (s + 1).toNat)) (f + m)) ∧ 0 ≤ h ∧ h ≤ i - f ∧ v = owP (σ 16, σ 17, σ 18, σ 19, σ 20) s f h + (σ (22 + (s + 1).toNat)) (f + h) ∧ ∀ m, h < m → m ≤ i - f → v < owP (σ 16, σ 17, σ 18, σ 19, σ 20) s f m + (σ (22 + (s + 1).toNat)) (f + m)) → Wp mX1_chooseMost 1 (fun z τ => ∃ v m, IsMn (σ 16, σ 17, σ 18, σ 19, σ 20) (σ 1 10) (σ (22 + (s + 1).toNat)) s f v ∧ IsMost (σ 16, σ 17, σ 18, σ 19, σ 20) (σ 1 10) (σ (22 + (s + 1).toNat)) s f v m ∧ 0 ≤ v ∧ v ≤ 1000000000 ∧ τ = put (put σ (22 + s.toNat) f v) (36 + s.toNat) f m) 60 [some (.inr 1), some (.inl s), some (.inl f), some (.inr (22 + (s + 1).toNat)), some (.inl v), some (.inl h), some (.inl w), some (.inl a), some (.inl i)] [] σ) (fun i hi ih h0 v h w a hinv => ?_) (f) (by omega) (by omega) _ 0 _ _ ⟨?_, ?_, ?_, ?_, ?_, ?_, ?_, by omega, by omega, ?_, ?_⟩
      rotate_left 1
      · rw [Int.sub_self, sumF_0]; unfold rmP; dsimp only; first | rw [if_pos (by omega)]; omega | rw [if_neg (by omega)]; omega
      · have := hc.2.2.1 s hs.1 hs.2; dsimp only at this; omega
      · have := hc.2.2.1 s hs.1 hs.2; dsimp only at this; omega
      · rw [Int.sub_self, sumF_0]; first | (rw [if_pos (by omega)]; rfl) | (rw [if_neg (by omega)]; rfl)
      · omega
      · omega
      · intro m m0 m1
        rw [show m = 0 by omega, owP_0, Int.zero_add, Int.add_zero]; exact Int.le_refl _
      · rw [owP_0, Int.zero_add, Int.add_zero]
      · intro m m0 m1; omega
      obtain ⟨i1, i2, i3, i4, i5, i6, i7, i8, i9, i10, i11⟩ := hinv
      have hvb : 0 ≤ v ∧ v ≤ 1000000000 := by
        have a1 := i7 0 (by omega) (by omega)
        rw [owP_0, Int.zero_add, Int.add_zero] at a1
        have a2 := hrow f (by omega) (by omega)
        have a3 := hrow (f + h) (by omega) (by omega)
        have a4 := owP_bd hc s hf.1 i8 (by omega)
        omega
      refine w_iload dX1_chooseMost_60 rfl ?_
      refine w_aload_n dX1_chooseMost_62 rfl ?_
      refine gf_X1_55 rfl dX1_chooseMost_63 ?_
      refine w_icmp_ge (tgt := 144) dX1_chooseMost_66 (by decide) (by omega) (by omega) (fun c_66 => ?_) (fun c_66 => ?_)
      · refine w_aload_n dX1_chooseMost_144 rfl ?_
        refine gf_X1_35 rfl dX1_chooseMost_145 ?_
        refine w_iload_n dX1_chooseMost_148 rfl ?_
        refine w_aald rfl (by omega) dX1_chooseMost_149 ?_
        refine w_iload_n dX1_chooseMost_150 rfl ?_
        refine w_iload dX1_chooseMost_151 rfl ?_
        refine w_iast (sh_least (by omega) (by omega)) (by omega) (by omega) dX1_chooseMost_153 ?_
        refine w_aload_n dX1_chooseMost_154 rfl ?_
        refine gf_X1_38 rfl dX1_chooseMost_155 ?_
        refine w_iload_n dX1_chooseMost_158 rfl ?_
        refine w_aald rfl (by omega) dX1_chooseMost_159 ?_
        refine w_iload_n dX1_chooseMost_160 rfl ?_
        refine w_iload dX1_chooseMost_161 rfl ?_
        refine w_iast (sh_most (by omega) (by omega)) (by omega) (by omega) dX1_chooseMost_163 ?_
        refine w_ret dX1_chooseMost_164 rfl ?_
        have hfit : ∀ m, fitP (σ 16, σ 17, σ 18, σ 19, σ 20) (σ 1 10) s f m ↔ 0 ≤ m ∧ m ≤ i - f := by
          intro m
          constructor
          · intro hm
            refine ⟨hm.1, ?_⟩
            have m2 := hm.2.1
            by_cases q : m ≤ i - f
            · exact q
            · exfalso
              have hm3 := hm.2.2
              have hmo := sumF_mono (w := σ 19) (f := f) (n := σ 1 10) (fun k k1 k2 => by have := hc.2.2.2 k (by omega) k2; dsimp only at this; omega) (a := i - f + 1) (b := m) (by omega) (by omega) m2
              rw [sumF_s _ _ (by omega), show f + (i - f) = i by omega] at hmo
              dsimp only at hm3
              omega
          · intro hm
            refine ⟨hm.1, by omega, ?_⟩
            have hmo := sumF_mono (w := σ 19) (f := f) (n := σ 1 10) (fun k k1 k2 => by have := hc.2.2.2 k (by omega) k2; dsimp only at this; omega) (a := m) (b := i - f) hm.1 hm.2 (by omega)
            dsimp only
            omega
        refine ⟨v, h, ⟨fun m hm => i7 m ((hfit m).mp hm).1 ((hfit m).mp hm).2, h, (hfit h).mpr ⟨by omega, by omega⟩, i10⟩, ⟨(hfit h).mpr ⟨by omega, by omega⟩, i10, fun m m1 hm => ?_⟩, by omega, by omega, rfl⟩
        have := i11 m m1 ((hfit m).mp hm).2
        omega
      · refine w_aload_n dX1_chooseMost_69 rfl ?_
        refine gf_X1_27 rfl dX1_chooseMost_70 ?_
        refine w_iload dX1_chooseMost_73 rfl ?_
        refine w_iald rfl (by omega) dX1_chooseMost_75 ?_
        refine w_iload dX1_chooseMost_76 rfl ?_
        refine w_icmp_gt (tgt := 144) dX1_chooseMost_78 (by decide) (hR _ _) (by omega) (fun c_78 => ?_) (fun c_78 => ?_)
        · refine w_aload_n dX1_chooseMost_144 rfl ?_
          refine gf_X1_35 rfl dX1_chooseMost_145 ?_
          refine w_iload_n dX1_chooseMost_148 rfl ?_
          refine w_aald rfl (by omega) dX1_chooseMost_149 ?_
          refine w_iload_n dX1_chooseMost_150 rfl ?_
          refine w_iload dX1_chooseMost_151 rfl ?_
          refine w_iast (sh_least (by omega) (by omega)) (by omega) (by omega) dX1_chooseMost_153 ?_
          refine w_aload_n dX1_chooseMost_154 rfl ?_
          refine gf_X1_38 rfl dX1_chooseMost_155 ?_
          refine w_iload_n dX1_chooseMost_158 rfl ?_
          refine w_aald rfl (by omega) dX1_chooseMost_159 ?_
          refine w_iload_n dX1_chooseMost_160 rfl ?_
          refine w_iload dX1_chooseMost_161 rfl ?_
          refine w_iast (sh_most (by omega) (by omega)) (by omega) (by omega) dX1_chooseMost_163 ?_
          refine w_ret dX1_chooseMost_164 rfl ?_
          have hfit : ∀ m, fitP (σ 16, σ 17, σ 18, σ 19, σ 20) (σ 1 10) s f m ↔ 0 ≤ m ∧ m ≤ i - f := by
            intro m
            constructor
            · intro hm
              refine ⟨hm.1, ?_⟩
              have m2 := hm.2.1
              by_cases q : m ≤ i - f
              · exact q
              · exfalso
                have hm3 := hm.2.2
                have hmo := sumF_mono (w := σ 19) (f := f) (n := σ 1 10) (fun k k1 k2 => by have := hc.2.2.2 k (by omega) k2; dsimp only at this; omega) (a := i - f + 1) (b := m) (by omega) (by omega) m2
                rw [sumF_s _ _ (by omega), show f + (i - f) = i by omega] at hmo
                dsimp only at hm3
                omega
            · intro hm
              refine ⟨hm.1, by omega, ?_⟩
              have hmo := sumF_mono (w := σ 19) (f := f) (n := σ 1 10) (fun k k1 k2 => by have := hc.2.2.2 k (by omega) k2; dsimp only at this; omega) (a := m) (b := i - f) hm.1 hm.2 (by omega)
              dsimp only
              omega
          refine ⟨v, h, ⟨fun m hm => i7 m ((hfit m).mp hm).1 ((hfit m).mp hm).2, h, (hfit h).mpr ⟨by omega, by omega⟩, i10⟩, ⟨(hfit h).mpr ⟨by omega, by omega⟩, i10, fun m m1 hm => ?_⟩, by omega, by omega, rfl⟩
          have := i11 m m1 ((hfit m).mp hm).2
          omega
        · have hcb := hc.2.2.2 i (by omega) (by omega)
          dsimp only at hcb
          refine w_iload dX1_chooseMost_81 rfl ?_
          refine w_aload_n dX1_chooseMost_83 rfl ?_
          refine gf_X1_27 rfl dX1_chooseMost_84 ?_
          refine w_iload dX1_chooseMost_87 rfl ?_
          refine w_iald rfl (by omega) dX1_chooseMost_89 ?_
          refine w_isub dX1_chooseMost_90 ?_
          refine w_istore dX1_chooseMost_91 (Nat.le_of_ble_eq_true rfl) ?_
          refine w_iload dX1_chooseMost_93 rfl ?_
          refine w_aload_n dX1_chooseMost_95 rfl ?_
          refine w_iload dX1_chooseMost_96 rfl ?_
          refine w_iload_n dX1_chooseMost_98 rfl ?_
          refine cv_X1_85 rfl dX1_chooseMost_99 (Nat.le_of_ble_eq_true rfl) (Nat.le_of_ble_eq_true rfl) (Wp.mono (ct_X1_priceOfMove σ (σ 16) (σ 17) (σ 19) i s (by omega) (by omega)) (fun z_ τ_ hq_ => ?_))
          obtain ⟨hz_, hs_⟩ := hq_
          subst z_
          subst τ_
          have hpm := pmP_bd hc s (b := i) (by omega) (by omega)
          have hrw := hrow (i + 1) (by omega) (by omega)
          refine w_iadd dX1_chooseMost_102 ?_
          refine w_istore dX1_chooseMost_103 (Nat.le_of_ble_eq_true rfl) ?_
          refine w_iload dX1_chooseMost_105 rfl ?_
          refine w_aload_n dX1_chooseMost_107 rfl ?_
          refine w_iload dX1_chooseMost_108 rfl ?_
          refine w_iconst dX1_chooseMost_110 ?_
          refine w_iadd dX1_chooseMost_111 ?_
          refine w_iald (sh_least (by omega) (by omega)) (by omega) dX1_chooseMost_112 ?_
          refine w_iadd dX1_chooseMost_113 ?_
          refine w_iload dX1_chooseMost_114 rfl ?_
          refine w_icmp_gt (tgt := 138) dX1_chooseMost_116 (by decide) (by omega) (by omega) (fun c_116 => ?_) (fun c_116 => ?_)
          · refine w_iinc dX1_chooseMost_138 (Nat.le_of_ble_eq_true rfl) rfl ?_
            refine w_goto (tgt := 60) dX1_chooseMost_141 (by decide) ?_
            have eo : owP (σ 16, σ 17, σ 18, σ 19, σ 20) s f (i + 1 - f) = (if σ 17 s = 1 then 1000000 else 0) + sumF (pmP (σ 16, σ 17, σ 18, σ 19, σ 20) s) f (i - f) + pmP (σ 16, σ 17, σ 18, σ 19, σ 20) s i := by
              unfold owP
              rw [show i + 1 - f = (i - f) + 1 by omega, sumF_s _ _ (by omega), show f + (i - f) = i by omega]
              dsimp only
              by_cases qk : σ 17 s = 1
              · rw [if_pos ⟨by omega, qk⟩, if_pos qk]; omega
              · rw [if_neg (fun q => qk q.2), if_neg qk]; omega
            refine ih (by omega) (by omega) _ _ _ _ ⟨?_, by omega, by omega, ?_, by omega, by omega, ?_, ?_, ?_, ?_, ?_⟩
            · rw [show i + 1 - f = (i - f) + 1 by omega, sumF_s _ _ (by omega), show f + (i - f) = i by omega]; omega
            · rw [show i + 1 - f = (i - f) + 1 by omega, sumF_s _ _ (by omega), show f + (i - f) = i by omega]; omega
            · intro m m0 m1
              by_cases e : m = i + 1 - f
              · rw [e, eo, show f + (i + 1 - f) = i + 1 by omega]; omega
              · have := i7 m m0 (by omega); omega
            · omega
            · omega
            · first
              | (rw [eo, show f + (i + 1 - f) = i + 1 by omega]; omega)
              | exact i10
            · intro m m0 m1
              by_cases e : m = i + 1 - f
              · rw [e, eo, show f + (i + 1 - f) = i + 1 by omega]; omega
              · have := i11 m (by omega) (by omega); omega
          · refine w_iload dX1_chooseMost_119 rfl ?_
            refine w_aload_n dX1_chooseMost_121 rfl ?_
            refine w_iload dX1_chooseMost_122 rfl ?_
            refine w_iconst dX1_chooseMost_124 ?_
            refine w_iadd dX1_chooseMost_125 ?_
            refine w_iald (sh_least (by omega) (by omega)) (by omega) dX1_chooseMost_126 ?_
            refine w_iadd dX1_chooseMost_127 ?_
            refine w_istore dX1_chooseMost_128 (Nat.le_of_ble_eq_true rfl) ?_
            refine w_iload dX1_chooseMost_130 rfl ?_
            refine w_iconst dX1_chooseMost_132 ?_
            refine w_iadd dX1_chooseMost_133 ?_
            refine w_iload_n dX1_chooseMost_134 rfl ?_
            refine w_isub dX1_chooseMost_135 ?_
            refine w_istore dX1_chooseMost_136 (Nat.le_of_ble_eq_true rfl) ?_
            refine w_iinc dX1_chooseMost_138 (Nat.le_of_ble_eq_true rfl) rfl ?_
            refine w_goto (tgt := 60) dX1_chooseMost_141 (by decide) ?_
            have eo : owP (σ 16, σ 17, σ 18, σ 19, σ 20) s f (i + 1 - f) = (if σ 17 s = 1 then 1000000 else 0) + sumF (pmP (σ 16, σ 17, σ 18, σ 19, σ 20) s) f (i - f) + pmP (σ 16, σ 17, σ 18, σ 19, σ 20) s i := by
              unfold owP
              rw [show i + 1 - f = (i - f) + 1 by omega, sumF_s _ _ (by omega), show f + (i - f) = i by omega]
              dsimp only
              by_cases qk : σ 17 s = 1
              · rw [if_pos ⟨by omega, qk⟩, if_pos qk]; omega
              · rw [if_neg (fun q => qk q.2), if_neg qk]; omega
            refine ih (by omega) (by omega) _ _ _ _ ⟨?_, by omega, by omega, ?_, by omega, by omega, ?_, ?_, ?_, ?_, ?_⟩
            · rw [show i + 1 - f = (i - f) + 1 by omega, sumF_s _ _ (by omega), show f + (i - f) = i by omega]; omega
            · rw [show i + 1 - f = (i - f) + 1 by omega, sumF_s _ _ (by omega), show f + (i - f) = i by omega]; omega
            · intro m m0 m1
              by_cases e : m = i + 1 - f
              · rw [e, eo, show f + (i + 1 - f) = i + 1 by omega]; omega
              · have := i7 m m0 (by omega); omega
            · omega
            · omega
            · first
              | (rw [eo, show f + (i + 1 - f) = i + 1 by omega]; omega)
              | exact i10
            · intro m m0 m1
              by_cases e : m = i + 1 - f
              · rw [e, eo, show f + (i + 1 - f) = i + 1 by omega]; omega
              · have := i11 m (by omega) (by omega); omega
    · refine w_iconst dX1_chooseMost_45 ?_
      refine w_goto (tgt := 55) dX1_chooseMost_46 (by decide) ?_
      refine w_istore dX1_chooseMost_55 (Nat.le_of_ble_eq_true rfl) ?_
      refine w_iload_n dX1_chooseMost_57 rfl ?_
      refine w_istore dX1_chooseMost_58 (Nat.le_of_ble_eq_true rfl) ?_
      refine up_to (σ 1 10) (fun i => f ≤ i → ∀ v h w a, (a = rmP (σ 16, σ 17, σ 18, σ 19, σ 20) s - sumF (σ 19) f (i - f) ∧ 0 ≤ a ∧ a ≤ 200 ∧ w = (if σ 17 s = 1 then 1000000 else 0) + sumF (pmP (σ 16, σ 17, σ 18, σ 19, σ 20) s) f (i - f) ∧ 0 ≤ w ∧ w ≤ 1000000 + 4001 * (i - f) ∧ (∀ m, 0 ≤ m → m ≤ i - f → v ≤ owP (σ 16, σ 17, σ 18, σ 19, σ 20) s f m + (σ (22 + (s + 1).toNat)) (f + m)) ∧ 0 ≤ h ∧ h ≤ i - f ∧ v = owP (σ 16, σ 17, σ 18, σ 19, σ 20) s f h + (σ (22 + (s + 1).toNat)) (f + h) ∧ ∀ m, h < m → m ≤ i - f → v < owP (σ 16, σ 17, σ 18, σ 19, σ 20) s f m + (σ (22 + (s + 1).toNat)) (f + m)) → Wp mX1_chooseMost 1 (fun z τ => ∃ v m, IsMn (σ 16, σ 17, σ 18, σ 19, σ 20) (σ 1 10) (σ (22 + (s + 1).toNat)) s f v ∧ IsMost (σ 16, σ 17, σ 18, σ 19, σ 20) (σ 1 10) (σ (22 + (s + 1).toNat)) s f v m ∧ 0 ≤ v ∧ v ≤ 1000000000 ∧ τ = put (put σ (22 + s.toNat) f v) (36 + s.toNat) f m) 60 [some (.inr 1), some (.inl s), some (.inl f), some (.inr (22 + (s + 1).toNat)), some (.inl v), some (.inl h), some (.inl w), some (.inl a), some (.inl i)] [] σ) (fun i hi ih h0 v h w a hinv => ?_) (f) (by omega) (by omega) _ 0 _ _ ⟨?_, ?_, ?_, ?_, ?_, ?_, ?_, by omega, by omega, ?_, ?_⟩
      rotate_left 1
      · rw [Int.sub_self, sumF_0]; unfold rmP; dsimp only; first | rw [if_pos (by omega)]; omega | rw [if_neg (by omega)]; omega
      · have := hc.2.2.1 s hs.1 hs.2; dsimp only at this; omega
      · have := hc.2.2.1 s hs.1 hs.2; dsimp only at this; omega
      · rw [Int.sub_self, sumF_0]; first | (rw [if_pos (by omega)]; rfl) | (rw [if_neg (by omega)]; rfl)
      · omega
      · omega
      · intro m m0 m1
        rw [show m = 0 by omega, owP_0, Int.zero_add, Int.add_zero]; exact Int.le_refl _
      · rw [owP_0, Int.zero_add, Int.add_zero]
      · intro m m0 m1; omega
      obtain ⟨i1, i2, i3, i4, i5, i6, i7, i8, i9, i10, i11⟩ := hinv
      have hvb : 0 ≤ v ∧ v ≤ 1000000000 := by
        have a1 := i7 0 (by omega) (by omega)
        rw [owP_0, Int.zero_add, Int.add_zero] at a1
        have a2 := hrow f (by omega) (by omega)
        have a3 := hrow (f + h) (by omega) (by omega)
        have a4 := owP_bd hc s hf.1 i8 (by omega)
        omega
      refine w_iload dX1_chooseMost_60 rfl ?_
      refine w_aload_n dX1_chooseMost_62 rfl ?_
      refine gf_X1_55 rfl dX1_chooseMost_63 ?_
      refine w_icmp_ge (tgt := 144) dX1_chooseMost_66 (by decide) (by omega) (by omega) (fun c_66 => ?_) (fun c_66 => ?_)
      · refine w_aload_n dX1_chooseMost_144 rfl ?_
        refine gf_X1_35 rfl dX1_chooseMost_145 ?_
        refine w_iload_n dX1_chooseMost_148 rfl ?_
        refine w_aald rfl (by omega) dX1_chooseMost_149 ?_
        refine w_iload_n dX1_chooseMost_150 rfl ?_
        refine w_iload dX1_chooseMost_151 rfl ?_
        refine w_iast (sh_least (by omega) (by omega)) (by omega) (by omega) dX1_chooseMost_153 ?_
        refine w_aload_n dX1_chooseMost_154 rfl ?_
        refine gf_X1_38 rfl dX1_chooseMost_155 ?_
        refine w_iload_n dX1_chooseMost_158 rfl ?_
        refine w_aald rfl (by omega) dX1_chooseMost_159 ?_
        refine w_iload_n dX1_chooseMost_160 rfl ?_
        refine w_iload dX1_chooseMost_161 rfl ?_
        refine w_iast (sh_most (by omega) (by omega)) (by omega) (by omega) dX1_chooseMost_163 ?_
        refine w_ret dX1_chooseMost_164 rfl ?_
        have hfit : ∀ m, fitP (σ 16, σ 17, σ 18, σ 19, σ 20) (σ 1 10) s f m ↔ 0 ≤ m ∧ m ≤ i - f := by
          intro m
          constructor
          · intro hm
            refine ⟨hm.1, ?_⟩
            have m2 := hm.2.1
            by_cases q : m ≤ i - f
            · exact q
            · exfalso
              have hm3 := hm.2.2
              have hmo := sumF_mono (w := σ 19) (f := f) (n := σ 1 10) (fun k k1 k2 => by have := hc.2.2.2 k (by omega) k2; dsimp only at this; omega) (a := i - f + 1) (b := m) (by omega) (by omega) m2
              rw [sumF_s _ _ (by omega), show f + (i - f) = i by omega] at hmo
              dsimp only at hm3
              omega
          · intro hm
            refine ⟨hm.1, by omega, ?_⟩
            have hmo := sumF_mono (w := σ 19) (f := f) (n := σ 1 10) (fun k k1 k2 => by have := hc.2.2.2 k (by omega) k2; dsimp only at this; omega) (a := m) (b := i - f) hm.1 hm.2 (by omega)
            dsimp only
            omega
        refine ⟨v, h, ⟨fun m hm => i7 m ((hfit m).mp hm).1 ((hfit m).mp hm).2, h, (hfit h).mpr ⟨by omega, by omega⟩, i10⟩, ⟨(hfit h).mpr ⟨by omega, by omega⟩, i10, fun m m1 hm => ?_⟩, by omega, by omega, rfl⟩
        have := i11 m m1 ((hfit m).mp hm).2
        omega
      · refine w_aload_n dX1_chooseMost_69 rfl ?_
        refine gf_X1_27 rfl dX1_chooseMost_70 ?_
        refine w_iload dX1_chooseMost_73 rfl ?_
        refine w_iald rfl (by omega) dX1_chooseMost_75 ?_
        refine w_iload dX1_chooseMost_76 rfl ?_
        refine w_icmp_gt (tgt := 144) dX1_chooseMost_78 (by decide) (hR _ _) (by omega) (fun c_78 => ?_) (fun c_78 => ?_)
        · refine w_aload_n dX1_chooseMost_144 rfl ?_
          refine gf_X1_35 rfl dX1_chooseMost_145 ?_
          refine w_iload_n dX1_chooseMost_148 rfl ?_
          refine w_aald rfl (by omega) dX1_chooseMost_149 ?_
          refine w_iload_n dX1_chooseMost_150 rfl ?_
          refine w_iload dX1_chooseMost_151 rfl ?_
          refine w_iast (sh_least (by omega) (by omega)) (by omega) (by omega) dX1_chooseMost_153 ?_
          refine w_aload_n dX1_chooseMost_154 rfl ?_
          refine gf_X1_38 rfl dX1_chooseMost_155 ?_
          refine w_iload_n dX1_chooseMost_158 rfl ?_
          refine w_aald rfl (by omega) dX1_chooseMost_159 ?_
          refine w_iload_n dX1_chooseMost_160 rfl ?_
          refine w_iload dX1_chooseMost_161 rfl ?_
          refine w_iast (sh_most (by omega) (by omega)) (by omega) (by omega) dX1_chooseMost_163 ?_
          refine w_ret dX1_chooseMost_164 rfl ?_
          have hfit : ∀ m, fitP (σ 16, σ 17, σ 18, σ 19, σ 20) (σ 1 10) s f m ↔ 0 ≤ m ∧ m ≤ i - f := by
            intro m
            constructor
            · intro hm
              refine ⟨hm.1, ?_⟩
              have m2 := hm.2.1
              by_cases q : m ≤ i - f
              · exact q
              · exfalso
                have hm3 := hm.2.2
                have hmo := sumF_mono (w := σ 19) (f := f) (n := σ 1 10) (fun k k1 k2 => by have := hc.2.2.2 k (by omega) k2; dsimp only at this; omega) (a := i - f + 1) (b := m) (by omega) (by omega) m2
                rw [sumF_s _ _ (by omega), show f + (i - f) = i by omega] at hmo
                dsimp only at hm3
                omega
            · intro hm
              refine ⟨hm.1, by omega, ?_⟩
              have hmo := sumF_mono (w := σ 19) (f := f) (n := σ 1 10) (fun k k1 k2 => by have := hc.2.2.2 k (by omega) k2; dsimp only at this; omega) (a := m) (b := i - f) hm.1 hm.2 (by omega)
              dsimp only
              omega
          refine ⟨v, h, ⟨fun m hm => i7 m ((hfit m).mp hm).1 ((hfit m).mp hm).2, h, (hfit h).mpr ⟨by omega, by omega⟩, i10⟩, ⟨(hfit h).mpr ⟨by omega, by omega⟩, i10, fun m m1 hm => ?_⟩, by omega, by omega, rfl⟩
          have := i11 m m1 ((hfit m).mp hm).2
          omega
        · have hcb := hc.2.2.2 i (by omega) (by omega)
          dsimp only at hcb
          refine w_iload dX1_chooseMost_81 rfl ?_
          refine w_aload_n dX1_chooseMost_83 rfl ?_
          refine gf_X1_27 rfl dX1_chooseMost_84 ?_
          refine w_iload dX1_chooseMost_87 rfl ?_
          refine w_iald rfl (by omega) dX1_chooseMost_89 ?_
          refine w_isub dX1_chooseMost_90 ?_
          refine w_istore dX1_chooseMost_91 (Nat.le_of_ble_eq_true rfl) ?_
          refine w_iload dX1_chooseMost_93 rfl ?_
          refine w_aload_n dX1_chooseMost_95 rfl ?_
          refine w_iload dX1_chooseMost_96 rfl ?_
          refine w_iload_n dX1_chooseMost_98 rfl ?_
          refine cv_X1_85 rfl dX1_chooseMost_99 (Nat.le_of_ble_eq_true rfl) (Nat.le_of_ble_eq_true rfl) (Wp.mono (ct_X1_priceOfMove σ (σ 16) (σ 17) (σ 19) i s (by omega) (by omega)) (fun z_ τ_ hq_ => ?_))
          obtain ⟨hz_, hs_⟩ := hq_
          subst z_
          subst τ_
          have hpm := pmP_bd hc s (b := i) (by omega) (by omega)
          have hrw := hrow (i + 1) (by omega) (by omega)
          refine w_iadd dX1_chooseMost_102 ?_
          refine w_istore dX1_chooseMost_103 (Nat.le_of_ble_eq_true rfl) ?_
          refine w_iload dX1_chooseMost_105 rfl ?_
          refine w_aload_n dX1_chooseMost_107 rfl ?_
          refine w_iload dX1_chooseMost_108 rfl ?_
          refine w_iconst dX1_chooseMost_110 ?_
          refine w_iadd dX1_chooseMost_111 ?_
          refine w_iald (sh_least (by omega) (by omega)) (by omega) dX1_chooseMost_112 ?_
          refine w_iadd dX1_chooseMost_113 ?_
          refine w_iload dX1_chooseMost_114 rfl ?_
          refine w_icmp_gt (tgt := 138) dX1_chooseMost_116 (by decide) (by omega) (by omega) (fun c_116 => ?_) (fun c_116 => ?_)
          · refine w_iinc dX1_chooseMost_138 (Nat.le_of_ble_eq_true rfl) rfl ?_
            refine w_goto (tgt := 60) dX1_chooseMost_141 (by decide) ?_
            have eo : owP (σ 16, σ 17, σ 18, σ 19, σ 20) s f (i + 1 - f) = (if σ 17 s = 1 then 1000000 else 0) + sumF (pmP (σ 16, σ 17, σ 18, σ 19, σ 20) s) f (i - f) + pmP (σ 16, σ 17, σ 18, σ 19, σ 20) s i := by
              unfold owP
              rw [show i + 1 - f = (i - f) + 1 by omega, sumF_s _ _ (by omega), show f + (i - f) = i by omega]
              dsimp only
              by_cases qk : σ 17 s = 1
              · rw [if_pos ⟨by omega, qk⟩, if_pos qk]; omega
              · rw [if_neg (fun q => qk q.2), if_neg qk]; omega
            refine ih (by omega) (by omega) _ _ _ _ ⟨?_, by omega, by omega, ?_, by omega, by omega, ?_, ?_, ?_, ?_, ?_⟩
            · rw [show i + 1 - f = (i - f) + 1 by omega, sumF_s _ _ (by omega), show f + (i - f) = i by omega]; omega
            · rw [show i + 1 - f = (i - f) + 1 by omega, sumF_s _ _ (by omega), show f + (i - f) = i by omega]; omega
            · intro m m0 m1
              by_cases e : m = i + 1 - f
              · rw [e, eo, show f + (i + 1 - f) = i + 1 by omega]; omega
              · have := i7 m m0 (by omega); omega
            · omega
            · omega
            · first
              | (rw [eo, show f + (i + 1 - f) = i + 1 by omega]; omega)
              | exact i10
            · intro m m0 m1
              by_cases e : m = i + 1 - f
              · rw [e, eo, show f + (i + 1 - f) = i + 1 by omega]; omega
              · have := i11 m (by omega) (by omega); omega
          · refine w_iload dX1_chooseMost_119 rfl ?_
            refine w_aload_n dX1_chooseMost_121 rfl ?_
            refine w_iload dX1_chooseMost_122 rfl ?_
            refine w_iconst dX1_chooseMost_124 ?_
            refine w_iadd dX1_chooseMost_125 ?_
            refine w_iald (sh_least (by omega) (by omega)) (by omega) dX1_chooseMost_126 ?_
            refine w_iadd dX1_chooseMost_127 ?_
            refine w_istore dX1_chooseMost_128 (Nat.le_of_ble_eq_true rfl) ?_
            refine w_iload dX1_chooseMost_130 rfl ?_
            refine w_iconst dX1_chooseMost_132 ?_
            refine w_iadd dX1_chooseMost_133 ?_
            refine w_iload_n dX1_chooseMost_134 rfl ?_
            refine w_isub dX1_chooseMost_135 ?_
            refine w_istore dX1_chooseMost_136 (Nat.le_of_ble_eq_true rfl) ?_
            refine w_iinc dX1_chooseMost_138 (Nat.le_of_ble_eq_true rfl) rfl ?_
            refine w_goto (tgt := 60) dX1_chooseMost_141 (by decide) ?_
            have eo : owP (σ 16, σ 17, σ 18, σ 19, σ 20) s f (i + 1 - f) = (if σ 17 s = 1 then 1000000 else 0) + sumF (pmP (σ 16, σ 17, σ 18, σ 19, σ 20) s) f (i - f) + pmP (σ 16, σ 17, σ 18, σ 19, σ 20) s i := by
              unfold owP
              rw [show i + 1 - f = (i - f) + 1 by omega, sumF_s _ _ (by omega), show f + (i - f) = i by omega]
              dsimp only
              by_cases qk : σ 17 s = 1
              · rw [if_pos ⟨by omega, qk⟩, if_pos qk]; omega
              · rw [if_neg (fun q => qk q.2), if_neg qk]; omega
            refine ih (by omega) (by omega) _ _ _ _ ⟨?_, by omega, by omega, ?_, by omega, by omega, ?_, ?_, ?_, ?_, ?_⟩
            · rw [show i + 1 - f = (i - f) + 1 by omega, sumF_s _ _ (by omega), show f + (i - f) = i by omega]; omega
            · rw [show i + 1 - f = (i - f) + 1 by omega, sumF_s _ _ (by omega), show f + (i - f) = i by omega]; omega
            · intro m m0 m1
              by_cases e : m = i + 1 - f
              · rw [e, eo, show f + (i + 1 - f) = i + 1 by omega]; omega
              · have := i7 m m0 (by omega); omega
            · omega
            · omega
            · first
              | (rw [eo, show f + (i + 1 - f) = i + 1 by omega]; omega)
              | exact i10
            · intro m m0 m1
              by_cases e : m = i + 1 - f
              · rw [e, eo, show f + (i + 1 - f) = i + 1 by omega]; omega
              · have := i11 m (by omega) (by omega); omega

