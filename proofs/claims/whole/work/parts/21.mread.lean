set_option maxRecDepth 100000 in
set_option maxHeartbeats 4000000 in
theorem cm_thrown (σ : St) : Wp mX7_thrown 0 (fun z τ => z = σ 7 0 ∧ τ = σ) 0 [some (.inr 7)] [] σ := by
  refine Wp.rg (fun hR => ?_)
  refine w_aload_n dX7_thrown_0 rfl ?_
  refine gf_X7_68 rfl dX7_thrown_1 ?_
  refine w_iret dX7_thrown_4 rfl ?_
  exact ⟨rfl, rfl⟩

set_option maxRecDepth 100000 in
set_option maxHeartbeats 4000000 in
theorem cm_isIn (σ : St) (v a b : Int) (hv : InR v) (ha : InR a) (hb : InR b) : Wp mX7_isIn 0 (fun z τ => ((z = 1 ∧ a ≤ v ∧ v ≤ b) ∨ (z = 0 ∧ (v < a ∨ b < v))) ∧ τ = σ) 0 [some (.inl v), some (.inl a), some (.inl b)] [] σ := by
  refine Wp.rg (fun hR => ?_)
  refine w_iload_n dX7_isIn_0 rfl ?_
  refine w_iload_n dX7_isIn_1 rfl ?_
  refine w_icmp_lt (tgt := 14) dX7_isIn_2 (by decide) (by omega) (by omega) (fun c_2 => ?_) (fun c_2 => ?_)
  · refine w_iconst dX7_isIn_14 ?_
    refine w_zret dX7_isIn_15 rfl (by omega) ?_
    exact ⟨by omega, rfl⟩
  · refine w_iload_n dX7_isIn_5 rfl ?_
    refine w_iload_n dX7_isIn_6 rfl ?_
    refine w_icmp_gt (tgt := 14) dX7_isIn_7 (by decide) (by omega) (by omega) (fun c_7 => ?_) (fun c_7 => ?_)
    · refine w_iconst dX7_isIn_14 ?_
      refine w_zret dX7_isIn_15 rfl (by omega) ?_
      exact ⟨by omega, rfl⟩
    · refine w_iconst dX7_isIn_10 ?_
      refine w_goto (tgt := 15) dX7_isIn_11 (by decide) ?_
      refine w_zret dX7_isIn_15 rfl (by omega) ?_
      exact ⟨by omega, rfl⟩

set_option maxRecDepth 100000 in
set_option maxHeartbeats 4000000 in
theorem cm_isShelf (σ : St) (v : Int) (hv : InR v) (hn : 0 ≤ σ 7 1 ∧ σ 7 1 ≤ 12) : Wp mX7_isShelf 1 (fun z τ => ((z = 1 ∧ 0 ≤ v ∧ v < σ 7 1) ∨ (z = 0 ∧ (v < 0 ∨ σ 7 1 ≤ v))) ∧ τ = σ) 0 [some (.inr 7), some (.inl v)] [] σ := by
  refine Wp.rg (fun hR => ?_)
  refine w_iload_n dX7_isShelf_0 rfl ?_
  refine w_iconst dX7_isShelf_1 ?_
  refine w_aload_n dX7_isShelf_2 rfl ?_
  refine gf_X7_71 rfl dX7_isShelf_3 ?_
  refine w_iconst dX7_isShelf_6 ?_
  refine w_isub dX7_isShelf_7 ?_
  refine cv_X7_74 rfl dX7_isShelf_8 (Nat.le_of_ble_eq_true rfl) (Nat.le_of_ble_eq_true rfl) (Wp.mono (cm_isIn _ v 0 (σ 7 1 - 1) hv (by omega) (by omega)) (fun z_ τ_ hq_ => ?_))
  obtain ⟨hw8, hs_⟩ := hq_
  subst τ_
  refine w_zret dX7_isShelf_11 rfl (by omega) ?_
  exact ⟨by omega, rfl⟩

set_option maxRecDepth 100000 in
set_option maxHeartbeats 4000000 in
theorem cm_isGroup (σ : St) (v : Int) (hv : InR v) (hn : 0 ≤ σ 7 4 ∧ σ 7 4 ≤ 8) : Wp mX7_isGroup 1 (fun z τ => ((z = 1 ∧ 0 ≤ v ∧ v < σ 7 4) ∨ (z = 0 ∧ (v < 0 ∨ σ 7 4 ≤ v))) ∧ τ = σ) 0 [some (.inr 7), some (.inl v)] [] σ := by
  refine Wp.rg (fun hR => ?_)
  refine w_iload_n dX7_isGroup_0 rfl ?_
  refine w_iconst dX7_isGroup_1 ?_
  refine w_aload_n dX7_isGroup_2 rfl ?_
  refine gf_X7_78 rfl dX7_isGroup_3 ?_
  refine w_iconst dX7_isGroup_6 ?_
  refine w_isub dX7_isGroup_7 ?_
  refine cv_X7_74 rfl dX7_isGroup_8 (Nat.le_of_ble_eq_true rfl) (Nat.le_of_ble_eq_true rfl) (Wp.mono (cm_isIn _ v 0 (σ 7 4 - 1) hv (by omega) (by omega)) (fun z_ τ_ hq_ => ?_))
  obtain ⟨hw8, hs_⟩ := hq_
  subst τ_
  refine w_zret dX7_isGroup_11 rfl (by omega) ?_
  exact ⟨by omega, rfl⟩

set_option maxRecDepth 100000 in
set_option maxHeartbeats 4000000 in
theorem cm_isBook (σ : St) (v : Int) (hv : InR v) (hn : 0 ≤ σ 7 6 ∧ σ 7 6 ≤ 60) : Wp mX7_isBook 1 (fun z τ => ((z = 1 ∧ 0 ≤ v ∧ v < σ 7 6) ∨ (z = 0 ∧ (v < 0 ∨ σ 7 6 ≤ v))) ∧ τ = σ) 0 [some (.inr 7), some (.inl v)] [] σ := by
  refine Wp.rg (fun hR => ?_)
  refine w_iload_n dX7_isBook_0 rfl ?_
  refine w_iconst dX7_isBook_1 ?_
  refine w_aload_n dX7_isBook_2 rfl ?_
  refine gf_X7_81 rfl dX7_isBook_3 ?_
  refine w_iconst dX7_isBook_6 ?_
  refine w_isub dX7_isBook_7 ?_
  refine cv_X7_74 rfl dX7_isBook_8 (Nat.le_of_ble_eq_true rfl) (Nat.le_of_ble_eq_true rfl) (Wp.mono (cm_isIn _ v 0 (σ 7 6 - 1) hv (by omega) (by omega)) (fun z_ τ_ hq_ => ?_))
  obtain ⟨hw8, hs_⟩ := hq_
  subst τ_
  refine w_zret dX7_isBook_11 rfl (by omega) ?_
  exact ⟨by omega, rfl⟩

set_option maxRecDepth 100000 in
set_option maxHeartbeats 4000000 in
theorem cm_isYears (σ : St) (v : Int) (hv : InR v) : Wp mX7_isYears 1 (fun z τ => ((z = 1 ∧ 0 ≤ v ∧ v ≤ 999) ∨ (z = 0 ∧ (v < 0 ∨ 999 < v))) ∧ τ = σ) 0 [some (.inl v)] [] σ := by
  refine Wp.rg (fun hR => ?_)
  refine w_iload_n dX7_isYears_0 rfl ?_
  refine w_iconst dX7_isYears_1 ?_
  refine w_sipush dX7_isYears_2 (by decide) ?_
  refine cv_X7_74 rfl dX7_isYears_5 (Nat.le_of_ble_eq_true rfl) (Nat.le_of_ble_eq_true rfl) (Wp.mono (cm_isIn _ v 0 999 hv (by omega) (by omega)) (fun z_ τ_ hq_ => ?_))
  obtain ⟨hw5, hs_⟩ := hq_
  subst τ_
  refine w_zret dX7_isYears_8 rfl (by omega) ?_
  exact ⟨by omega, rfl⟩

set_option maxRecDepth 100000 in
set_option maxHeartbeats 4000000 in
theorem cm_widthOf (σ : St) (v : Int) (hb : 0 ≤ σ 7 6 ∧ σ 7 6 ≤ 60) (hv : InR v) : Wp mX7_widthOf 0 (fun z τ => z = sumW (σ 60) (σ 61) v (σ 7 6) ∧ τ = σ) 0 [some (.inr 7), some (.inl v), none, none] [] σ := by
  refine Wp.rg (fun hR => ?_)
  refine w_iconst dX7_widthOf_0 ?_
  refine w_istore_n dX7_widthOf_1 (Nat.le_of_ble_eq_true rfl) ?_
  refine w_iconst dX7_widthOf_2 ?_
  refine w_istore_n dX7_widthOf_3 (Nat.le_of_ble_eq_true rfl) ?_
  refine up_to (σ 7 6) (fun i => 0 ≤ i → ∀ a, a = sumW (σ 60) (σ 61) v i → Wp mX7_widthOf 0 (fun z τ => z = sumW (σ 60) (σ 61) v (σ 7 6) ∧ τ = σ) 4 [some (.inr 7), some (.inl v), some (.inl a), some (.inl i)] [] σ) (fun i hi ih h0 a hinv => ?_) (0) (by omega) (by omega) 0 rfl
  refine w_iload_n dX7_widthOf_4 rfl ?_
  refine w_aload_n dX7_widthOf_5 rfl ?_
  refine gf_X7_81 rfl dX7_widthOf_6 ?_
  refine w_icmp_ge (tgt := 41) dX7_widthOf_9 (by decide) (by omega) (by omega) (fun c_9 => ?_) (fun c_9 => ?_)
  · refine w_iload_n dX7_widthOf_41 rfl ?_
    refine w_iret dX7_widthOf_42 rfl ?_
    exact ⟨by rw [hinv, show i = σ 7 6 by omega], rfl⟩
  · refine w_iload_n dX7_widthOf_12 rfl ?_
    refine w_aload_n dX7_widthOf_13 rfl ?_
    refine gf_X7_19 rfl dX7_widthOf_14 ?_
    refine w_iload_n dX7_widthOf_17 rfl ?_
    refine w_iald rfl (by omega) dX7_widthOf_18 ?_
    refine w_iload_n dX7_widthOf_19 rfl ?_
    refine w_icmp_ne (tgt := 32) dX7_widthOf_20 (by decide) (hR _ _) hv (fun c_20 => ?_) (fun c_20 => ?_)
    · refine w_iconst dX7_widthOf_32 ?_
      refine w_iadd dX7_widthOf_33 ?_
      refine w_istore_n dX7_widthOf_34 (Nat.le_of_ble_eq_true rfl) ?_
      refine w_iinc dX7_widthOf_35 (Nat.le_of_ble_eq_true rfl) rfl ?_
      refine w_goto (tgt := 4) dX7_widthOf_38 (by decide) ?_
      exact ih (by omega) (by omega) _ (by unfold sumW; rw [foI_s _ _ h0]; unfold sumW at hinv; rw [← hinv]; simp [c_20])
    · refine w_aload_n dX7_widthOf_23 rfl ?_
      refine gf_X7_22 rfl dX7_widthOf_24 ?_
      refine w_iload_n dX7_widthOf_27 rfl ?_
      refine w_iald rfl (by omega) dX7_widthOf_28 ?_
      refine w_goto (tgt := 33) dX7_widthOf_29 (by decide) ?_
      refine w_iadd dX7_widthOf_33 ?_
      refine w_istore_n dX7_widthOf_34 (Nat.le_of_ble_eq_true rfl) ?_
      refine w_iinc dX7_widthOf_35 (Nat.le_of_ble_eq_true rfl) rfl ?_
      refine w_goto (tgt := 4) dX7_widthOf_38 (by decide) ?_
      exact ih (by omega) (by omega) _ (by unfold sumW; rw [foI_s _ _ h0]; unfold sumW at hinv; rw [← hinv]; simp [c_20])

set_option maxRecDepth 100000 in
set_option maxHeartbeats 4000000 in
theorem cm_loadOf (σ : St) (v : Int) (hb : 0 ≤ σ 7 6 ∧ σ 7 6 ≤ 60) (hv : InR v) : Wp mX7_loadOf 0 (fun z τ => z = sumW (σ 62) (σ 61) v (σ 7 6) ∧ τ = σ) 0 [some (.inr 7), some (.inl v), none, none] [] σ := by
  refine Wp.rg (fun hR => ?_)
  refine w_iconst dX7_loadOf_0 ?_
  refine w_istore_n dX7_loadOf_1 (Nat.le_of_ble_eq_true rfl) ?_
  refine w_iconst dX7_loadOf_2 ?_
  refine w_istore_n dX7_loadOf_3 (Nat.le_of_ble_eq_true rfl) ?_
  refine up_to (σ 7 6) (fun i => 0 ≤ i → ∀ a, a = sumW (σ 62) (σ 61) v i → Wp mX7_loadOf 0 (fun z τ => z = sumW (σ 62) (σ 61) v (σ 7 6) ∧ τ = σ) 4 [some (.inr 7), some (.inl v), some (.inl a), some (.inl i)] [] σ) (fun i hi ih h0 a hinv => ?_) (0) (by omega) (by omega) 0 rfl
  refine w_iload_n dX7_loadOf_4 rfl ?_
  refine w_aload_n dX7_loadOf_5 rfl ?_
  refine gf_X7_81 rfl dX7_loadOf_6 ?_
  refine w_icmp_ge (tgt := 41) dX7_loadOf_9 (by decide) (by omega) (by omega) (fun c_9 => ?_) (fun c_9 => ?_)
  · refine w_iload_n dX7_loadOf_41 rfl ?_
    refine w_iret dX7_loadOf_42 rfl ?_
    exact ⟨by rw [hinv, show i = σ 7 6 by omega], rfl⟩
  · refine w_iload_n dX7_loadOf_12 rfl ?_
    refine w_aload_n dX7_loadOf_13 rfl ?_
    refine gf_X7_25 rfl dX7_loadOf_14 ?_
    refine w_iload_n dX7_loadOf_17 rfl ?_
    refine w_iald rfl (by omega) dX7_loadOf_18 ?_
    refine w_iload_n dX7_loadOf_19 rfl ?_
    refine w_icmp_ne (tgt := 32) dX7_loadOf_20 (by decide) (hR _ _) hv (fun c_20 => ?_) (fun c_20 => ?_)
    · refine w_iconst dX7_loadOf_32 ?_
      refine w_iadd dX7_loadOf_33 ?_
      refine w_istore_n dX7_loadOf_34 (Nat.le_of_ble_eq_true rfl) ?_
      refine w_iinc dX7_loadOf_35 (Nat.le_of_ble_eq_true rfl) rfl ?_
      refine w_goto (tgt := 4) dX7_loadOf_38 (by decide) ?_
      exact ih (by omega) (by omega) _ (by unfold sumW; rw [foI_s _ _ h0]; unfold sumW at hinv; rw [← hinv]; simp [c_20])
    · refine w_aload_n dX7_loadOf_23 rfl ?_
      refine gf_X7_22 rfl dX7_loadOf_24 ?_
      refine w_iload_n dX7_loadOf_27 rfl ?_
      refine w_iald rfl (by omega) dX7_loadOf_28 ?_
      refine w_goto (tgt := 33) dX7_loadOf_29 (by decide) ?_
      refine w_iadd dX7_loadOf_33 ?_
      refine w_istore_n dX7_loadOf_34 (Nat.le_of_ble_eq_true rfl) ?_
      refine w_iinc dX7_loadOf_35 (Nat.le_of_ble_eq_true rfl) rfl ?_
      refine w_goto (tgt := 4) dX7_loadOf_38 (by decide) ?_
      exact ih (by omega) (by omega) _ (by unfold sumW; rw [foI_s _ _ h0]; unfold sumW at hinv; rw [← hinv]; simp [c_20])

set_option maxRecDepth 100000 in
set_option maxHeartbeats 4000000 in
theorem cm_manyOn (σ : St) (v : Int) (hb : 0 ≤ σ 7 6 ∧ σ 7 6 ≤ 60) (hv : InR v) : Wp mX7_manyOn 0 (fun z τ => z = cntW (σ 62) v (σ 7 6) ∧ τ = σ) 0 [some (.inr 7), some (.inl v), none, none] [] σ := by
  refine Wp.rg (fun hR => ?_)
  refine w_iconst dX7_manyOn_0 ?_
  refine w_istore_n dX7_manyOn_1 (Nat.le_of_ble_eq_true rfl) ?_
  refine w_iconst dX7_manyOn_2 ?_
  refine w_istore_n dX7_manyOn_3 (Nat.le_of_ble_eq_true rfl) ?_
  refine up_to (σ 7 6) (fun i => 0 ≤ i → ∀ a, a = cntW (σ 62) v i → Wp mX7_manyOn 0 (fun z τ => z = cntW (σ 62) v (σ 7 6) ∧ τ = σ) 4 [some (.inr 7), some (.inl v), some (.inl a), some (.inl i)] [] σ) (fun i hi ih h0 a hinv => ?_) (0) (by omega) (by omega) 0 rfl
  refine w_iload_n dX7_manyOn_4 rfl ?_
  refine w_aload_n dX7_manyOn_5 rfl ?_
  refine gf_X7_81 rfl dX7_manyOn_6 ?_
  refine w_icmp_ge (tgt := 36) dX7_manyOn_9 (by decide) (by omega) (by omega) (fun c_9 => ?_) (fun c_9 => ?_)
  · refine w_iload_n dX7_manyOn_36 rfl ?_
    refine w_iret dX7_manyOn_37 rfl ?_
    exact ⟨by rw [hinv, show i = σ 7 6 by omega], rfl⟩
  · refine w_iload_n dX7_manyOn_12 rfl ?_
    refine w_aload_n dX7_manyOn_13 rfl ?_
    refine gf_X7_25 rfl dX7_manyOn_14 ?_
    refine w_iload_n dX7_manyOn_17 rfl ?_
    refine w_iald rfl (by omega) dX7_manyOn_18 ?_
    refine w_iload_n dX7_manyOn_19 rfl ?_
    refine w_icmp_ne (tgt := 27) dX7_manyOn_20 (by decide) (hR _ _) hv (fun c_20 => ?_) (fun c_20 => ?_)
    · refine w_iconst dX7_manyOn_27 ?_
      refine w_iadd dX7_manyOn_28 ?_
      refine w_istore_n dX7_manyOn_29 (Nat.le_of_ble_eq_true rfl) ?_
      refine w_iinc dX7_manyOn_30 (Nat.le_of_ble_eq_true rfl) rfl ?_
      refine w_goto (tgt := 4) dX7_manyOn_33 (by decide) ?_
      exact ih (by omega) (by omega) _ (by unfold cntW; rw [foI_s _ _ h0]; unfold cntW at hinv; rw [← hinv]; simp [c_20])
    · refine w_iconst dX7_manyOn_23 ?_
      refine w_goto (tgt := 28) dX7_manyOn_24 (by decide) ?_
      refine w_iadd dX7_manyOn_28 ?_
      refine w_istore_n dX7_manyOn_29 (Nat.le_of_ble_eq_true rfl) ?_
      refine w_iinc dX7_manyOn_30 (Nat.le_of_ble_eq_true rfl) rfl ?_
      refine w_goto (tgt := 4) dX7_manyOn_33 (by decide) ?_
      exact ih (by omega) (by omega) _ (by unfold cntW; rw [foI_s _ _ h0]; unfold cntW at hinv; rw [← hinv]; simp [c_20])

set_option maxRecDepth 100000 in
set_option maxHeartbeats 4000000 in
theorem cm_booksOf (σ : St) (v : Int) (hb : 0 ≤ σ 7 6 ∧ σ 7 6 ≤ 60) (hv : InR v) : Wp mX7_booksOf 0 (fun z τ => z = cntW (σ 60) v (σ 7 6) ∧ τ = σ) 0 [some (.inr 7), some (.inl v), none, none] [] σ := by
  refine Wp.rg (fun hR => ?_)
  refine w_iconst dX7_booksOf_0 ?_
  refine w_istore_n dX7_booksOf_1 (Nat.le_of_ble_eq_true rfl) ?_
  refine w_iconst dX7_booksOf_2 ?_
  refine w_istore_n dX7_booksOf_3 (Nat.le_of_ble_eq_true rfl) ?_
  refine up_to (σ 7 6) (fun i => 0 ≤ i → ∀ a, a = cntW (σ 60) v i → Wp mX7_booksOf 0 (fun z τ => z = cntW (σ 60) v (σ 7 6) ∧ τ = σ) 4 [some (.inr 7), some (.inl v), some (.inl a), some (.inl i)] [] σ) (fun i hi ih h0 a hinv => ?_) (0) (by omega) (by omega) 0 rfl
  refine w_iload_n dX7_booksOf_4 rfl ?_
  refine w_aload_n dX7_booksOf_5 rfl ?_
  refine gf_X7_81 rfl dX7_booksOf_6 ?_
  refine w_icmp_ge (tgt := 36) dX7_booksOf_9 (by decide) (by omega) (by omega) (fun c_9 => ?_) (fun c_9 => ?_)
  · refine w_iload_n dX7_booksOf_36 rfl ?_
    refine w_iret dX7_booksOf_37 rfl ?_
    exact ⟨by rw [hinv, show i = σ 7 6 by omega], rfl⟩
  · refine w_iload_n dX7_booksOf_12 rfl ?_
    refine w_aload_n dX7_booksOf_13 rfl ?_
    refine gf_X7_19 rfl dX7_booksOf_14 ?_
    refine w_iload_n dX7_booksOf_17 rfl ?_
    refine w_iald rfl (by omega) dX7_booksOf_18 ?_
    refine w_iload_n dX7_booksOf_19 rfl ?_
    refine w_icmp_ne (tgt := 27) dX7_booksOf_20 (by decide) (hR _ _) hv (fun c_20 => ?_) (fun c_20 => ?_)
    · refine w_iconst dX7_booksOf_27 ?_
      refine w_iadd dX7_booksOf_28 ?_
      refine w_istore_n dX7_booksOf_29 (Nat.le_of_ble_eq_true rfl) ?_
      refine w_iinc dX7_booksOf_30 (Nat.le_of_ble_eq_true rfl) rfl ?_
      refine w_goto (tgt := 4) dX7_booksOf_33 (by decide) ?_
      exact ih (by omega) (by omega) _ (by unfold cntW; rw [foI_s _ _ h0]; unfold cntW at hinv; rw [← hinv]; simp [c_20])
    · refine w_iconst dX7_booksOf_23 ?_
      refine w_goto (tgt := 28) dX7_booksOf_24 (by decide) ?_
      refine w_iadd dX7_booksOf_28 ?_
      refine w_istore_n dX7_booksOf_29 (Nat.le_of_ble_eq_true rfl) ?_
      refine w_iinc dX7_booksOf_30 (Nat.le_of_ble_eq_true rfl) rfl ?_
      refine w_goto (tgt := 4) dX7_booksOf_33 (by decide) ?_
      exact ih (by omega) (by omega) _ (by unfold cntW; rw [foI_s _ _ h0]; unfold cntW at hinv; rw [← hinv]; simp [c_20])

set_option maxRecDepth 100000 in
set_option maxHeartbeats 4000000 in
theorem cm_allWidths (σ : St) (hb : 0 ≤ σ 7 6 ∧ σ 7 6 ≤ 60) : Wp mX7_allWidths 0 (fun z τ => z = sumA (σ 61) (σ 7 6) ∧ τ = σ) 0 [some (.inr 7), none, none] [] σ := by
  refine Wp.rg (fun hR => ?_)
  refine w_iconst dX7_allWidths_0 ?_
  refine w_istore_n dX7_allWidths_1 (Nat.le_of_ble_eq_true rfl) ?_
  refine w_iconst dX7_allWidths_2 ?_
  refine w_istore_n dX7_allWidths_3 (Nat.le_of_ble_eq_true rfl) ?_
  refine up_to (σ 7 6) (fun i => 0 ≤ i → ∀ a, a = sumA (σ 61) i → Wp mX7_allWidths 0 (fun z τ => z = sumA (σ 61) (σ 7 6) ∧ τ = σ) 4 [some (.inr 7), some (.inl a), some (.inl i)] [] σ) (fun i hi ih h0 a hinv => ?_) (0) (by omega) (by omega) 0 rfl
  refine w_iload_n dX7_allWidths_4 rfl ?_
  refine w_aload_n dX7_allWidths_5 rfl ?_
  refine gf_X7_81 rfl dX7_allWidths_6 ?_
  refine w_icmp_ge (tgt := 27) dX7_allWidths_9 (by decide) (by omega) (by omega) (fun c_9 => ?_) (fun c_9 => ?_)
  · refine w_iload_n dX7_allWidths_27 rfl ?_
    refine w_iret dX7_allWidths_28 rfl ?_
    exact ⟨by rw [hinv, show i = σ 7 6 by omega], rfl⟩
  · refine w_iload_n dX7_allWidths_12 rfl ?_
    refine w_aload_n dX7_allWidths_13 rfl ?_
    refine gf_X7_22 rfl dX7_allWidths_14 ?_
    refine w_iload_n dX7_allWidths_17 rfl ?_
    refine w_iald rfl (by omega) dX7_allWidths_18 ?_
    refine w_iadd dX7_allWidths_19 ?_
    refine w_istore_n dX7_allWidths_20 (Nat.le_of_ble_eq_true rfl) ?_
    refine w_iinc dX7_allWidths_21 (Nat.le_of_ble_eq_true rfl) rfl ?_
    refine w_goto (tgt := 4) dX7_allWidths_24 (by decide) ?_
    exact ih (by omega) (by omega) _ (by unfold sumA; rw [foI_s _ _ h0]; unfold sumA at hinv; rw [← hinv])

set_option maxRecDepth 100000 in
set_option maxHeartbeats 4000000 in
theorem cm_openLengths (σ : St) (hb : 0 ≤ σ 7 1 ∧ σ 7 1 ≤ 12) : Wp mX7_openLengths 0 (fun z τ => z = sumW (σ 58) (σ 57) 0 (σ 7 1) ∧ τ = σ) 0 [some (.inr 7), none, none] [] σ := by
  refine Wp.rg (fun hR => ?_)
  refine w_iconst dX7_openLengths_0 ?_
  refine w_istore_n dX7_openLengths_1 (Nat.le_of_ble_eq_true rfl) ?_
  refine w_iconst dX7_openLengths_2 ?_
  refine w_istore_n dX7_openLengths_3 (Nat.le_of_ble_eq_true rfl) ?_
  refine up_to (σ 7 1) (fun i => 0 ≤ i → ∀ a, a = sumW (σ 58) (σ 57) 0 i → Wp mX7_openLengths 0 (fun z τ => z = sumW (σ 58) (σ 57) 0 (σ 7 1) ∧ τ = σ) 4 [some (.inr 7), some (.inl a), some (.inl i)] [] σ) (fun i hi ih h0 a hinv => ?_) (0) (by omega) (by omega) 0 rfl
  refine w_iload_n dX7_openLengths_4 rfl ?_
  refine w_aload_n dX7_openLengths_5 rfl ?_
  refine gf_X7_71 rfl dX7_openLengths_6 ?_
  refine w_icmp_ge (tgt := 40) dX7_openLengths_9 (by decide) (by omega) (by omega) (fun c_9 => ?_) (fun c_9 => ?_)
  · refine w_iload_n dX7_openLengths_40 rfl ?_
    refine w_iret dX7_openLengths_41 rfl ?_
    exact ⟨by rw [hinv, show i = σ 7 1 by omega], rfl⟩
  · refine w_iload_n dX7_openLengths_12 rfl ?_
    refine w_aload_n dX7_openLengths_13 rfl ?_
    refine gf_X7_13 rfl dX7_openLengths_14 ?_
    refine w_iload_n dX7_openLengths_17 rfl ?_
    refine w_iald rfl (by omega) dX7_openLengths_18 ?_
    refine w_if_ne (tgt := 31) dX7_openLengths_19 (by decide) (hR _ _) (fun c_19 => ?_) (fun c_19 => ?_)
    · refine w_iconst dX7_openLengths_31 ?_
      refine w_iadd dX7_openLengths_32 ?_
      refine w_istore_n dX7_openLengths_33 (Nat.le_of_ble_eq_true rfl) ?_
      refine w_iinc dX7_openLengths_34 (Nat.le_of_ble_eq_true rfl) rfl ?_
      refine w_goto (tgt := 4) dX7_openLengths_37 (by decide) ?_
      exact ih (by omega) (by omega) _ (by unfold sumW; rw [foI_s _ _ h0]; unfold sumW at hinv; rw [← hinv]; simp [c_19])
    · refine w_aload_n dX7_openLengths_22 rfl ?_
      refine gf_X7_7 rfl dX7_openLengths_23 ?_
      refine w_iload_n dX7_openLengths_26 rfl ?_
      refine w_iald rfl (by omega) dX7_openLengths_27 ?_
      refine w_goto (tgt := 32) dX7_openLengths_28 (by decide) ?_
      refine w_iadd dX7_openLengths_32 ?_
      refine w_istore_n dX7_openLengths_33 (Nat.le_of_ble_eq_true rfl) ?_
      refine w_iinc dX7_openLengths_34 (Nat.le_of_ble_eq_true rfl) rfl ?_
      refine w_goto (tgt := 4) dX7_openLengths_37 (by decide) ?_
      exact ih (by omega) (by omega) _ (by unfold sumW; rw [foI_s _ _ h0]; unfold sumW at hinv; rw [← hinv]; simp [c_19])

set_option maxRecDepth 100000 in
set_option maxHeartbeats 4000000 in
theorem cm_firstOn (σ : St) (v : Int) (hb : 0 ≤ σ 7 6 ∧ σ 7 6 ≤ 60) (hv : InR v) : Wp mX7_firstOn 0 (fun z τ => IsFst (σ 62) v (σ 7 6) z ∧ τ = σ) 0 [some (.inr 7), some (.inl v), none] [] σ := by
  refine Wp.rg (fun hR => ?_)
  refine w_iconst dX7_firstOn_0 ?_
  refine w_istore_n dX7_firstOn_1 (Nat.le_of_ble_eq_true rfl) ?_
  refine up_to (σ 7 6) (fun i => 0 ≤ i → (∀ b, 0 ≤ b → b < i → σ 62 b ≠ v) → Wp mX7_firstOn 0 (fun z τ => IsFst (σ 62) v (σ 7 6) z ∧ τ = σ) 2 [some (.inr 7), some (.inl v), some (.inl i)] [] σ) (fun i hi ih h0  hinv => ?_) (0) (by omega) (by omega)  (fun b h1 h2 => by omega)
  refine w_iload_n dX7_firstOn_2 rfl ?_
  refine w_aload_n dX7_firstOn_3 rfl ?_
  refine gf_X7_81 rfl dX7_firstOn_4 ?_
  refine w_icmp_ge (tgt := 28) dX7_firstOn_7 (by decide) (by omega) (by omega) (fun c_7 => ?_) (fun c_7 => ?_)
  · refine w_iconst dX7_firstOn_28 ?_
    refine w_iret dX7_firstOn_29 rfl ?_
    exact ⟨Or.inl ⟨rfl, fun b h1 h2 => hinv b h1 (by omega)⟩, rfl⟩
  · refine w_aload_n dX7_firstOn_10 rfl ?_
    refine gf_X7_25 rfl dX7_firstOn_11 ?_
    refine w_iload_n dX7_firstOn_14 rfl ?_
    refine w_iald rfl (by omega) dX7_firstOn_15 ?_
    refine w_iload_n dX7_firstOn_16 rfl ?_
    refine w_icmp_ne (tgt := 22) dX7_firstOn_17 (by decide) (hR _ _) hv (fun c_17 => ?_) (fun c_17 => ?_)
    · refine w_iinc dX7_firstOn_22 (Nat.le_of_ble_eq_true rfl) rfl ?_
      refine w_goto (tgt := 2) dX7_firstOn_25 (by decide) ?_
      exact ih (by omega) (by omega) (fun b h1 h2 => by
        by_cases q : b = i
        · rw [q]; exact c_17
        · exact hinv b h1 (by omega))
    · refine w_iload_n dX7_firstOn_20 rfl ?_
      refine w_iret dX7_firstOn_21 rfl ?_
      exact ⟨Or.inr ⟨h0, by omega, c_17, hinv⟩, rfl⟩

set_option maxRecDepth 100000 in
set_option maxHeartbeats 4000000 in
theorem cm_firstOf (σ : St) (v : Int) (hb : 0 ≤ σ 7 6 ∧ σ 7 6 ≤ 60) (hv : InR v) : Wp mX7_firstOf 0 (fun z τ => IsFst (σ 60) v (σ 7 6) z ∧ τ = σ) 0 [some (.inr 7), some (.inl v), none] [] σ := by
  refine Wp.rg (fun hR => ?_)
  refine w_iconst dX7_firstOf_0 ?_
  refine w_istore_n dX7_firstOf_1 (Nat.le_of_ble_eq_true rfl) ?_
  refine up_to (σ 7 6) (fun i => 0 ≤ i → (∀ b, 0 ≤ b → b < i → σ 60 b ≠ v) → Wp mX7_firstOf 0 (fun z τ => IsFst (σ 60) v (σ 7 6) z ∧ τ = σ) 2 [some (.inr 7), some (.inl v), some (.inl i)] [] σ) (fun i hi ih h0  hinv => ?_) (0) (by omega) (by omega)  (fun b h1 h2 => by omega)
  refine w_iload_n dX7_firstOf_2 rfl ?_
  refine w_aload_n dX7_firstOf_3 rfl ?_
  refine gf_X7_81 rfl dX7_firstOf_4 ?_
  refine w_icmp_ge (tgt := 26) dX7_firstOf_7 (by decide) (by omega) (by omega) (fun c_7 => ?_) (fun c_7 => ?_)
  · refine w_iload_n dX7_firstOf_26 rfl ?_
    refine w_aload_n dX7_firstOf_27 rfl ?_
    refine gf_X7_81 rfl dX7_firstOf_28 ?_
    refine w_icmp_ne (tgt := 38) dX7_firstOf_31 (by decide) (by omega) (by omega) (fun c_31 => ?_) (fun c_31 => ?_)
    · refine w_iload_n dX7_firstOf_38 rfl ?_
      refine w_iret dX7_firstOf_39 rfl ?_
      first
      | exact ⟨Or.inr ⟨h0, by omega, c_17, hinv⟩, rfl⟩
      | exact ⟨Or.inl ⟨rfl, fun b h1 h2 => hinv b h1 (by omega)⟩, rfl⟩
      | exact absurd c_31 (by omega)
    · refine w_iconst dX7_firstOf_34 ?_
      refine w_goto (tgt := 39) dX7_firstOf_35 (by decide) ?_
      refine w_iret dX7_firstOf_39 rfl ?_
      first
      | exact ⟨Or.inr ⟨h0, by omega, c_17, hinv⟩, rfl⟩
      | exact ⟨Or.inl ⟨rfl, fun b h1 h2 => hinv b h1 (by omega)⟩, rfl⟩
      | exact absurd c_31 (by omega)
  · refine w_aload_n dX7_firstOf_10 rfl ?_
    refine gf_X7_19 rfl dX7_firstOf_11 ?_
    refine w_iload_n dX7_firstOf_14 rfl ?_
    refine w_iald rfl (by omega) dX7_firstOf_15 ?_
    refine w_iload_n dX7_firstOf_16 rfl ?_
    refine w_icmp_eq (tgt := 26) dX7_firstOf_17 (by decide) (hR _ _) hv (fun c_17 => ?_) (fun c_17 => ?_)
    · refine w_iload_n dX7_firstOf_26 rfl ?_
      refine w_aload_n dX7_firstOf_27 rfl ?_
      refine gf_X7_81 rfl dX7_firstOf_28 ?_
      refine w_icmp_ne (tgt := 38) dX7_firstOf_31 (by decide) (by omega) (by omega) (fun c_31 => ?_) (fun c_31 => ?_)
      · refine w_iload_n dX7_firstOf_38 rfl ?_
        refine w_iret dX7_firstOf_39 rfl ?_
        first
        | exact ⟨Or.inr ⟨h0, by omega, c_17, hinv⟩, rfl⟩
        | exact ⟨Or.inl ⟨rfl, fun b h1 h2 => hinv b h1 (by omega)⟩, rfl⟩
        | exact absurd c_31 (by omega)
      · refine w_iconst dX7_firstOf_34 ?_
        refine w_goto (tgt := 39) dX7_firstOf_35 (by decide) ?_
        refine w_iret dX7_firstOf_39 rfl ?_
        first
        | exact ⟨Or.inr ⟨h0, by omega, c_17, hinv⟩, rfl⟩
        | exact ⟨Or.inl ⟨rfl, fun b h1 h2 => hinv b h1 (by omega)⟩, rfl⟩
        | exact absurd c_31 (by omega)
    · refine w_iinc dX7_firstOf_20 (Nat.le_of_ble_eq_true rfl) rfl ?_
      refine w_goto (tgt := 2) dX7_firstOf_23 (by decide) ?_
      exact ih (by omega) (by omega) (fun b h1 h2 => by
        by_cases q : b = i
        · rw [q]; exact c_17
        · exact hinv b h1 (by omega))

set_option maxRecDepth 100000 in
set_option maxHeartbeats 4000000 in
theorem cm_behind (σ : St) (g : Int) (hb : 0 ≤ σ 7 6 ∧ σ 7 6 ≤ 60) (hg : InR g) : Wp mX7_behind 0 (fun z τ => IsNb (σ 60) (σ 7 6) g z ∧ τ = σ) 0 [some (.inr 7), some (.inl g), none] [] σ := by
  refine Wp.rg (fun hR => ?_)
  refine w_iconst dX7_behind_0 ?_
  refine w_istore_n dX7_behind_1 (Nat.le_of_ble_eq_true rfl) ?_
  refine up_to (σ 7 6) (fun i => 0 ≤ i → (∀ b, 0 ≤ b → b < i → σ 60 b ≤ g) → Wp mX7_behind 0 (fun z τ => IsNb (σ 60) (σ 7 6) g z ∧ τ = σ) 2 [some (.inr 7), some (.inl g), some (.inl i)] [] σ) (fun i hi ih h0  hinv => ?_) (0) (by omega) (by omega)  (fun b h1 h2 => by omega)
  refine w_iload_n dX7_behind_2 rfl ?_
  refine w_aload_n dX7_behind_3 rfl ?_
  refine gf_X7_81 rfl dX7_behind_4 ?_
  refine w_icmp_ge (tgt := 26) dX7_behind_7 (by decide) (by omega) (by omega) (fun c_7 => ?_) (fun c_7 => ?_)
  · refine w_iload_n dX7_behind_26 rfl ?_
    refine w_iret dX7_behind_27 rfl ?_
    exact ⟨⟨h0, hi, hinv, by omega⟩, rfl⟩
  · refine w_aload_n dX7_behind_10 rfl ?_
    refine gf_X7_19 rfl dX7_behind_11 ?_
    refine w_iload_n dX7_behind_14 rfl ?_
    refine w_iald rfl (by omega) dX7_behind_15 ?_
    refine w_iload_n dX7_behind_16 rfl ?_
    refine w_icmp_gt (tgt := 26) dX7_behind_17 (by decide) (hR _ _) hg (fun c_17 => ?_) (fun c_17 => ?_)
    · refine w_iload_n dX7_behind_26 rfl ?_
      refine w_iret dX7_behind_27 rfl ?_
      exact ⟨⟨h0, hi, hinv, by omega⟩, rfl⟩
    · refine w_iinc dX7_behind_20 (Nat.le_of_ble_eq_true rfl) rfl ?_
      refine w_goto (tgt := 2) dX7_behind_23 (by decide) ?_
      exact ih (by omega) (by omega) (fun b h1 h2 => by
        by_cases q : b = i
        · rw [q]; omega
        · exact hinv b h1 (by omega))

set_option maxRecDepth 100000 in
set_option maxHeartbeats 4000000 in
theorem cm_shelvesOf (σ : St) (g : Int) (hb : 0 ≤ σ 7 6 ∧ σ 7 6 ≤ 60) (hg : InR g) : Wp mX7_shelvesOf 0 (fun z τ => z = (shlF (σ 60) (σ 62) g (σ 7 6)).1 ∧ τ = σ) 0 [some (.inr 7), some (.inl g), none, none, none] [] σ := by
  refine Wp.rg (fun hR => ?_)
  refine w_iconst dX7_shelvesOf_0 ?_
  refine w_istore_n dX7_shelvesOf_1 (Nat.le_of_ble_eq_true rfl) ?_
  refine w_iconst dX7_shelvesOf_2 ?_
  refine w_istore_n dX7_shelvesOf_3 (Nat.le_of_ble_eq_true rfl) ?_
  refine w_iconst dX7_shelvesOf_4 ?_
  refine w_istore dX7_shelvesOf_5 (Nat.le_of_ble_eq_true rfl) ?_
  refine up_to (σ 7 6) (fun i => 0 ≤ i → ∀ a l, ((a, l) = shlF (σ 60) (σ 62) g i ∧ InR l) → Wp mX7_shelvesOf 0 (fun z τ => z = (shlF (σ 60) (σ 62) g (σ 7 6)).1 ∧ τ = σ) 7 [some (.inr 7), some (.inl g), some (.inl a), some (.inl l), some (.inl i)] [] σ) (fun i hi ih h0 a l hinv => ?_) (0) (by omega) (by omega) 0 (-1) ⟨rfl, by omega⟩
  refine w_iload dX7_shelvesOf_7 rfl ?_
  refine w_aload_n dX7_shelvesOf_9 rfl ?_
  refine gf_X7_81 rfl dX7_shelvesOf_10 ?_
  refine w_icmp_ge (tgt := 55) dX7_shelvesOf_13 (by decide) (by omega) (by omega) (fun c_13 => ?_) (fun c_13 => ?_)
  · refine w_iload_n dX7_shelvesOf_55 rfl ?_
    refine w_iret dX7_shelvesOf_56 rfl ?_
    exact ⟨by rw [← show i = σ 7 6 by omega, ← hinv.1], rfl⟩
  · refine w_aload_n dX7_shelvesOf_16 rfl ?_
    refine gf_X7_19 rfl dX7_shelvesOf_17 ?_
    refine w_iload dX7_shelvesOf_20 rfl ?_
    refine w_iald rfl (by omega) dX7_shelvesOf_22 ?_
    refine w_iload_n dX7_shelvesOf_23 rfl ?_
    refine w_icmp_ne (tgt := 49) dX7_shelvesOf_24 (by decide) (hR _ _) hg (fun c_24 => ?_) (fun c_24 => ?_)
    · refine w_iinc dX7_shelvesOf_49 (Nat.le_of_ble_eq_true rfl) rfl ?_
      refine w_goto (tgt := 7) dX7_shelvesOf_52 (by decide) ?_
      exact ih (by omega) (by omega) _ _ ⟨by unfold shlF; rw [foI_s _ _ h0]; have hinv := hinv.1; unfold shlF at hinv; rw [← hinv]; simp [*], by first | exact hinv.2 | exact hR _ _⟩
    · refine w_aload_n dX7_shelvesOf_27 rfl ?_
      refine gf_X7_25 rfl dX7_shelvesOf_28 ?_
      refine w_iload dX7_shelvesOf_31 rfl ?_
      refine w_iald rfl (by omega) dX7_shelvesOf_33 ?_
      refine w_iload_n dX7_shelvesOf_34 rfl ?_
      refine w_icmp_eq (tgt := 49) dX7_shelvesOf_35 (by decide) (hR _ _) hinv.2 (fun c_35 => ?_) (fun c_35 => ?_)
      · refine w_iinc dX7_shelvesOf_49 (Nat.le_of_ble_eq_true rfl) rfl ?_
        refine w_goto (tgt := 7) dX7_shelvesOf_52 (by decide) ?_
        exact ih (by omega) (by omega) _ _ ⟨by unfold shlF; rw [foI_s _ _ h0]; have hinv := hinv.1; unfold shlF at hinv; rw [← hinv]; simp [*], by first | exact hinv.2 | exact hR _ _⟩
      · refine w_aload_n dX7_shelvesOf_38 rfl ?_
        refine gf_X7_25 rfl dX7_shelvesOf_39 ?_
        refine w_iload dX7_shelvesOf_42 rfl ?_
        refine w_iald rfl (by omega) dX7_shelvesOf_44 ?_
        refine w_istore_n dX7_shelvesOf_45 (Nat.le_of_ble_eq_true rfl) ?_
        refine w_iinc dX7_shelvesOf_46 (Nat.le_of_ble_eq_true rfl) rfl ?_
        refine w_iinc dX7_shelvesOf_49 (Nat.le_of_ble_eq_true rfl) rfl ?_
        refine w_goto (tgt := 7) dX7_shelvesOf_52 (by decide) ?_
        exact ih (by omega) (by omega) _ _ ⟨by unfold shlF; rw [foI_s _ _ h0]; have hinv := hinv.1; unfold shlF at hinv; rw [← hinv]; simp [*], by first | exact hinv.2 | exact hR _ _⟩

set_option maxRecDepth 100000 in
set_option maxHeartbeats 4000000 in
theorem cm_ahead (σ : St) (b : Int) (hb : 0 ≤ b ∧ b < 60) : Wp mX7_ahead 0 (fun z τ => z = sumW (σ 62) (σ 61) (σ 62 b) b ∧ τ = σ) 0 [some (.inr 7), some (.inl b), none, none] [] σ := by
  refine Wp.rg (fun hR => ?_)
  refine w_iconst dX7_ahead_0 ?_
  refine w_istore_n dX7_ahead_1 (Nat.le_of_ble_eq_true rfl) ?_
  refine w_iconst dX7_ahead_2 ?_
  refine w_istore_n dX7_ahead_3 (Nat.le_of_ble_eq_true rfl) ?_
  refine up_to (b) (fun i => 0 ≤ i → ∀ a, a = sumW (σ 62) (σ 61) (σ 62 b) i → Wp mX7_ahead 0 (fun z τ => z = sumW (σ 62) (σ 61) (σ 62 b) b ∧ τ = σ) 4 [some (.inr 7), some (.inl b), some (.inl a), some (.inl i)] [] σ) (fun i hi ih h0 a hinv => ?_) (0) (by omega) (by omega) 0 rfl
  refine w_iload_n dX7_ahead_4 rfl ?_
  refine w_iload_n dX7_ahead_5 rfl ?_
  refine w_icmp_ge (tgt := 43) dX7_ahead_6 (by decide) (by omega) (by omega) (fun c_6 => ?_) (fun c_6 => ?_)
  · refine w_iload_n dX7_ahead_43 rfl ?_
    refine w_iret dX7_ahead_44 rfl ?_
    exact ⟨by rw [hinv, show i = b by omega], rfl⟩
  · refine w_iload_n dX7_ahead_9 rfl ?_
    refine w_aload_n dX7_ahead_10 rfl ?_
    refine gf_X7_25 rfl dX7_ahead_11 ?_
    refine w_iload_n dX7_ahead_14 rfl ?_
    refine w_iald rfl (by omega) dX7_ahead_15 ?_
    refine w_aload_n dX7_ahead_16 rfl ?_
    refine gf_X7_25 rfl dX7_ahead_17 ?_
    refine w_iload_n dX7_ahead_20 rfl ?_
    refine w_iald rfl (by omega) dX7_ahead_21 ?_
    refine w_icmp_ne (tgt := 34) dX7_ahead_22 (by decide) (hR _ _) (hR _ _) (fun c_22 => ?_) (fun c_22 => ?_)
    · refine w_iconst dX7_ahead_34 ?_
      refine w_iadd dX7_ahead_35 ?_
      refine w_istore_n dX7_ahead_36 (Nat.le_of_ble_eq_true rfl) ?_
      refine w_iinc dX7_ahead_37 (Nat.le_of_ble_eq_true rfl) rfl ?_
      refine w_goto (tgt := 4) dX7_ahead_40 (by decide) ?_
      exact ih (by omega) (by omega) _ (by unfold sumW; rw [foI_s _ _ h0]; unfold sumW at hinv; rw [← hinv]; simp [c_22])
    · refine w_aload_n dX7_ahead_25 rfl ?_
      refine gf_X7_22 rfl dX7_ahead_26 ?_
      refine w_iload_n dX7_ahead_29 rfl ?_
      refine w_iald rfl (by omega) dX7_ahead_30 ?_
      refine w_goto (tgt := 35) dX7_ahead_31 (by decide) ?_
      refine w_iadd dX7_ahead_35 ?_
      refine w_istore_n dX7_ahead_36 (Nat.le_of_ble_eq_true rfl) ?_
      refine w_iinc dX7_ahead_37 (Nat.le_of_ble_eq_true rfl) rfl ?_
      refine w_goto (tgt := 4) dX7_ahead_40 (by decide) ?_
      exact ih (by omega) (by omega) _ (by unfold sumW; rw [foI_s _ _ h0]; unfold sumW at hinv; rw [← hinv]; simp [c_22])

set_option maxRecDepth 100000 in
set_option maxHeartbeats 4000000 in
theorem cm_cell (σ : St) (s b : Int) : Wp mX7_cell 0 (fun z τ => z = 61 * s + b ∧ τ = σ) 0 [some (.inr 7), some (.inl s), some (.inl b)] [] σ := by
  refine Wp.rg (fun hR => ?_)
  refine w_bipush dX7_cell_0 (by decide) ?_
  refine w_iload_n dX7_cell_2 rfl ?_
  refine w_imul dX7_cell_3 ?_
  refine w_iload_n dX7_cell_4 rfl ?_
  refine w_iadd dX7_cell_5 ?_
  refine w_iret dX7_cell_6 rfl ?_
  exact ⟨rfl, rfl⟩

set_option maxRecDepth 100000 in
set_option maxHeartbeats 4000000 in
theorem cm_ends (σ : St) : Wp mX7_ends 0 (fun z τ => τ = put σ 7 21 0) 0 [some (.inr 7)] [] σ := by
  refine Wp.rg (fun hR => ?_)
  refine w_aload_n dX7_ends_0 rfl ?_
  refine w_iconst dX7_ends_1 ?_
  refine pf_X7_164 rfl (by omega) dX7_ends_2 ?_
  refine w_ret dX7_ends_5 rfl ?_
  rfl

set_option maxRecDepth 100000 in
set_option maxHeartbeats 4000000 in
theorem cm_dayOf (σ : St) (f k y : Int) (hf : 0 ≤ f ∧ f ≤ k ∧ k < 60) (hy : 40 ≤ y ∧ y ≤ 400) (hpb : ∀ i, f ≤ i → i ≤ k → 0 ≤ σ 71 i ∧ σ 71 i < 60 ∧ 0 ≤ σ 61 (σ 71 i) ∧ σ 61 (σ 71 i) ≤ 40) : Wp mX7_dayOf 0 (fun z τ => z + 1 = (dyF (fun i => σ 61 (σ 71 i)) f y (k + 1 - f)).1 ∧ τ = σ) 0 [some (.inr 7), some (.inl f), some (.inl k), some (.inl y), none, none, none, none] [] σ := by
  refine Wp.rg (fun hR => ?_)
  refine w_iconst dX7_dayOf_0 ?_
  refine w_istore dX7_dayOf_1 (Nat.le_of_ble_eq_true rfl) ?_
  refine w_iload_n dX7_dayOf_3 rfl ?_
  refine w_istore dX7_dayOf_4 (Nat.le_of_ble_eq_true rfl) ?_
  refine w_iload_n dX7_dayOf_6 rfl ?_
  refine w_istore dX7_dayOf_7 (Nat.le_of_ble_eq_true rfl) ?_
  refine up_to (k + 1) (fun i => f ≤ i → ∀ (a : Int) (l : Int) (x : Option PV), ((i = f ∧ a = 0 ∧ l = y) ∨ (f < i ∧ a + 1 = (dyF (fun i => σ 61 (σ 71 i)) f y (i - f)).1 ∧ l = y - (dyF (fun i => σ 61 (σ 71 i)) f y (i - f)).2 ∧ 0 ≤ l ∧ l ≤ y)) → Wp mX7_dayOf 0 (fun z τ => z + 1 = (dyF (fun i => σ 61 (σ 71 i)) f y (k + 1 - f)).1 ∧ τ = σ) 9 [some (.inr 7), some (.inl f), some (.inl k), some (.inl y), some (.inl a), some (.inl l), some (.inl i), x] [] σ) (fun i hi ih h0 a l x hinv => ?_) (f) (by omega) (by omega) 0 _ _ (Or.inl ⟨rfl, rfl, rfl⟩)
  refine w_iload dX7_dayOf_9 rfl ?_
  refine w_iload_n dX7_dayOf_11 rfl ?_
  refine w_icmp_gt (tgt := 55) dX7_dayOf_12 (by decide) (by omega) (by omega) (fun c_12 => ?_) (fun c_12 => ?_)
  · refine w_iload dX7_dayOf_55 rfl ?_
    refine w_iret dX7_dayOf_57 rfl ?_
    refine ⟨?_, rfl⟩
    rcases hinv with hinv | hinv
    · omega
    · rw [← show i = k + 1 by omega]; exact hinv.2.1
  · have hpi := hpb i (by omega) (by omega)
    refine w_aload_n dX7_dayOf_15 rfl ?_
    refine gf_X7_22 rfl dX7_dayOf_16 ?_
    refine w_aload_n dX7_dayOf_19 rfl ?_
    refine gf_X7_56 rfl dX7_dayOf_20 ?_
    refine w_iload dX7_dayOf_23 rfl ?_
    refine w_iald rfl (by omega) dX7_dayOf_25 ?_
    refine w_iald rfl (by omega) dX7_dayOf_26 ?_
    refine w_istore dX7_dayOf_27 (Nat.le_of_ble_eq_true rfl) ?_
    refine w_iload dX7_dayOf_29 rfl ?_
    refine w_iload dX7_dayOf_31 rfl ?_
    refine w_icmp_le (tgt := 42) dX7_dayOf_33 (by decide) (by omega) (by omega) (fun c_33 => ?_) (fun c_33 => ?_)
    · refine w_iload dX7_dayOf_42 rfl ?_
      refine w_iload dX7_dayOf_44 rfl ?_
      refine w_isub dX7_dayOf_46 ?_
      refine w_istore dX7_dayOf_47 (Nat.le_of_ble_eq_true rfl) ?_
      refine w_iinc dX7_dayOf_49 (Nat.le_of_ble_eq_true rfl) rfl ?_
      refine w_goto (tgt := 9) dX7_dayOf_52 (by decide) ?_
      refine ih (by omega) (by omega) _ _ _ (Or.inr ⟨by omega, ?_, ?_, by omega, by omega⟩)
      all_goals
        rw [show i + 1 - f = (i - f) + 1 by omega, dyF_s _ _ _ (by omega)]
        try dsimp only
        rw [show f + (i - f) = i by omega]
        rcases hinv with ⟨e1, e2, e3⟩ | ⟨e1, e2, e3, e4⟩
        · rw [if_pos (Or.inl (by omega)), show i - f = 0 by omega]
          try dsimp only [dyF, foI, fo]
          all_goals first | omega | (simp [fo, dyF, foI]; omega)
        · first
          | (rw [if_pos (Or.inr (by omega))]; (try dsimp only) <;> omega)
          | (rw [if_pos (by omega)]; (try dsimp only) <;> omega)
          | (rw [if_neg (by omega)]; (try dsimp only) <;> omega)
          | (rw [if_pos (Or.inr (by omega))])
    · refine w_iinc dX7_dayOf_36 (Nat.le_of_ble_eq_true rfl) rfl ?_
      refine w_iload_n dX7_dayOf_39 rfl ?_
      refine w_istore dX7_dayOf_40 (Nat.le_of_ble_eq_true rfl) ?_
      refine w_iload dX7_dayOf_42 rfl ?_
      refine w_iload dX7_dayOf_44 rfl ?_
      refine w_isub dX7_dayOf_46 ?_
      refine w_istore dX7_dayOf_47 (Nat.le_of_ble_eq_true rfl) ?_
      refine w_iinc dX7_dayOf_49 (Nat.le_of_ble_eq_true rfl) rfl ?_
      refine w_goto (tgt := 9) dX7_dayOf_52 (by decide) ?_
      refine ih (by omega) (by omega) _ _ _ (Or.inr ⟨by omega, ?_, ?_, by omega, by omega⟩)
      all_goals
        rw [show i + 1 - f = (i - f) + 1 by omega, dyF_s _ _ _ (by omega)]
        try dsimp only
        rw [show f + (i - f) = i by omega]
        rcases hinv with ⟨e1, e2, e3⟩ | ⟨e1, e2, e3, e4⟩
        · rw [if_pos (Or.inl (by omega)), show i - f = 0 by omega]
          try dsimp only [dyF, foI, fo]
          all_goals first | omega | (simp [fo, dyF, foI]; omega)
        · first
          | (rw [if_pos (Or.inr (by omega))]; (try dsimp only) <;> omega)
          | (rw [if_pos (by omega)]; (try dsimp only) <;> omega)
          | (rw [if_neg (by omega)]; (try dsimp only) <;> omega)
          | (rw [if_pos (Or.inr (by omega))])

theorem trF_s (fr to : Int → Int) (f : Int) {z : Int} (h : 0 ≤ z) : trF fr to f (z + 1) = if z = 0 ∨ fr (f + z) ≠ fr (f + z - 1) ∨ to (f + z) ≠ to (f + z - 1) then trF fr to f z + 1 else trF fr to f z := foI_s _ _ h

set_option maxRecDepth 100000 in
set_option maxHeartbeats 4000000 in
theorem cm_tripOf (σ : St) (f k : Int) (hf : 0 ≤ f ∧ f ≤ k ∧ k < 60) : Wp mX7_tripOf 0 (fun z τ => z + 1 = trF (σ 72) (σ 73) f (k + 1 - f) ∧ τ = σ) 0 [some (.inr 7), some (.inl f), some (.inl k), none, none] [] σ := by
  refine Wp.rg (fun hR => ?_)
  refine w_iconst dX7_tripOf_0 ?_
  refine w_istore_n dX7_tripOf_1 (Nat.le_of_ble_eq_true rfl) ?_
  refine w_iload_n dX7_tripOf_2 rfl ?_
  refine w_iconst dX7_tripOf_3 ?_
  refine w_iadd dX7_tripOf_4 ?_
  refine w_istore dX7_tripOf_5 (Nat.le_of_ble_eq_true rfl) ?_
  refine up_to (k + 1) (fun i => f + 1 ≤ i → ∀ a, a + 1 = trF (σ 72) (σ 73) f (i - f) → Wp mX7_tripOf 0 (fun z τ => z + 1 = trF (σ 72) (σ 73) f (k + 1 - f) ∧ τ = σ) 7 [some (.inr 7), some (.inl f), some (.inl k), some (.inl a), some (.inl i)] [] σ) (fun i hi ih h0 a hinv => ?_) (f + 1) (by omega) (by omega) 0 (by rw [show f + 1 - f = 0 + 1 by omega, trF_s _ _ _ (by omega), if_pos (Or.inl rfl)]; rfl)
  refine w_iload dX7_tripOf_7 rfl ?_
  refine w_iload_n dX7_tripOf_9 rfl ?_
  refine w_icmp_gt (tgt := 65) dX7_tripOf_10 (by decide) (by omega) (by omega) (fun c_10 => ?_) (fun c_10 => ?_)
  · refine w_iload_n dX7_tripOf_65 rfl ?_
    refine w_iret dX7_tripOf_66 rfl ?_
    exact ⟨by rw [← show i = k + 1 by omega]; exact hinv, rfl⟩
  · refine w_iload_n dX7_tripOf_13 rfl ?_
    refine w_aload_n dX7_tripOf_14 rfl ?_
    refine gf_X7_59 rfl dX7_tripOf_15 ?_
    refine w_iload dX7_tripOf_18 rfl ?_
    refine w_iald rfl (by omega) dX7_tripOf_20 ?_
    refine w_aload_n dX7_tripOf_21 rfl ?_
    refine gf_X7_59 rfl dX7_tripOf_22 ?_
    refine w_iload dX7_tripOf_25 rfl ?_
    refine w_iconst dX7_tripOf_27 ?_
    refine w_isub dX7_tripOf_28 ?_
    refine w_iald rfl (by omega) dX7_tripOf_29 ?_
    refine w_icmp_ne (tgt := 52) dX7_tripOf_30 (by decide) (hR _ _) (hR _ _) (fun c_30 => ?_) (fun c_30 => ?_)
    · refine w_iconst dX7_tripOf_52 ?_
      refine w_goto (tgt := 57) dX7_tripOf_53 (by decide) ?_
      refine w_iadd dX7_tripOf_57 ?_
      refine w_istore_n dX7_tripOf_58 (Nat.le_of_ble_eq_true rfl) ?_
      refine w_iinc dX7_tripOf_59 (Nat.le_of_ble_eq_true rfl) rfl ?_
      refine w_goto (tgt := 7) dX7_tripOf_62 (by decide) ?_
      refine ih (by omega) (by omega) _ ?_
      rw [show i + 1 - f = (i - f) + 1 by omega, trF_s _ _ _ (by omega), show f + (i - f) = i by omega]
      first
      | (rw [if_pos (by first | exact Or.inr (Or.inl c_30) | exact Or.inr (Or.inr c_49))]; omega)
      | (rw [if_neg (by intro q; rcases q with q | q | q; exact absurd q (by omega); exact q c_30; exact q c_49)]; omega)
    · refine w_aload_n dX7_tripOf_33 rfl ?_
      refine gf_X7_62 rfl dX7_tripOf_34 ?_
      refine w_iload dX7_tripOf_37 rfl ?_
      refine w_iald rfl (by omega) dX7_tripOf_39 ?_
      refine w_aload_n dX7_tripOf_40 rfl ?_
      refine gf_X7_62 rfl dX7_tripOf_41 ?_
      refine w_iload dX7_tripOf_44 rfl ?_
      refine w_iconst dX7_tripOf_46 ?_
      refine w_isub dX7_tripOf_47 ?_
      refine w_iald rfl (by omega) dX7_tripOf_48 ?_
      refine w_icmp_eq (tgt := 56) dX7_tripOf_49 (by decide) (hR _ _) (hR _ _) (fun c_49 => ?_) (fun c_49 => ?_)
      · refine w_iconst dX7_tripOf_56 ?_
        refine w_iadd dX7_tripOf_57 ?_
        refine w_istore_n dX7_tripOf_58 (Nat.le_of_ble_eq_true rfl) ?_
        refine w_iinc dX7_tripOf_59 (Nat.le_of_ble_eq_true rfl) rfl ?_
        refine w_goto (tgt := 7) dX7_tripOf_62 (by decide) ?_
        refine ih (by omega) (by omega) _ ?_
        rw [show i + 1 - f = (i - f) + 1 by omega, trF_s _ _ _ (by omega), show f + (i - f) = i by omega]
        first
        | (rw [if_pos (by first | exact Or.inr (Or.inl c_30) | exact Or.inr (Or.inr c_49))]; omega)
        | (rw [if_neg (by intro q; rcases q with q | q | q; exact absurd q (by omega); exact q c_30; exact q c_49)]; omega)
      · refine w_iconst dX7_tripOf_52 ?_
        refine w_goto (tgt := 57) dX7_tripOf_53 (by decide) ?_
        refine w_iadd dX7_tripOf_57 ?_
        refine w_istore_n dX7_tripOf_58 (Nat.le_of_ble_eq_true rfl) ?_
        refine w_iinc dX7_tripOf_59 (Nat.le_of_ble_eq_true rfl) rfl ?_
        refine w_goto (tgt := 7) dX7_tripOf_62 (by decide) ?_
        refine ih (by omega) (by omega) _ ?_
        rw [show i + 1 - f = (i - f) + 1 by omega, trF_s _ _ _ (by omega), show f + (i - f) = i by omega]
        first
        | (rw [if_pos (by first | exact Or.inr (Or.inl c_30) | exact Or.inr (Or.inr c_49))]; omega)
        | (rw [if_neg (by intro q; rcases q with q | q | q; exact absurd q (by omega); exact q c_30; exact q c_49)]; omega)

set_option maxRecDepth 100000 in
set_option maxHeartbeats 4000000 in
theorem cm_taken (σ : St) (k : Int) (hk : 0 ≤ k ∧ k < 60) : Wp mX7_taken 0 (fun z τ => z = cntW (σ 72) (σ 73 k) k ∧ τ = σ) 0 [some (.inr 7), some (.inl k), none, none] [] σ := by
  refine Wp.rg (fun hR => ?_)
  refine w_iconst dX7_taken_0 ?_
  refine w_istore_n dX7_taken_1 (Nat.le_of_ble_eq_true rfl) ?_
  refine w_iconst dX7_taken_2 ?_
  refine w_istore_n dX7_taken_3 (Nat.le_of_ble_eq_true rfl) ?_
  refine up_to (k) (fun i => 0 ≤ i → ∀ a, a = cntW (σ 72) (σ 73 k) i → Wp mX7_taken 0 (fun z τ => z = cntW (σ 72) (σ 73 k) k ∧ τ = σ) 4 [some (.inr 7), some (.inl k), some (.inl a), some (.inl i)] [] σ) (fun i hi ih h0 a hinv => ?_) (0) (by omega) (by omega) 0 rfl
  refine w_iload_n dX7_taken_4 rfl ?_
  refine w_iload_n dX7_taken_5 rfl ?_
  refine w_icmp_ge (tgt := 38) dX7_taken_6 (by decide) (by omega) (by omega) (fun c_6 => ?_) (fun c_6 => ?_)
  · refine w_iload_n dX7_taken_38 rfl ?_
    refine w_iret dX7_taken_39 rfl ?_
    exact ⟨by rw [hinv, show i = k by omega], rfl⟩
  · refine w_iload_n dX7_taken_9 rfl ?_
    refine w_aload_n dX7_taken_10 rfl ?_
    refine gf_X7_59 rfl dX7_taken_11 ?_
    refine w_iload_n dX7_taken_14 rfl ?_
    refine w_iald rfl (by omega) dX7_taken_15 ?_
    refine w_aload_n dX7_taken_16 rfl ?_
    refine gf_X7_62 rfl dX7_taken_17 ?_
    refine w_iload_n dX7_taken_20 rfl ?_
    refine w_iald rfl (by omega) dX7_taken_21 ?_
    refine w_icmp_ne (tgt := 29) dX7_taken_22 (by decide) (hR _ _) (hR _ _) (fun c_22 => ?_) (fun c_22 => ?_)
    · refine w_iconst dX7_taken_29 ?_
      refine w_iadd dX7_taken_30 ?_
      refine w_istore_n dX7_taken_31 (Nat.le_of_ble_eq_true rfl) ?_
      refine w_iinc dX7_taken_32 (Nat.le_of_ble_eq_true rfl) rfl ?_
      refine w_goto (tgt := 4) dX7_taken_35 (by decide) ?_
      exact ih (by omega) (by omega) _ (by unfold cntW; rw [foI_s _ _ h0]; unfold cntW at hinv; rw [← hinv]; simp [c_22])
    · refine w_iconst dX7_taken_25 ?_
      refine w_goto (tgt := 30) dX7_taken_26 (by decide) ?_
      refine w_iadd dX7_taken_30 ?_
      refine w_istore_n dX7_taken_31 (Nat.le_of_ble_eq_true rfl) ?_
      refine w_iinc dX7_taken_32 (Nat.le_of_ble_eq_true rfl) rfl ?_
      refine w_goto (tgt := 4) dX7_taken_35 (by decide) ?_
      exact ih (by omega) (by omega) _ (by unfold cntW; rw [foI_s _ _ h0]; unfold cntW at hinv; rw [← hinv]; simp [c_22])

set_option maxRecDepth 100000 in
set_option maxHeartbeats 4000000 in
theorem cm_leftWidths (σ : St) (hp : 0 ≤ σ 7 24 ∧ σ 7 24 ≤ σ 7 23 ∧ σ 7 23 ≤ 60) (hpb : ∀ i, 0 ≤ i → i < σ 7 23 → 0 ≤ σ 71 i ∧ σ 71 i < 60) : Wp mX7_leftWidths 0 (fun z τ => z = sumF (fun i => σ 61 (σ 71 i)) (σ 7 24) (σ 7 23 - σ 7 24) ∧ τ = σ) 0 [some (.inr 7), none, none] [] σ := by
  refine Wp.rg (fun hR => ?_)
  refine w_iconst dX7_leftWidths_0 ?_
  refine w_istore_n dX7_leftWidths_1 (Nat.le_of_ble_eq_true rfl) ?_
  refine w_aload_n dX7_leftWidths_2 rfl ?_
  refine gf_X7_174 rfl dX7_leftWidths_3 ?_
  refine w_istore_n dX7_leftWidths_6 (Nat.le_of_ble_eq_true rfl) ?_
  refine up_to (σ 7 23) (fun i => σ 7 24 ≤ i → ∀ a, a = sumF (fun i => σ 61 (σ 71 i)) (σ 7 24) (i - σ 7 24) → Wp mX7_leftWidths 0 (fun z τ => z = sumF (fun i => σ 61 (σ 71 i)) (σ 7 24) (σ 7 23 - σ 7 24) ∧ τ = σ) 7 [some (.inr 7), some (.inl a), some (.inl i)] [] σ) (fun i hi ih h0 a hinv => ?_) (σ 7 24) (by omega) (by omega) 0 (by rw [Int.sub_self]; rfl)
  refine w_iload_n dX7_leftWidths_7 rfl ?_
  refine w_aload_n dX7_leftWidths_8 rfl ?_
  refine gf_X7_171 rfl dX7_leftWidths_9 ?_
  refine w_icmp_ge (tgt := 35) dX7_leftWidths_12 (by decide) (by omega) (by omega) (fun c_12 => ?_) (fun c_12 => ?_)
  · refine w_iload_n dX7_leftWidths_35 rfl ?_
    refine w_iret dX7_leftWidths_36 rfl ?_
    exact ⟨by rw [← show i = σ 7 23 by omega, ← hinv], rfl⟩
  · have hpi := hpb i (by omega) (by omega)
    refine w_iload_n dX7_leftWidths_15 rfl ?_
    refine w_aload_n dX7_leftWidths_16 rfl ?_
    refine gf_X7_22 rfl dX7_leftWidths_17 ?_
    refine w_aload_n dX7_leftWidths_20 rfl ?_
    refine gf_X7_56 rfl dX7_leftWidths_21 ?_
    refine w_iload_n dX7_leftWidths_24 rfl ?_
    refine w_iald rfl (by omega) dX7_leftWidths_25 ?_
    refine w_iald rfl (by omega) dX7_leftWidths_26 ?_
    refine w_iadd dX7_leftWidths_27 ?_
    refine w_istore_n dX7_leftWidths_28 (Nat.le_of_ble_eq_true rfl) ?_
    refine w_iinc dX7_leftWidths_29 (Nat.le_of_ble_eq_true rfl) rfl ?_
    refine w_goto (tgt := 7) dX7_leftWidths_32 (by decide) ?_
    exact ih (by omega) (by omega) _ (by rw [show i + 1 - σ 7 24 = (i - σ 7 24) + 1 by omega, sumF_s _ _ (by omega), ← hinv, show σ 7 24 + (i - σ 7 24) = i by omega])

set_option maxRecDepth 100000 in
set_option maxHeartbeats 4000000 in
theorem cm_leftRight (σ : St) (hp : 0 ≤ σ 7 24 ∧ σ 7 24 ≤ σ 7 23 ∧ σ 7 23 ≤ 60)  : Wp mX7_leftRight 0 (fun z τ => z = rgF (σ 72) (σ 73) (σ 7 24) (σ 7 23 - σ 7 24) ∧ τ = σ) 0 [some (.inr 7), none, none] [] σ := by
  refine Wp.rg (fun hR => ?_)
  refine w_iconst dX7_leftRight_0 ?_
  refine w_istore_n dX7_leftRight_1 (Nat.le_of_ble_eq_true rfl) ?_
  refine w_aload_n dX7_leftRight_2 rfl ?_
  refine gf_X7_174 rfl dX7_leftRight_3 ?_
  refine w_istore_n dX7_leftRight_6 (Nat.le_of_ble_eq_true rfl) ?_
  refine up_to (σ 7 23) (fun i => σ 7 24 ≤ i → ∀ a, a = rgF (σ 72) (σ 73) (σ 7 24) (i - σ 7 24) → Wp mX7_leftRight 0 (fun z τ => z = rgF (σ 72) (σ 73) (σ 7 24) (σ 7 23 - σ 7 24) ∧ τ = σ) 7 [some (.inr 7), some (.inl a), some (.inl i)] [] σ) (fun i hi ih h0 a hinv => ?_) (σ 7 24) (by omega) (by omega) 0 (by rw [Int.sub_self]; rfl)
  refine w_iload_n dX7_leftRight_7 rfl ?_
  refine w_aload_n dX7_leftRight_8 rfl ?_
  refine gf_X7_171 rfl dX7_leftRight_9 ?_
  refine w_icmp_ge (tgt := 44) dX7_leftRight_12 (by decide) (by omega) (by omega) (fun c_12 => ?_) (fun c_12 => ?_)
  · refine w_iload_n dX7_leftRight_44 rfl ?_
    refine w_iret dX7_leftRight_45 rfl ?_
    exact ⟨by rw [← show i = σ 7 23 by omega, ← hinv], rfl⟩
  · refine w_iload_n dX7_leftRight_15 rfl ?_
    refine w_aload_n dX7_leftRight_16 rfl ?_
    refine gf_X7_62 rfl dX7_leftRight_17 ?_
    refine w_iload_n dX7_leftRight_20 rfl ?_
    refine w_iald rfl (by omega) dX7_leftRight_21 ?_
    refine w_aload_n dX7_leftRight_22 rfl ?_
    refine gf_X7_59 rfl dX7_leftRight_23 ?_
    refine w_iload_n dX7_leftRight_26 rfl ?_
    refine w_iald rfl (by omega) dX7_leftRight_27 ?_
    refine w_icmp_le (tgt := 35) dX7_leftRight_28 (by decide) (hR _ _) (hR _ _) (fun c_28 => ?_) (fun c_28 => ?_)
    · refine w_iconst dX7_leftRight_35 ?_
      refine w_iadd dX7_leftRight_36 ?_
      refine w_istore_n dX7_leftRight_37 (Nat.le_of_ble_eq_true rfl) ?_
      refine w_iinc dX7_leftRight_38 (Nat.le_of_ble_eq_true rfl) rfl ?_
      refine w_goto (tgt := 7) dX7_leftRight_41 (by decide) ?_
      refine ih (by omega) (by omega) _ ?_
      rw [show i + 1 - σ 7 24 = (i - σ 7 24) + 1 by omega]
      unfold rgF
      rw [foI_s _ _ (by omega)]
      unfold rgF at hinv
      rw [← hinv, show σ 7 24 + (i - σ 7 24) = i by omega]
      first | rw [if_pos (by omega)] | rw [if_neg (by omega), Int.add_zero]
    · refine w_iconst dX7_leftRight_31 ?_
      refine w_goto (tgt := 36) dX7_leftRight_32 (by decide) ?_
      refine w_iadd dX7_leftRight_36 ?_
      refine w_istore_n dX7_leftRight_37 (Nat.le_of_ble_eq_true rfl) ?_
      refine w_iinc dX7_leftRight_38 (Nat.le_of_ble_eq_true rfl) rfl ?_
      refine w_goto (tgt := 7) dX7_leftRight_41 (by decide) ?_
      refine ih (by omega) (by omega) _ ?_
      rw [show i + 1 - σ 7 24 = (i - σ 7 24) + 1 by omega]
      unfold rgF
      rw [foI_s _ _ (by omega)]
      unfold rgF at hinv
      rw [← hinv, show σ 7 24 + (i - σ 7 24) = i by omega]
      first | rw [if_pos (by omega)] | rw [if_neg (by omega), Int.add_zero]

