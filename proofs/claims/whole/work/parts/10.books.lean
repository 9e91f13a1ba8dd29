def upF (f : Int → Int) (i x : Int) : Int → Int := fun b => if b = i then x else f b
theorem put_putA (σ : St) (k : Nat) (f : Int → Int) (i x : Int) : put (putA σ k f) k i x = putA σ k (upF f i x) := by
  funext a b
  simp only [put_eq, putA_eq, upF]
  by_cases h : a = k
  · subst h; simp
  · simp [h]
theorem put_putA_ne (σ : St) {k k' : Nat} (h : k ≠ k') (f : Int → Int) (i x : Int) : put (putA σ k f) k' i x = putA (put σ k' i x) k f := by
  funext a b
  simp only [put_eq, putA_eq]
  by_cases h1 : a = k
  · subst h1; simp [h]
  · simp [h1]
theorem put_is_putA (σ : St) (k : Nat) (i x : Int) : put σ k i x = putA σ k (upF (σ k) i x) := by
  funext a b
  simp only [put_eq, putA_eq, upF]
  by_cases h : a = k
  · subst h; simp
  · simp [h]
theorem putA_putA (σ : St) (k : Nat) (f g : Int → Int) : putA (putA σ k f) k g = putA σ k g := by
  funext a b
  simp only [putA_eq]
  by_cases h : a = k
  · subst h; simp
  · simp [h]
theorem putA_swap (σ : St) {k k' : Nat} (h : k ≠ k') (f g : Int → Int) : putA (putA σ k f) k' g = putA (putA σ k' g) k f := by
  funext a b
  simp only [putA_eq]
  by_cases h1 : a = k
  · subst h1; simp [h]
  · simp [h1]
theorem putA_self (σ : St) (k : Nat) : putA σ k (σ k) = σ := by
  funext a b
  simp only [putA_eq]
  by_cases h : a = k
  · subst h; simp
  · simp [h]
def ins (f : Int → Int) (b v : Int) : Int → Int := fun j => if j < b then f j else if j = b then v else f (j - 1)
def del (f : Int → Int) (b : Int) : Int → Int := fun j => if j < b then f j else f (j + 1)

set_option maxRecDepth 100000 in
set_option maxHeartbeats 4000000 in
theorem ct_X0_openGap (σ : St) (k : Nat) (b : Int) (hk : shT[k]? = some (.inr (.inl 60))) (hb : 0 ≤ b ∧ b ≤ σ 0 6 ∧ σ 0 6 < 60) : Wp mX0_openGap 1 (fun z τ => τ = putA σ k (cpI (σ k) (σ k) b (b + 1) (σ 0 6 - b))) 0 [some (.inr 0), some (.inr k), some (.inl b)] [] σ := by
  refine Wp.rg (fun hR => ?_)
  refine w_aload_n dX0_openGap_0 rfl ?_
  refine w_iload_n dX0_openGap_1 rfl ?_
  refine w_aload_n dX0_openGap_2 rfl ?_
  refine w_iload_n dX0_openGap_3 rfl ?_
  refine w_iconst dX0_openGap_4 ?_
  refine w_iadd dX0_openGap_5 ?_
  refine w_aload_n dX0_openGap_6 rfl ?_
  refine gf_X0_30 rfl dX0_openGap_7 ?_
  refine w_iload_n dX0_openGap_10 rfl ?_
  refine w_isub dX0_openGap_11 ?_
  refine w_copy dX0_openGap_12 tw_431 tw_363 tw_362 tw_68 (Nat.le_of_ble_eq_true rfl) hk hk (by omega) (by omega) (by omega) (by omega) (by omega) ?_
  refine w_ret dX0_openGap_15 rfl ?_
  rfl

set_option maxRecDepth 100000 in
set_option maxHeartbeats 4000000 in
theorem ct_X0_closeGap (σ : St) (k : Nat) (b : Int) (hk : shT[k]? = some (.inr (.inl 60))) (hb : 0 ≤ b ∧ b ≤ σ 0 6 ∧ σ 0 6 < 60) : Wp mX0_closeGap 1 (fun z τ => τ = putA σ k (cpI (σ k) (σ k) (b + 1) b (σ 0 6 - b))) 0 [some (.inr 0), some (.inr k), some (.inl b)] [] σ := by
  refine Wp.rg (fun hR => ?_)
  refine w_aload_n dX0_closeGap_0 rfl ?_
  refine w_iload_n dX0_closeGap_1 rfl ?_
  refine w_iconst dX0_closeGap_2 ?_
  refine w_iadd dX0_closeGap_3 ?_
  refine w_aload_n dX0_closeGap_4 rfl ?_
  refine w_iload_n dX0_closeGap_5 rfl ?_
  refine w_aload_n dX0_closeGap_6 rfl ?_
  refine gf_X0_30 rfl dX0_closeGap_7 ?_
  refine w_iload_n dX0_closeGap_10 rfl ?_
  refine w_isub dX0_closeGap_11 ?_
  refine w_copy dX0_closeGap_12 tw_431 tw_363 tw_362 tw_68 (Nat.le_of_ble_eq_true rfl) hk hk (by omega) (by omega) (by omega) (by omega) (by omega) ?_
  refine w_ret dX0_closeGap_15 rfl ?_
  rfl

set_option maxRecDepth 100000 in
set_option maxHeartbeats 4000000 in
theorem ct_X0_insert (σ : St) (b g w s : Int) (hb : 0 ≤ b ∧ b ≤ σ 0 6 ∧ σ 0 6 < 60) (hg : InR g) (hw : InR w) (hs : InR s) : Wp mX0_insert 2 (fun z τ => (∀ j, 0 ≤ j → j ≤ σ 0 6 → τ 8 j = ins (σ 8) b g j ∧ τ 9 j = ins (σ 9) b w j ∧ τ 10 j = ins (σ 10) b 0 j ∧ τ 11 j = ins (σ 11) b s j ∧ τ 12 j = ins (σ 12) b 0 j) ∧ τ 0 6 = σ 0 6 + 1 ∧ τ 0 7 = σ 0 7 ∧ ∀ k, k ≠ 0 → k ≠ 8 → k ≠ 9 → k ≠ 10 → k ≠ 11 → k ≠ 12 → τ k = σ k) 0 [some (.inr 0), some (.inl b), some (.inl g), some (.inl w), some (.inl s)] [] σ := by
  refine Wp.rg (fun hR => ?_)
  refine w_aload_n dX0_insert_0 rfl ?_
  refine w_aload_n dX0_insert_1 rfl ?_
  refine gf_X0_9 rfl dX0_insert_2 ?_
  refine w_iload_n dX0_insert_5 rfl ?_
  refine cv_X0_34 rfl dX0_insert_6 (Nat.le_of_ble_eq_true rfl) (Nat.le_of_ble_eq_true rfl) (Wp.mono (ct_X0_openGap _ _ b rfl (by first | omega | (simp only [putA_eq]; simp; omega))) (fun z_ τ_ hq_ => ?_))
  subst τ_
  refine w_aload_n dX0_insert_9 rfl ?_
  refine w_aload_n dX0_insert_10 rfl ?_
  refine gf_X0_15 rfl dX0_insert_11 ?_
  refine w_iload_n dX0_insert_14 rfl ?_
  refine cv_X0_34 rfl dX0_insert_15 (Nat.le_of_ble_eq_true rfl) (Nat.le_of_ble_eq_true rfl) (Wp.mono (ct_X0_openGap _ _ b rfl (by first | omega | (simp only [putA_eq]; simp; omega))) (fun z_ τ_ hq_ => ?_))
  subst τ_
  refine w_aload_n dX0_insert_18 rfl ?_
  refine w_aload_n dX0_insert_19 rfl ?_
  refine gf_X0_18 rfl dX0_insert_20 ?_
  refine w_iload_n dX0_insert_23 rfl ?_
  refine cv_X0_34 rfl dX0_insert_24 (Nat.le_of_ble_eq_true rfl) (Nat.le_of_ble_eq_true rfl) (Wp.mono (ct_X0_openGap _ _ b rfl (by first | omega | (simp only [putA_eq]; simp; omega))) (fun z_ τ_ hq_ => ?_))
  subst τ_
  refine w_aload_n dX0_insert_27 rfl ?_
  refine w_aload_n dX0_insert_28 rfl ?_
  refine gf_X0_21 rfl dX0_insert_29 ?_
  refine w_iload_n dX0_insert_32 rfl ?_
  refine cv_X0_34 rfl dX0_insert_33 (Nat.le_of_ble_eq_true rfl) (Nat.le_of_ble_eq_true rfl) (Wp.mono (ct_X0_openGap _ _ b rfl (by first | omega | (simp only [putA_eq]; simp; omega))) (fun z_ τ_ hq_ => ?_))
  subst τ_
  refine w_aload_n dX0_insert_36 rfl ?_
  refine w_aload_n dX0_insert_37 rfl ?_
  refine gf_X0_24 rfl dX0_insert_38 ?_
  refine w_iload_n dX0_insert_41 rfl ?_
  refine cv_X0_34 rfl dX0_insert_42 (Nat.le_of_ble_eq_true rfl) (Nat.le_of_ble_eq_true rfl) (Wp.mono (ct_X0_openGap _ _ b rfl (by first | omega | (simp only [putA_eq]; simp; omega))) (fun z_ τ_ hq_ => ?_))
  subst τ_
  refine w_aload_n dX0_insert_45 rfl ?_
  refine w_dup dX0_insert_46 ?_
  refine gf_X0_30 rfl dX0_insert_47 ?_
  refine w_iconst dX0_insert_50 ?_
  refine w_iadd dX0_insert_51 ?_
  refine pf_X0_30 rfl (by simp only [put_eq, putA_eq]; simp; omega) dX0_insert_52 ?_
  refine w_aload_n dX0_insert_55 rfl ?_
  refine gf_X0_9 rfl dX0_insert_56 ?_
  refine w_iload_n dX0_insert_59 rfl ?_
  refine w_iload_n dX0_insert_60 rfl ?_
  refine w_iast rfl (by omega) hg dX0_insert_61 ?_
  refine w_aload_n dX0_insert_62 rfl ?_
  refine gf_X0_15 rfl dX0_insert_63 ?_
  refine w_iload_n dX0_insert_66 rfl ?_
  refine w_iload_n dX0_insert_67 rfl ?_
  refine w_iast rfl (by omega) hw dX0_insert_68 ?_
  refine w_aload_n dX0_insert_69 rfl ?_
  refine gf_X0_18 rfl dX0_insert_70 ?_
  refine w_iload_n dX0_insert_73 rfl ?_
  refine w_iconst dX0_insert_74 ?_
  refine w_iast rfl (by omega) (by omega) dX0_insert_75 ?_
  refine w_aload_n dX0_insert_76 rfl ?_
  refine gf_X0_21 rfl dX0_insert_77 ?_
  refine w_iload_n dX0_insert_80 rfl ?_
  refine w_iload dX0_insert_81 rfl ?_
  refine w_iast rfl (by omega) hs dX0_insert_83 ?_
  refine w_aload_n dX0_insert_84 rfl ?_
  refine gf_X0_24 rfl dX0_insert_85 ?_
  refine w_iload_n dX0_insert_88 rfl ?_
  refine w_iconst dX0_insert_89 ?_
  refine w_iast rfl (by omega) (by omega) dX0_insert_90 ?_
  refine w_ret dX0_insert_91 rfl ?_
  refine ⟨fun j h1 h2 => ?_, by simp [put_eq, putA_eq], by simp [put_eq, putA_eq], fun k k0 k1 k2 k3 k4 k5 => by funext j; simp [put_eq, putA_eq, k0, k1, k2, k3, k4, k5]⟩
  simp only [put_eq, putA_eq, cpI, ins]
  simp
  by_cases q1 : j < b
  · simp [q1, show ¬ j = b by omega, show ¬ b + 1 ≤ j by omega]
  · by_cases q2 : j = b
    · simp [q2]
    · have e1 : b + (j - (b + 1)) = j - 1 := by omega
      have e2 : b + 1 ≤ j ∧ j < b + 1 + (σ 0 6 - b) := by omega
      simp [q1, q2, e1, e2]

set_option maxRecDepth 100000 in
set_option maxHeartbeats 4000000 in
theorem ct_X0_remove (σ : St) (b : Int) (hb : 0 ≤ b ∧ b < σ 0 6 ∧ σ 0 6 ≤ 60) : Wp mX0_remove 2 (fun z τ => (∀ j, 0 ≤ j → j < σ 0 6 - 1 → τ 8 j = del (σ 8) b j ∧ τ 9 j = del (σ 9) b j ∧ τ 10 j = del (σ 10) b j ∧ τ 11 j = del (σ 11) b j ∧ τ 12 j = del (σ 12) b j) ∧ τ 0 6 = σ 0 6 - 1 ∧ τ 0 7 = σ 0 7 ∧ ∀ k, k ≠ 0 → k ≠ 8 → k ≠ 9 → k ≠ 10 → k ≠ 11 → k ≠ 12 → τ k = σ k) 0 [some (.inr 0), some (.inl b)] [] σ := by
  refine Wp.rg (fun hR => ?_)
  refine w_aload_n dX0_remove_0 rfl ?_
  refine w_dup dX0_remove_1 ?_
  refine gf_X0_30 rfl dX0_remove_2 ?_
  refine w_iconst dX0_remove_5 ?_
  refine w_isub dX0_remove_6 ?_
  refine pf_X0_30 rfl (by omega) dX0_remove_7 ?_
  refine w_aload_n dX0_remove_10 rfl ?_
  refine w_aload_n dX0_remove_11 rfl ?_
  refine gf_X0_9 rfl dX0_remove_12 ?_
  refine w_iload_n dX0_remove_15 rfl ?_
  refine cv_X0_44 rfl dX0_remove_16 (Nat.le_of_ble_eq_true rfl) (Nat.le_of_ble_eq_true rfl) (Wp.mono (ct_X0_closeGap _ _ b rfl (by simp only [put_eq, putA_eq]; simp; omega)) (fun z_ τ_ hq_ => ?_))
  subst τ_
  refine w_aload_n dX0_remove_19 rfl ?_
  refine w_aload_n dX0_remove_20 rfl ?_
  refine gf_X0_15 rfl dX0_remove_21 ?_
  refine w_iload_n dX0_remove_24 rfl ?_
  refine cv_X0_44 rfl dX0_remove_25 (Nat.le_of_ble_eq_true rfl) (Nat.le_of_ble_eq_true rfl) (Wp.mono (ct_X0_closeGap _ _ b rfl (by simp only [put_eq, putA_eq]; simp; omega)) (fun z_ τ_ hq_ => ?_))
  subst τ_
  refine w_aload_n dX0_remove_28 rfl ?_
  refine w_aload_n dX0_remove_29 rfl ?_
  refine gf_X0_18 rfl dX0_remove_30 ?_
  refine w_iload_n dX0_remove_33 rfl ?_
  refine cv_X0_44 rfl dX0_remove_34 (Nat.le_of_ble_eq_true rfl) (Nat.le_of_ble_eq_true rfl) (Wp.mono (ct_X0_closeGap _ _ b rfl (by simp only [put_eq, putA_eq]; simp; omega)) (fun z_ τ_ hq_ => ?_))
  subst τ_
  refine w_aload_n dX0_remove_37 rfl ?_
  refine w_aload_n dX0_remove_38 rfl ?_
  refine gf_X0_21 rfl dX0_remove_39 ?_
  refine w_iload_n dX0_remove_42 rfl ?_
  refine cv_X0_44 rfl dX0_remove_43 (Nat.le_of_ble_eq_true rfl) (Nat.le_of_ble_eq_true rfl) (Wp.mono (ct_X0_closeGap _ _ b rfl (by simp only [put_eq, putA_eq]; simp; omega)) (fun z_ τ_ hq_ => ?_))
  subst τ_
  refine w_aload_n dX0_remove_46 rfl ?_
  refine w_aload_n dX0_remove_47 rfl ?_
  refine gf_X0_24 rfl dX0_remove_48 ?_
  refine w_iload_n dX0_remove_51 rfl ?_
  refine cv_X0_44 rfl dX0_remove_52 (Nat.le_of_ble_eq_true rfl) (Nat.le_of_ble_eq_true rfl) (Wp.mono (ct_X0_closeGap _ _ b rfl (by simp only [put_eq, putA_eq]; simp; omega)) (fun z_ τ_ hq_ => ?_))
  subst τ_
  refine w_ret dX0_remove_55 rfl ?_
  refine ⟨fun j h1 h2 => ?_, by simp [put_eq, putA_eq], by simp [put_eq, putA_eq], fun k k0 k1 k2 k3 k4 k5 => by funext j; simp [put_eq, putA_eq, k0, k1, k2, k3, k4, k5]⟩
  simp only [put_eq, putA_eq, cpI, del]
  simp
  by_cases q1 : j < b
  · simp [q1, show ¬ b ≤ j by omega]
  · have e1 : b + 1 + (j - b) = j + 1 := by omega
    have e2 : b ≤ j ∧ j < b + (σ 0 6 - 1 - b) := by omega
    simp [q1, e1, e2]

/-- of a group the first of those that lost most, or -1 -/
def bstF (grp los : Int → Int) (g n : Int) : Int := foI (fun b c => if grp b = g ∧ (c = -1 ∨ los c < los b) then b else c) (-1) n
theorem bstF_s (grp los : Int → Int) (g : Int) {i : Int} (h : 0 ≤ i) : bstF grp los g (i + 1) = if grp i = g ∧ (bstF grp los g i = -1 ∨ los (bstF grp los g i) < los i) then i else bstF grp los g i := foI_s _ _ h
theorem bstF_in (grp los : Int → Int) (g n : Int) (hn : 0 ≤ n) : bstF grp los g n = -1 ∨ (0 ≤ bstF grp los g n ∧ bstF grp los g n < n ∧ grp (bstF grp los g n) = g) := by
  refine up_to n (fun i => 0 ≤ i → (bstF grp los g i = -1 ∨ (0 ≤ bstF grp los g i ∧ bstF grp los g i < i ∧ grp (bstF grp los g i) = g)) → (bstF grp los g n = -1 ∨ (0 ≤ bstF grp los g n ∧ bstF grp los g n < n ∧ grp (bstF grp los g n) = g))) (fun i hi ih h0 h => ?_) 0 hn (by omega) (Or.inl rfl)
  by_cases q : i = n
  · subst q; exact h
  · refine ih (by omega) (by omega) ?_
    rw [bstF_s _ _ _ h0]
    split
    · rename_i hc
      exact Or.inr ⟨h0, by omega, hc.1⟩
    · rcases h with h | h
      · exact Or.inl h
      · exact Or.inr ⟨h.1, by omega, h.2.2⟩

set_option maxRecDepth 100000 in
set_option maxHeartbeats 4000000 in
theorem ct_X0_giveOneMore (σ : St) (g : Int) (hb : 0 ≤ σ 0 6 ∧ σ 0 6 ≤ 60) (hg : InR g) (hnd : ∀ b, 0 ≤ b → b < σ 0 6 → σ 8 b = g → 0 ≤ σ 10 b ∧ σ 10 b ≤ 1000) : Wp mX0_giveOneMore 0 (fun z τ => (bstF (σ 8) (σ 13) g (σ 0 6) = -1 → z = 0 ∧ τ = σ) ∧ (bstF (σ 8) (σ 13) g (σ 0 6) ≠ -1 → z = 1 ∧ τ = put (put σ 10 (bstF (σ 8) (σ 13) g (σ 0 6)) (σ 10 (bstF (σ 8) (σ 13) g (σ 0 6)) + 1)) 13 (bstF (σ 8) (σ 13) g (σ 0 6)) (-1))) 0 [some (.inr 0), some (.inl g), none, none] [] σ := by
  refine Wp.rg (fun hR => ?_)
  refine w_iconst dX0_giveOneMore_0 ?_
  refine w_istore_n dX0_giveOneMore_1 (Nat.le_of_ble_eq_true rfl) ?_
  refine w_iconst dX0_giveOneMore_2 ?_
  refine w_istore_n dX0_giveOneMore_3 (Nat.le_of_ble_eq_true rfl) ?_
  refine up_to (σ 0 6) (fun i => 0 ≤ i → ∀ c, (c = bstF (σ 8) (σ 13) g i ∧ (c = -1 ∨ (0 ≤ c ∧ c < i ∧ σ 8 c = g))) → Wp mX0_giveOneMore 0 (fun z τ => (bstF (σ 8) (σ 13) g (σ 0 6) = -1 → z = 0 ∧ τ = σ) ∧ (bstF (σ 8) (σ 13) g (σ 0 6) ≠ -1 → z = 1 ∧ τ = put (put σ 10 (bstF (σ 8) (σ 13) g (σ 0 6)) (σ 10 (bstF (σ 8) (σ 13) g (σ 0 6)) + 1)) 13 (bstF (σ 8) (σ 13) g (σ 0 6)) (-1))) 4 [some (.inr 0), some (.inl g), some (.inl c), some (.inl i)] [] σ) (fun i hi ih h0 c hinv => ?_) (0) (by omega) (by omega) (-1) ⟨rfl, Or.inl rfl⟩
  refine w_iload_n dX0_giveOneMore_4 rfl ?_
  refine w_aload_n dX0_giveOneMore_5 rfl ?_
  refine gf_X0_30 rfl dX0_giveOneMore_6 ?_
  refine w_icmp_ge (tgt := 50) dX0_giveOneMore_9 (by decide) (by omega) (by omega) (fun c_9 => ?_) (fun c_9 => ?_)
  · have ei : i = σ 0 6 := by omega
    subst ei
    refine w_iload_n dX0_giveOneMore_50 rfl ?_
    refine w_iconst dX0_giveOneMore_51 ?_
    refine w_icmp_ne (tgt := 57) dX0_giveOneMore_52 (by decide) (by omega) (by omega) (fun c_52 => ?_) (fun c_52 => ?_)
    · refine w_aload_n dX0_giveOneMore_57 rfl ?_
      refine gf_X0_18 rfl dX0_giveOneMore_58 ?_
      refine w_iload_n dX0_giveOneMore_61 rfl ?_
      refine w_dup2 dX0_giveOneMore_62 ?_
      refine w_iald rfl (by omega) dX0_giveOneMore_63 ?_
      refine w_iconst dX0_giveOneMore_64 ?_
      refine w_iadd dX0_giveOneMore_65 ?_
      refine w_iast rfl (by omega) (by have := hnd c (by omega) (by omega) (by omega); omega) dX0_giveOneMore_66 ?_
      refine w_aload_n dX0_giveOneMore_67 rfl ?_
      refine gf_X0_27 rfl dX0_giveOneMore_68 ?_
      refine w_iload_n dX0_giveOneMore_71 rfl ?_
      refine w_iconst dX0_giveOneMore_72 ?_
      refine w_iast rfl (by omega) (by omega) dX0_giveOneMore_73 ?_
      refine w_iconst dX0_giveOneMore_74 ?_
      refine w_iret dX0_giveOneMore_75 rfl ?_
      refine ⟨fun q => absurd (hinv.1.trans q) c_52, fun _ => ⟨rfl, by rw [← hinv.1]⟩⟩
    · refine w_iconst dX0_giveOneMore_55 ?_
      refine w_iret dX0_giveOneMore_56 rfl ?_
      refine ⟨fun _ => ⟨rfl, rfl⟩, fun q => absurd (hinv.1.symm.trans c_52) q⟩
  · refine w_aload_n dX0_giveOneMore_12 rfl ?_
    refine gf_X0_9 rfl dX0_giveOneMore_13 ?_
    refine w_iload_n dX0_giveOneMore_16 rfl ?_
    refine w_iald rfl (by omega) dX0_giveOneMore_17 ?_
    refine w_iload_n dX0_giveOneMore_18 rfl ?_
    refine w_icmp_ne (tgt := 44) dX0_giveOneMore_19 (by decide) (hR _ _) hg (fun c_19 => ?_) (fun c_19 => ?_)
    · refine w_iinc dX0_giveOneMore_44 (Nat.le_of_ble_eq_true rfl) rfl ?_
      refine w_goto (tgt := 4) dX0_giveOneMore_47 (by decide) ?_
      refine ih (by omega) (by omega) _ ⟨?_, by omega⟩
      rw [bstF_s _ _ _ h0, ← hinv.1]
      first | rw [if_pos (by omega)] | rw [if_neg (by omega)]
    · refine w_iload_n dX0_giveOneMore_22 rfl ?_
      refine w_iconst dX0_giveOneMore_23 ?_
      refine w_icmp_eq (tgt := 42) dX0_giveOneMore_24 (by decide) (by omega) (by omega) (fun c_24 => ?_) (fun c_24 => ?_)
      · refine w_iload_n dX0_giveOneMore_42 rfl ?_
        refine w_istore_n dX0_giveOneMore_43 (Nat.le_of_ble_eq_true rfl) ?_
        refine w_iinc dX0_giveOneMore_44 (Nat.le_of_ble_eq_true rfl) rfl ?_
        refine w_goto (tgt := 4) dX0_giveOneMore_47 (by decide) ?_
        refine ih (by omega) (by omega) _ ⟨?_, by omega⟩
        rw [bstF_s _ _ _ h0, ← hinv.1]
        first | rw [if_pos (by omega)] | rw [if_neg (by omega)]
      · refine w_aload_n dX0_giveOneMore_27 rfl ?_
        refine gf_X0_27 rfl dX0_giveOneMore_28 ?_
        refine w_iload_n dX0_giveOneMore_31 rfl ?_
        refine w_iald rfl (by omega) dX0_giveOneMore_32 ?_
        refine w_aload_n dX0_giveOneMore_33 rfl ?_
        refine gf_X0_27 rfl dX0_giveOneMore_34 ?_
        refine w_iload_n dX0_giveOneMore_37 rfl ?_
        refine w_iald rfl (by omega) dX0_giveOneMore_38 ?_
        refine w_icmp_le (tgt := 44) dX0_giveOneMore_39 (by decide) (hR _ _) (hR _ _) (fun c_39 => ?_) (fun c_39 => ?_)
        · refine w_iinc dX0_giveOneMore_44 (Nat.le_of_ble_eq_true rfl) rfl ?_
          refine w_goto (tgt := 4) dX0_giveOneMore_47 (by decide) ?_
          refine ih (by omega) (by omega) _ ⟨?_, by omega⟩
          rw [bstF_s _ _ _ h0, ← hinv.1]
          first | rw [if_pos (by omega)] | rw [if_neg (by omega)]
        · refine w_iload_n dX0_giveOneMore_42 rfl ?_
          refine w_istore_n dX0_giveOneMore_43 (Nat.le_of_ble_eq_true rfl) ?_
          refine w_iinc dX0_giveOneMore_44 (Nat.le_of_ble_eq_true rfl) rfl ?_
          refine w_goto (tgt := 4) dX0_giveOneMore_47 (by decide) ?_
          refine ih (by omega) (by omega) _ ⟨?_, by omega⟩
          rw [bstF_s _ _ _ h0, ← hinv.1]
          first | rw [if_pos (by omega)] | rw [if_neg (by omega)]

def shI (grp wid : Int → Int) (i g G all : Int) (f : Int → Int) : Int → Int := fun b => if 0 ≤ b ∧ b < i ∧ grp b = g then G * wid b / all else f b
def shL (grp wid : Int → Int) (i g G all : Int) (f : Int → Int) : Int → Int := fun b => if 0 ≤ b ∧ b < i ∧ grp b = g then G * wid b % all else f b
/-- one more to the first of those that lost most -/
def gvS (grp : Int → Int) (g n : Int) (p : (Int → Int) × (Int → Int)) : (Int → Int) × (Int → Int) := (upF p.1 (bstF grp p.2 g n) (p.1 (bstF grp p.2 g n) + 1), upF p.2 (bstF grp p.2 g n) (-1))
def gvN (grp : Int → Int) (g n : Int) (p : (Int → Int) × (Int → Int)) : Nat → (Int → Int) × (Int → Int)
  | 0 => p
  | k + 1 => gvS grp g n (gvN grp g n p k)
theorem shI_s (grp wid : Int → Int) (g G all : Int) (f : Int → Int) {i : Int} (h0 : 0 ≤ i) : shI grp wid (i + 1) g G all f = if grp i = g then upF (shI grp wid i g G all f) i (G * wid i / all) else shI grp wid i g G all f := by
  funext b
  by_cases q : grp i = g
  · rw [if_pos q]
    unfold shI upF
    by_cases e : b = i
    · subst e; rw [if_pos (by omega), if_pos rfl]
    · rw [if_neg e]
      dsimp only
      by_cases e2 : 0 ≤ b ∧ b < i ∧ grp b = g
      · rw [if_pos e2, if_pos (by omega)]
      · rw [if_neg e2, if_neg (by omega)]
  · rw [if_neg q]
    unfold shI
    by_cases e2 : 0 ≤ b ∧ b < i ∧ grp b = g
    · rw [if_pos e2, if_pos (by omega)]
    · rw [if_neg e2, if_neg (by
        intro h
        by_cases e : b = i
        · subst e; exact q h.2.2
        · exact e2 ⟨h.1, by omega, h.2.2⟩)]
theorem shL_s (grp wid : Int → Int) (g G all : Int) (f : Int → Int) {i : Int} (h0 : 0 ≤ i) : shL grp wid (i + 1) g G all f = if grp i = g then upF (shL grp wid i g G all f) i (G * wid i % all) else shL grp wid i g G all f := by
  funext b
  by_cases q : grp i = g
  · rw [if_pos q]
    unfold shL upF
    by_cases e : b = i
    · subst e; rw [if_pos (by omega), if_pos rfl]
    · rw [if_neg e]
      dsimp only
      by_cases e2 : 0 ≤ b ∧ b < i ∧ grp b = g
      · rw [if_pos e2, if_pos (by omega)]
      · rw [if_neg e2, if_neg (by omega)]
  · rw [if_neg q]
    unfold shL
    by_cases e2 : 0 ≤ b ∧ b < i ∧ grp b = g
    · rw [if_pos e2, if_pos (by omega)]
    · rw [if_neg e2, if_neg (by
        intro h
        by_cases e : b = i
        · subst e; exact q h.2.2
        · exact e2 ⟨h.1, by omega, h.2.2⟩)]
theorem shI_0 (grp wid : Int → Int) (g G all : Int) (f : Int → Int) : shI grp wid 0 g G all f = f := by
  funext b
  unfold shI
  rw [if_neg (by omega)]
theorem shL_0 (grp wid : Int → Int) (g G all : Int) (f : Int → Int) : shL grp wid 0 g G all f = f := by
  funext b
  unfold shL
  rw [if_neg (by omega)]
theorem sumW_s (row amt : Int → Int) (v : Int) {i : Int} (h : 0 ≤ i) : sumW row amt v (i + 1) = if row i = v then sumW row amt v i + amt i else sumW row amt v i := foI_s _ _ h
theorem sumW_0 (row amt : Int → Int) (v : Int) : sumW row amt v 0 = 0 := rfl
/-- what is left when all parts are rounded down -/
def lftF (grp wid : Int → Int) (n g G : Int) : Int := G - sumW grp (fun b => G * wid b / sumW grp wid g n) g n
/-- bounds of the sums -/
theorem sumW_bd (row amt : Int → Int) (v n lo hi : Int) (hlo : lo ≤ 0) (hhi : 0 ≤ hi) (h : ∀ b, 0 ≤ b → b < n → row b = v → lo ≤ amt b ∧ amt b ≤ hi) : ∀ i, 0 ≤ i → i ≤ n → lo * i ≤ sumW row amt v i ∧ sumW row amt v i ≤ hi * i := by
  intro i h0 hi1
  have key : ∀ k : Nat, (k : Int) ≤ n → lo * k ≤ sumW row amt v k ∧ sumW row amt v k ≤ hi * k := by
    intro k
    induction k with
    | zero => intro _; rw [show ((0 : Nat) : Int) = 0 from rfl, sumW_0]; omega
    | succ k ih =>
      intro hk
      have ih := ih (by omega)
      have e : (((k + 1 : Nat)) : Int) = (k : Int) + 1 := by omega
      rw [e, sumW_s _ _ _ (by omega), Int.mul_add, Int.mul_add]
      split
      · rename_i hv
        have := h k (by omega) (by omega) hv
        omega
      · omega
  have := key i.toNat (by omega)
  rwa [show ((i.toNat : Nat) : Int) = i by omega] at this
theorem lft_key (grp wid : Int → Int) (g G all n : Int) (ha : 0 < all) : ∀ k : Nat, all * sumW grp (fun b => G * wid b / all) g k + sumW grp (fun b => G * wid b % all) g k = G * sumW grp wid g k := by
  intro k
  induction k with
  | zero => simp [sumW_0]
  | succ k ih =>
    have e : (((k + 1 : Nat)) : Int) = (k : Int) + 1 := by omega
    rw [e, sumW_s _ _ _ (by omega), sumW_s _ _ _ (by omega), sumW_s _ _ _ (by omega)]
    split
    · have := Int.mul_ediv_add_emod (G * wid k) all
      rw [Int.mul_add, Int.mul_add, ← ih]
      omega
    · exact ih
theorem lft_bd (grp wid : Int → Int) (n g G : Int) (h0 : 0 ≤ n) (ha : 0 < sumW grp wid g n) : 0 ≤ lftF grp wid n g G ∧ lftF grp wid n g G ≤ n := by
  have k1 := lft_key grp wid g G (sumW grp wid g n) n ha n.toNat
  rw [show ((n.toNat : Nat) : Int) = n by omega] at k1
  generalize hA : sumW grp wid g n = all at ha k1
  have k2 := sumW_bd grp (fun b => G * wid b % all) g n 0 all (by omega) (by omega) (fun b _ _ _ => ⟨Int.emod_nonneg _ (by omega), Int.le_of_lt (Int.emod_lt_of_pos _ ha)⟩) n h0 (by omega)
  unfold lftF
  rw [hA]
  generalize sumW grp (fun b => G * wid b / all) g n = S at k1 ⊢
  generalize sumW grp (fun b => G * wid b % all) g n = T at k1 k2
  have e : all * (G - S) = T := by rw [Int.mul_sub, Int.mul_comm all G]; omega
  constructor
  · by_cases q : 0 ≤ G - S
    · exact q
    · have : all * (G - S) < 0 := Int.mul_neg_of_pos_of_neg ha (by omega)
      omega
  · by_cases q : G - S ≤ n
    · exact q
    · have : all * n < all * (G - S) := Int.mul_lt_mul_of_pos_left (by omega) ha
      omega
/-- the gifts keep within bounds -/
theorem gvN_bd (grp : Int → Int) (g n : Int) (p : (Int → Int) × (Int → Int)) (P : Int → Prop) (lo hi : Int) (h : ∀ b, P b → lo ≤ p.1 b ∧ p.1 b ≤ hi) : ∀ (k : Nat) (b : Int), P b → lo ≤ (gvN grp g n p k).1 b ∧ (gvN grp g n p k).1 b ≤ hi + k := by
  intro k
  induction k with
  | zero => intro b hP; have := h b hP; show lo ≤ p.1 b ∧ p.1 b ≤ hi + ((0 : Nat) : Int); omega
  | succ k ih =>
    intro b hP
    show lo ≤ upF _ _ _ b ∧ upF _ _ _ b ≤ _
    have h1 := ih b hP
    unfold upF
    by_cases e : b = bstF grp (gvN grp g n p k).2 g n
    · rw [if_pos e, ← e]; omega
    · rw [if_neg e]; omega
theorem bst_none (grp los : Int → Int) (g : Int) : ∀ k : Nat, bstF grp los g k = -1 → ∀ b, 0 ≤ b → b < k → grp b ≠ g := by
  intro k
  induction k with
  | zero => intro _ b h1 h2; omega
  | succ k ih =>
    intro h b h1 h2
    have e : (((k + 1 : Nat)) : Int) = (k : Int) + 1 := by omega
    rw [e, bstF_s _ _ _ (by omega)] at h
    by_cases q : grp k = g ∧ (bstF grp los g k = -1 ∨ los (bstF grp los g k) < los k)
    · rw [if_pos q] at h; omega
    · rw [if_neg q] at h
      by_cases e2 : b = k
      · subst e2
        intro q2
        exact q ⟨q2, Or.inl h⟩
      · exact ih h b h1 (by omega)
theorem sumW_none (row amt : Int → Int) (v : Int) : ∀ k : Nat, (∀ b, 0 ≤ b → b < k → row b ≠ v) → sumW row amt v k = 0 := by
  intro k
  induction k with
  | zero => intro _; rfl
  | succ k ih =>
    intro h
    have e : (((k + 1 : Nat)) : Int) = (k : Int) + 1 := by omega
    rw [e, sumW_s _ _ _ (by omega), if_neg (h k (by omega) (by omega))]
    exact ih (fun b h1 h2 => h b h1 (by omega))
theorem bst_some {grp los wid : Int → Int} {g n : Int} (h0 : 0 ≤ n) (h : 0 < sumW grp wid g n) : bstF grp los g n ≠ -1 := by
  intro q
  have e : ((n.toNat : Nat) : Int) = n := by omega
  rw [← e] at q h
  have := sumW_none grp wid g n.toNat (bst_none grp los g n.toNat q)
  omega

theorem sumW_in (row amt : Int → Int) (v n : Int) (h0 : 0 ≤ n) (h : ∀ b, 0 ≤ b → b < n → row b = v → 0 ≤ amt b) (b : Int) (hb : 0 ≤ b) (hbn : b < n) (hv : row b = v) : amt b ≤ sumW row amt v n := by
  have mono : ∀ k : Nat, b + 1 + k ≤ n → amt b ≤ sumW row amt v (b + 1 + k) := by
    intro k
    induction k with
    | zero =>
      intro _
      have := sumW_bd row amt v b 0 2147483648 (by omega) (by omega)
      rw [show b + 1 + ((0 : Nat) : Int) = b + 1 by omega, sumW_s _ _ _ hb, if_pos hv]
      have nn : ∀ j : Nat, (j : Int) ≤ n → 0 ≤ sumW row amt v j := by
        intro j
        induction j with
        | zero => intro _; exact Int.le_refl 0
        | succ j ih =>
          intro hj
          have e : (((j + 1 : Nat)) : Int) = (j : Int) + 1 := by omega
          rw [e, sumW_s _ _ _ (by omega)]
          have := ih (by omega)
          split
          · rename_i hq
            have := h j (by omega) (by omega) hq
            omega
          · exact this
      have := nn b.toNat (by omega)
      rw [show ((b.toNat : Nat) : Int) = b by omega] at this
      omega
    | succ k ih =>
      intro hk
      have ih := ih (by omega)
      rw [show b + 1 + ((k + 1 : Nat) : Int) = (b + 1 + k) + 1 by omega, sumW_s _ _ _ (by omega)]
      split
      · rename_i hq
        have := h (b + 1 + k) (by omega) (by omega) hq
        omega
      · exact ih
  have := mono (n - b - 1).toNat (by omega)
  rwa [show b + 1 + (((n - b - 1).toNat : Nat) : Int) = n by omega] at this

set_option maxRecDepth 100000 in
set_option maxHeartbeats 4000000 in
theorem ct_X0_shareGrowth (σ : St) (g G : Int) (hb : 0 ≤ σ 0 6 ∧ σ 0 6 ≤ 60) (hw : ∀ b, 0 ≤ b → b < σ 0 6 → 1 ≤ σ 9 b ∧ σ 9 b ≤ 40) (hG : 0 ≤ G ∧ G ≤ 99) (hg : InR g) : Wp mX0_shareGrowth 2 (fun z τ => ((sumW (σ 8) (σ 9) g (σ 0 6)) ≤ 0 → τ = σ) ∧ (0 < (sumW (σ 8) (σ 9) g (σ 0 6)) → τ = putA (putA σ 10 (gvN (σ 8) g (σ 0 6) (shI (σ 8) (σ 9) (σ 0 6) g G (sumW (σ 8) (σ 9) g (σ 0 6)) (σ 10), shL (σ 8) (σ 9) (σ 0 6) g G (sumW (σ 8) (σ 9) g (σ 0 6)) (σ 13)) (lftF (σ 8) (σ 9) (σ 0 6) g G).toNat).1) 13 (gvN (σ 8) g (σ 0 6) (shI (σ 8) (σ 9) (σ 0 6) g G (sumW (σ 8) (σ 9) g (σ 0 6)) (σ 10), shL (σ 8) (σ 9) (σ 0 6) g G (sumW (σ 8) (σ 9) g (σ 0 6)) (σ 13)) (lftF (σ 8) (σ 9) (σ 0 6) g G).toNat).2)) 0 [some (.inr 0), some (.inl g), some (.inl G), none, none, none] [] σ := by
  refine Wp.rg (fun hR => ?_)
  have hal := sumW_bd (σ 8) (σ 9) g (σ 0 6) 0 40 (by omega) (by omega) (fun b h1 h2 _ => by have := hw b h1 h2; omega) (σ 0 6) hb.1 (by omega)
  have hwa : ∀ b, 0 ≤ b → b < σ 0 6 → σ 8 b = g → 0 ≤ G * σ 9 b ∧ G * σ 9 b ≤ 3960 := fun b h1 h2 _ => by
    have h3 := hw b h1 h2
    have h4 : G * σ 9 b ≤ 99 * σ 9 b := Int.mul_le_mul_of_nonneg_right (by omega) (by omega)
    have h5 : 0 ≤ G * σ 9 b := Int.mul_nonneg (by omega) (by omega)
    omega
  refine w_aload_n dX0_shareGrowth_0 rfl ?_
  refine w_iload_n dX0_shareGrowth_1 rfl ?_
  refine cv_X0_50 rfl dX0_shareGrowth_2 (Nat.le_of_ble_eq_true rfl) (Nat.le_of_ble_eq_true rfl) (Wp.mono (ct_X0_widthsIn σ g hb hg) (fun z_ τ_ hq_ => ?_))
  obtain ⟨hz_, hs_⟩ := hq_
  subst z_
  subst τ_
  refine w_istore_n dX0_shareGrowth_5 (Nat.le_of_ble_eq_true rfl) ?_
  refine w_iload_n dX0_shareGrowth_6 rfl ?_
  refine w_if_gt (tgt := 11) dX0_shareGrowth_7 (by decide) (by omega) (fun c_7 => ?_) (fun c_7 => ?_)
  · refine w_iload_n dX0_shareGrowth_11 rfl ?_
    refine w_istore dX0_shareGrowth_12 (Nat.le_of_ble_eq_true rfl) ?_
    refine w_iconst dX0_shareGrowth_14 ?_
    refine w_istore dX0_shareGrowth_15 (Nat.le_of_ble_eq_true rfl) ?_
    refine up_to (σ 0 6) (fun i => 0 ≤ i → ∀ (τ : St) (a : Int), (τ = putA (putA σ 10 (shI (σ 8) (σ 9) (i) g G (sumW (σ 8) (σ 9) g (σ 0 6)) (σ 10))) 13 (shL (σ 8) (σ 9) (i) g G (sumW (σ 8) (σ 9) g (σ 0 6)) (σ 13)) ∧ a = G - sumW (σ 8) (fun b => G * σ 9 b / (sumW (σ 8) (σ 9) g (σ 0 6))) g i) → Wp mX0_shareGrowth 2 (fun z τ => ((sumW (σ 8) (σ 9) g (σ 0 6)) ≤ 0 → τ = σ) ∧ (0 < (sumW (σ 8) (σ 9) g (σ 0 6)) → τ = putA (putA σ 10 (gvN (σ 8) g (σ 0 6) (shI (σ 8) (σ 9) (σ 0 6) g G (sumW (σ 8) (σ 9) g (σ 0 6)) (σ 10), shL (σ 8) (σ 9) (σ 0 6) g G (sumW (σ 8) (σ 9) g (σ 0 6)) (σ 13)) (lftF (σ 8) (σ 9) (σ 0 6) g G).toNat).1) 13 (gvN (σ 8) g (σ 0 6) (shI (σ 8) (σ 9) (σ 0 6) g G (sumW (σ 8) (σ 9) g (σ 0 6)) (σ 10), shL (σ 8) (σ 9) (σ 0 6) g G (sumW (σ 8) (σ 9) g (σ 0 6)) (σ 13)) (lftF (σ 8) (σ 9) (σ 0 6) g G).toNat).2)) 17 [some (.inr 0), some (.inl g), some (.inl G), some (.inl (sumW (σ 8) (σ 9) g (σ 0 6))), some (.inl a), some (.inl i)] [] τ) (fun i hi ih h0 τ a hinv => ?_) (0) (by omega) (by omega) σ G ⟨by rw [shI_0, shL_0, putA_self, putA_self], by rw [sumW_0]; omega⟩
    obtain ⟨hτ, ha⟩ := hinv
    have e0 : τ 0 6 = σ 0 6 := by rw [hτ]; simp [putA_eq]
    have e8 : τ 8 = σ 8 := by rw [hτ, putA_ne (by decide), putA_ne (by decide)]
    have e9 : τ 9 = σ 9 := by rw [hτ, putA_ne (by decide), putA_ne (by decide)]
    refine w_iload dX0_shareGrowth_17 rfl ?_
    refine w_aload_n dX0_shareGrowth_19 rfl ?_
    refine gf_X0_30 rfl dX0_shareGrowth_20 ?_
    refine w_icmp_ge (tgt := 91) dX0_shareGrowth_23 (by decide) (by omega) (by rw [e0]; omega) (fun c_23 => ?_) (fun c_23 => ?_)
    · refine w_iconst dX0_shareGrowth_91 ?_
      refine w_istore dX0_shareGrowth_92 (Nat.le_of_ble_eq_true rfl) ?_
      refine up_to (σ 0 6) (fun i => 0 ≤ i → ∀ (τ : St) (a : Int), (∃ k : Nat, τ = putA (putA σ 10 (gvN (σ 8) g (σ 0 6) (shI (σ 8) (σ 9) (σ 0 6) g G (sumW (σ 8) (σ 9) g (σ 0 6)) (σ 10), shL (σ 8) (σ 9) (σ 0 6) g G (sumW (σ 8) (σ 9) g (σ 0 6)) (σ 13)) k).1) 13 (gvN (σ 8) g (σ 0 6) (shI (σ 8) (σ 9) (σ 0 6) g G (sumW (σ 8) (σ 9) g (σ 0 6)) (σ 10), shL (σ 8) (σ 9) (σ 0 6) g G (sumW (σ 8) (σ 9) g (σ 0 6)) (σ 13)) k).2 ∧ a = (lftF (σ 8) (σ 9) (σ 0 6) g G) - k ∧ (k : Int) = i ∧ 0 ≤ a) → Wp mX0_shareGrowth 2 (fun z τ => ((sumW (σ 8) (σ 9) g (σ 0 6)) ≤ 0 → τ = σ) ∧ (0 < (sumW (σ 8) (σ 9) g (σ 0 6)) → τ = putA (putA σ 10 (gvN (σ 8) g (σ 0 6) (shI (σ 8) (σ 9) (σ 0 6) g G (sumW (σ 8) (σ 9) g (σ 0 6)) (σ 10), shL (σ 8) (σ 9) (σ 0 6) g G (sumW (σ 8) (σ 9) g (σ 0 6)) (σ 13)) (lftF (σ 8) (σ 9) (σ 0 6) g G).toNat).1) 13 (gvN (σ 8) g (σ 0 6) (shI (σ 8) (σ 9) (σ 0 6) g G (sumW (σ 8) (σ 9) g (σ 0 6)) (σ 10), shL (σ 8) (σ 9) (σ 0 6) g G (sumW (σ 8) (σ 9) g (σ 0 6)) (σ 13)) (lftF (σ 8) (σ 9) (σ 0 6) g G).toNat).2)) 94 [some (.inr 0), some (.inl g), some (.inl G), some (.inl (sumW (σ 8) (σ 9) g (σ 0 6))), some (.inl a), some (.inl i)] [] τ) (fun i hi ih h0 τ a hinv => ?_) (0) (by omega) (by omega) _ _ ⟨0, by rw [hτ, show i = σ 0 6 by omega]; rfl, by rw [ha, show i = σ 0 6 by omega]; unfold lftF; omega, rfl, by have hl := lft_bd (σ 8) (σ 9) (σ 0 6) g G hb.1 c_7; rw [ha, show i = σ 0 6 by omega]; exact hl.1⟩
      obtain ⟨k, hτ, ha, hk, ha0⟩ := hinv
      have hl := lft_bd (σ 8) (σ 9) (σ 0 6) g G hb.1 c_7
      have f0 : τ 0 6 = σ 0 6 := by rw [hτ]; simp [putA_eq]
      have f8 : τ 8 = σ 8 := by rw [hτ, putA_ne (by decide), putA_ne (by decide)]
      have f10 : τ 10 = (gvN (σ 8) g (σ 0 6) (shI (σ 8) (σ 9) (σ 0 6) g G (sumW (σ 8) (σ 9) g (σ 0 6)) (σ 10), shL (σ 8) (σ 9) (σ 0 6) g G (sumW (σ 8) (σ 9) g (σ 0 6)) (σ 13)) k).1 := by rw [hτ, putA_ne (by decide)]; funext b; simp [putA_eq]
      have f13 : τ 13 = (gvN (σ 8) g (σ 0 6) (shI (σ 8) (σ 9) (σ 0 6) g G (sumW (σ 8) (σ 9) g (σ 0 6)) (σ 10), shL (σ 8) (σ 9) (σ 0 6) g G (sumW (σ 8) (σ 9) g (σ 0 6)) (σ 13)) k).2 := by rw [hτ]; funext b; simp [putA_eq]
      refine w_iload dX0_shareGrowth_94 rfl ?_
      refine w_aload_n dX0_shareGrowth_96 rfl ?_
      refine gf_X0_30 rfl dX0_shareGrowth_97 ?_
      refine w_icmp_ge (tgt := 124) dX0_shareGrowth_100 (by decide) (by omega) (by rw [f0]; omega) (fun c_100 => ?_) (fun c_100 => ?_)
      · refine w_ret dX0_shareGrowth_124 rfl ?_
        refine ⟨fun q => absurd c_7 (by omega), fun _ => ?_⟩
        have hl := lft_bd (σ 8) (σ 9) (σ 0 6) g G hb.1 c_7
        rw [hτ, show (lftF (σ 8) (σ 9) (σ 0 6) g G).toNat = k by omega]
      · refine w_iload dX0_shareGrowth_103 rfl ?_
        refine w_if_le (tgt := 124) dX0_shareGrowth_105 (by decide) (by omega) (fun c_105 => ?_) (fun c_105 => ?_)
        · refine w_ret dX0_shareGrowth_124 rfl ?_
          refine ⟨fun q => absurd c_7 (by omega), fun _ => ?_⟩
          have hl := lft_bd (σ 8) (σ 9) (σ 0 6) g G hb.1 c_7
          rw [hτ, show (lftF (σ 8) (σ 9) (σ 0 6) g G).toNat = k by omega]
        · have hbs : bstF (τ 8) (τ 13) g (τ 0 6) ≠ -1 := by rw [f0, f8, f13]; exact bst_some hb.1 c_7
          have hnd : ∀ b, 0 ≤ b → b < τ 0 6 → τ 8 b = g → 0 ≤ τ 10 b ∧ τ 10 b ≤ 1000 := by
            intro b h1 h2 h3
            rw [f0] at h2
            rw [f8] at h3
            rw [f10]
            have hl := lft_bd (σ 8) (σ 9) (σ 0 6) g G hb.1 c_7
            have := gvN_bd (σ 8) g (σ 0 6) (shI (σ 8) (σ 9) (σ 0 6) g G (sumW (σ 8) (σ 9) g (σ 0 6)) (σ 10), shL (σ 8) (σ 9) (σ 0 6) g G (sumW (σ 8) (σ 9) g (σ 0 6)) (σ 13)) (fun b => 0 ≤ b ∧ b < σ 0 6 ∧ σ 8 b = g) 0 99 (fun b hb2 => by
              unfold shI
              dsimp only
              rw [if_pos hb2]
              have h4 := hwa b hb2.1 hb2.2.1 hb2.2.2
              have h5 := Int.ediv_nonneg h4.1 (Int.le_of_lt c_7)
              have h6 := sumW_in (σ 8) (σ 9) g (σ 0 6) hb.1 (fun b q1 q2 _ => by have := hw b q1 q2; omega) b hb2.1 hb2.2.1 hb2.2.2
              have h7 : G * σ 9 b ≤ 99 * (sumW (σ 8) (σ 9) g (σ 0 6)) := Int.le_trans (Int.mul_le_mul_of_nonneg_right hG.2 (by have := hw b hb2.1 hb2.2.1; omega)) (Int.mul_le_mul_of_nonneg_left h6 (by omega))
              have h8 := Int.ediv_le_of_le_mul c_7 h7
              omega) k b ⟨h1, h2, h3⟩
            omega
          refine w_iload dX0_shareGrowth_108 rfl ?_
          refine w_aload_n dX0_shareGrowth_110 rfl ?_
          refine w_iload_n dX0_shareGrowth_111 rfl ?_
          refine cv_X0_54 rfl dX0_shareGrowth_112 (Nat.le_of_ble_eq_true rfl) (Nat.le_of_ble_eq_true rfl) (Wp.mono (ct_X0_giveOneMore _ g (by rw [f0]; exact hb) hg hnd) (fun z_ τ_ hq_ => ?_))
          have hz1 := hq_.2 hbs
          obtain ⟨hz_, hs_⟩ := hz1
          subst z_
          subst τ_
          refine w_isub dX0_shareGrowth_115 ?_
          refine w_istore dX0_shareGrowth_116 (Nat.le_of_ble_eq_true rfl) ?_
          refine w_iinc dX0_shareGrowth_118 (Nat.le_of_ble_eq_true rfl) rfl ?_
          refine w_goto (tgt := 94) dX0_shareGrowth_121 (by decide) ?_
          refine ih (by omega) (by omega) _ _ ⟨k + 1, ?_, ?_, ?_, ?_⟩
          · rw [f0, f8, f10, f13, hτ]
            rw [put_putA_ne _ (by decide), put_putA, put_putA]
            rfl
          · omega
          · omega
          · omega
    · refine w_aload_n dX0_shareGrowth_26 rfl ?_
      refine gf_X0_9 rfl dX0_shareGrowth_27 ?_
      refine w_iload dX0_shareGrowth_30 rfl ?_
      refine w_iald rfl (by omega) dX0_shareGrowth_32 ?_
      refine w_iload_n dX0_shareGrowth_33 rfl ?_
      refine w_icmp_ne (tgt := 85) dX0_shareGrowth_34 (by decide) (by rw [e8]; exact hR _ _) hg (fun c_34 => ?_) (fun c_34 => ?_)
      · refine w_iinc dX0_shareGrowth_85 (Nat.le_of_ble_eq_true rfl) rfl ?_
        refine w_goto (tgt := 17) dX0_shareGrowth_88 (by decide) ?_
        refine ih (by omega) (by omega) _ _ ⟨?_, ?_⟩
        · rw [shI_s _ _ _ _ _ _ h0, shL_s _ _ _ _ _ _ h0, if_neg (by rw [← e8]; exact c_34), if_neg (by rw [← e8]; exact c_34)]
          exact hτ
        · rw [sumW_s _ _ _ h0, if_neg (by rw [← e8]; exact c_34), ha]
      · have hwi := hwa i (by omega) (by omega) (by rw [← e8]; exact c_34)
        have hd1 := Int.ediv_nonneg hwi.1 (Int.le_of_lt c_7)
        have hd2 := Int.ediv_le_self (sumW (σ 8) (σ 9) g (σ 0 6)) hwi.1
        have hm1 := Int.emod_nonneg (G * σ 9 i) (Int.ne_of_gt c_7)
        have hm2 := Int.emod_lt_of_pos (G * σ 9 i) c_7
        refine w_aload_n dX0_shareGrowth_37 rfl ?_
        refine gf_X0_18 rfl dX0_shareGrowth_38 ?_
        refine w_iload dX0_shareGrowth_41 rfl ?_
        refine w_iload_n dX0_shareGrowth_43 rfl ?_
        refine w_aload_n dX0_shareGrowth_44 rfl ?_
        refine gf_X0_15 rfl dX0_shareGrowth_45 ?_
        refine w_iload dX0_shareGrowth_48 rfl ?_
        refine w_iald rfl (by omega) dX0_shareGrowth_50 ?_
        refine w_imul dX0_shareGrowth_51 ?_
        refine w_iload_n dX0_shareGrowth_52 rfl ?_
        refine w_idivN dX0_shareGrowth_53 (by rw [e9]; omega) (by rw [e9]; omega) (by omega) c_7 ?_
        refine w_iast rfl (by omega) (by rw [e9]; omega) dX0_shareGrowth_54 ?_
        refine w_aload_n dX0_shareGrowth_55 rfl ?_
        refine gf_X0_27 rfl dX0_shareGrowth_56 ?_
        refine w_iload dX0_shareGrowth_59 rfl ?_
        refine w_iload_n dX0_shareGrowth_61 rfl ?_
        refine w_aload_n dX0_shareGrowth_62 rfl ?_
        refine gf_X0_15 rfl dX0_shareGrowth_63 ?_
        refine w_iload dX0_shareGrowth_66 rfl ?_
        refine w_iald rfl (by omega) dX0_shareGrowth_68 ?_
        refine w_imul dX0_shareGrowth_69 ?_
        refine w_iload_n dX0_shareGrowth_70 rfl ?_
        refine w_iremN dX0_shareGrowth_71 (by rw [put_ne (by decide), e9]; omega) (by rw [put_ne (by decide), e9]; omega) (by omega) c_7 ?_
        refine w_iast rfl (by omega) (by rw [put_ne (by decide), e9]; omega) dX0_shareGrowth_72 ?_
        refine w_iload dX0_shareGrowth_73 rfl ?_
        refine w_aload_n dX0_shareGrowth_75 rfl ?_
        refine gf_X0_18 rfl dX0_shareGrowth_76 ?_
        refine w_iload dX0_shareGrowth_79 rfl ?_
        refine w_iald rfl (by omega) dX0_shareGrowth_81 ?_
        refine w_isub dX0_shareGrowth_82 ?_
        refine w_istore dX0_shareGrowth_83 (Nat.le_of_ble_eq_true rfl) ?_
        refine w_iinc dX0_shareGrowth_85 (Nat.le_of_ble_eq_true rfl) rfl ?_
        refine w_goto (tgt := 17) dX0_shareGrowth_88 (by decide) ?_
        refine ih (by omega) (by omega) _ _ ⟨?_, ?_⟩
        · rw [shI_s _ _ _ _ _ _ h0, shL_s _ _ _ _ _ _ h0, if_pos (by rw [← e8]; exact c_34), if_pos (by rw [← e8]; exact c_34)]
          simp only [put_ne (show (9 : Nat) ≠ 10 by decide), e9]
          rw [hτ, put_putA_ne _ (by decide), put_putA, put_putA]
        · rw [sumW_s _ _ _ h0, if_pos (by rw [← e8]; exact c_34), ha]
          simp only [put_eq]
          simp [e9]
          omega
  · refine w_ret dX0_shareGrowth_10 rfl ?_
    exact ⟨fun _ => rfl, fun q => absurd q (by omega)⟩

