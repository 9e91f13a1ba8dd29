def RepM (σ : St) (es : List En5) : Prop := (σ 7 14 = if (es.length : Int) ≤ 40 then (es.length : Int) else 40) ∧ ∀ (k : Nat) (e : En5), k < 40 → es.reverse[k]? = some e → σ 64 (5 * (σ 7 14 - 1 - k)) = e.1 ∧ σ 64 (5 * (σ 7 14 - 1 - k) + 1) = e.2.1 ∧ σ 64 (5 * (σ 7 14 - 1 - k) + 2) = e.2.2.1 ∧ σ 64 (5 * (σ 7 14 - 1 - k) + 3) = e.2.2.2.1 ∧ σ 64 (5 * (σ 7 14 - 1 - k) + 4) = e.2.2.2.2
theorem RepM.cnt {σ : St} {es : List En5} (h : RepM σ es) : 0 ≤ σ 7 14 ∧ σ 7 14 ≤ 40 := by
  rw [h.1]
  split <;> omega
theorem RepM.keep {σ τ : St} {es : List En5} (h : RepM σ es) (e1 : τ 7 14 = σ 7 14) (e2 : τ 64 = σ 64) : RepM τ es := by
  unfold RepM
  rw [e1, e2]
  exact h
theorem RepM.app {σ τ : St} {es : List En5} (h : RepM σ es) (e : En5) (h1 : τ 7 14 = if σ 7 14 = 40 then 40 else σ 7 14 + 1) (h2 : ∀ j, 0 ≤ j → j < 5 * (τ 7 14 - 1) → τ 64 j = if σ 7 14 = 40 then σ 64 (j + 5) else σ 64 j) (h3 : τ 64 (5 * (τ 7 14 - 1)) = e.1 ∧ τ 64 (5 * (τ 7 14 - 1) + 1) = e.2.1 ∧ τ 64 (5 * (τ 7 14 - 1) + 2) = e.2.2.1 ∧ τ 64 (5 * (τ 7 14 - 1) + 3) = e.2.2.2.1 ∧ τ 64 (5 * (τ 7 14 - 1) + 4) = e.2.2.2.2) : RepM τ (es ++ [e]) := by
  have hc := h.cnt
  obtain ⟨g1, g2⟩ := h
  refine ⟨?_, ?_⟩
  · rw [h1, List.length_append]
    simp only [List.length_cons, List.length_nil]
    rw [g1]
    split <;> split <;> split <;> omega
  · intro k x hk hx
    rw [List.reverse_append] at hx
    cases k with
    | zero =>
      have hx2 : e = x := by simpa using hx
      subst hx2
      rw [show τ 7 14 - 1 - ((0 : Nat) : Int) = τ 7 14 - 1 by omega]
      exact h3
    | succ k =>
      have hx2 : es.reverse[k]? = some x := by simpa using hx
      have hl : (k : Int) < σ 7 14 := by
        have := (List.getElem?_eq_some_iff.mp hx2).1
        rw [List.length_reverse] at this
        rw [g1]
        split <;> omega
      have r := g2 k x (by omega) hx2
      have key : ∀ d, 0 ≤ d → d ≤ 4 → τ 64 (5 * (τ 7 14 - 1 - ((k + 1 : Nat) : Int)) + d) = σ 64 (5 * (σ 7 14 - 1 - k) + d) := by
        intro d d0 d1
        by_cases q : σ 7 14 = 40
        · rw [if_pos q] at h1
          rw [h2 _ (by omega) (by omega), if_pos q, h1, q]
          congr 1
          omega
        · rw [if_neg q] at h1
          rw [h2 _ (by omega) (by omega), if_neg q, h1]
          congr 1
          omega
      have k0 := key 0 (by omega) (by omega)
      rw [Int.add_zero, Int.add_zero] at k0
      rw [k0, key 1 (by omega) (by omega), key 2 (by omega) (by omega), key 3 (by omega) (by omega), key 4 (by omega) (by omega)]
      exact r
theorem RepM.read {σ : St} {es : List En5} (h : RepM σ es) (k w : Int) : (if 0 ≤ k ∧ k < σ 7 14 ∧ 0 ≤ w ∧ w < 5 then σ 64 (5 * (σ 7 14 - 1 - k) + w) else -1) = logZ es k w := by
  have hc := h.cnt
  obtain ⟨g2, g3⟩ := h
  unfold logZ
  by_cases q : 0 ≤ k ∧ k < σ 7 14 ∧ 0 ≤ w ∧ w < 5
  · rw [if_pos q, if_pos (by omega)]
    have hl : k.toNat < es.reverse.length := by
      rw [List.length_reverse]
      rw [g2] at q
      split at q <;> omega
    rw [List.getElem?_eq_getElem hl]
    have r := g3 k.toNat _ (by omega) (List.getElem?_eq_getElem hl)
    rw [show ((k.toNat : Nat) : Int) = k by omega] at r
    generalize 5 * (σ 7 14 - 1 - k) = y at r
    generalize es.reverse[k.toNat] = e at r
    unfold en5
    rcases (show w = 0 ∨ w = 1 ∨ w = 2 ∨ w = 3 ∨ w = 4 by omega) with rfl | rfl | rfl | rfl | rfl
    · simpa using r.1
    · simpa using r.2.1
    · simpa using r.2.2.1
    · simpa using r.2.2.2.1
    · simpa using r.2.2.2.2
  · rw [if_neg q]
    by_cases q2 : 0 ≤ k ∧ k < 40 ∧ 0 ≤ w ∧ w < 5
    · rw [if_pos q2]
      have hl : es.reverse.length ≤ k.toNat := by
        rw [List.length_reverse]
        rw [g2] at q
        split at q <;> omega
      rw [List.getElem?_eq_none hl]
    · rw [if_neg q2]

set_option maxRecDepth 100000 in
set_option maxHeartbeats 4000000 in
theorem cm_notes (σ : St) (a b f t : Int) (hc : 0 ≤ σ 7 14 ∧ σ 7 14 ≤ 40) (ha : InR a) (hb : 0 ≤ b ∧ b < 61) (hf : InR f) (ht : InR t) : Wp mX7_notes 0 (fun z τ => (∀ es, RepM σ es → RepM τ (es ++ [(a, b, σ 61 b, f, t)])) ∧ (∀ j, j ≠ 14 → τ 7 j = σ 7 j) ∧ ∀ k, k ≠ 7 → k ≠ 64 → τ k = σ k) 0 [some (.inr 7), some (.inl a), some (.inl b), some (.inl f), some (.inl t), none] [] σ := by
  refine Wp.rg (fun hR => ?_)
  have hb2 : InR b := by omega
  have KEY : ∀ (υ : St) (x : Option PV), (υ 7 14 = if σ 7 14 = 40 then 39 else σ 7 14) → (∀ j, 0 ≤ j → j < 5 * υ 7 14 → υ 64 j = if σ 7 14 = 40 then σ 64 (j + 5) else σ 64 j) → (∀ j, j ≠ 14 → υ 7 j = σ 7 j) → (∀ k, k ≠ 7 → k ≠ 64 → υ k = σ k) → Wp mX7_notes 0 (fun z τ => (∀ es, RepM σ es → RepM τ (es ++ [(a, b, σ 61 b, f, t)])) ∧ (∀ j, j ≠ 14 → τ 7 j = σ 7 j) ∧ ∀ k, k ≠ 7 → k ≠ 64 → τ k = σ k) 52 [some (.inr 7), some (.inl a), some (.inl b), some (.inl f), some (.inl t), x] [] υ := by
    intro υ x u1 u2 u3 u4
    refine Wp.rg (fun hR2 => ?_)
    have u5 : 0 ≤ υ 7 14 ∧ υ 7 14 < 40 := by rw [u1]; split <;> omega
    refine w_iconst dX7_notes_52 ?_
    refine w_aload_n dX7_notes_53 rfl ?_
    refine gf_X7_84 rfl dX7_notes_54 ?_
    refine w_imul dX7_notes_57 ?_
    refine w_istore dX7_notes_58 (Nat.le_of_ble_eq_true rfl) ?_
    refine w_aload_n dX7_notes_60 rfl ?_
    refine gf_X7_35 rfl dX7_notes_61 ?_
    refine w_iload dX7_notes_64 rfl ?_
    refine w_iload_n dX7_notes_66 rfl ?_
    refine w_iast rfl (by omega) ha dX7_notes_67 ?_
    refine w_aload_n dX7_notes_68 rfl ?_
    refine gf_X7_35 rfl dX7_notes_69 ?_
    refine w_iload dX7_notes_72 rfl ?_
    refine w_iconst dX7_notes_74 ?_
    refine w_iadd dX7_notes_75 ?_
    refine w_iload_n dX7_notes_76 rfl ?_
    refine w_iast rfl (by omega) hb2 dX7_notes_77 ?_
    refine w_aload_n dX7_notes_78 rfl ?_
    refine gf_X7_35 rfl dX7_notes_79 ?_
    refine w_iload dX7_notes_82 rfl ?_
    refine w_iconst dX7_notes_84 ?_
    refine w_iadd dX7_notes_85 ?_
    refine w_aload_n dX7_notes_86 rfl ?_
    refine gf_X7_22 rfl dX7_notes_87 ?_
    refine w_iload_n dX7_notes_90 rfl ?_
    refine w_iald rfl (by omega) dX7_notes_91 ?_
    refine w_iast rfl (by omega) (by simp only [put_eq]; simp; exact hR2 _ _) dX7_notes_92 ?_
    refine w_aload_n dX7_notes_93 rfl ?_
    refine gf_X7_35 rfl dX7_notes_94 ?_
    refine w_iload dX7_notes_97 rfl ?_
    refine w_iconst dX7_notes_99 ?_
    refine w_iadd dX7_notes_100 ?_
    refine w_iload_n dX7_notes_101 rfl ?_
    refine w_iast rfl (by omega) hf dX7_notes_102 ?_
    refine w_aload_n dX7_notes_103 rfl ?_
    refine gf_X7_35 rfl dX7_notes_104 ?_
    refine w_iload dX7_notes_107 rfl ?_
    refine w_iconst dX7_notes_109 ?_
    refine w_iadd dX7_notes_110 ?_
    refine w_iload dX7_notes_111 rfl ?_
    refine w_iast rfl (by omega) ht dX7_notes_113 ?_
    refine w_aload_n dX7_notes_114 rfl ?_
    refine w_dup dX7_notes_115 ?_
    refine gf_X7_84 rfl dX7_notes_116 ?_
    refine w_iconst dX7_notes_119 ?_
    refine w_iadd dX7_notes_120 ?_
    refine pf_X7_84 rfl (by simp only [put_eq]; simp; omega) dX7_notes_121 ?_
    refine w_ret dX7_notes_124 rfl ?_
    refine ⟨fun es he => he.app _ ?_ ?_ ?_, fun j hj => ?_, fun k k7 k64 => ?_⟩
    · simp only [put_eq]; simp
      by_cases q : σ 7 14 = 40
      · rw [if_pos q]; rw [if_pos q] at u1; omega
      · rw [if_neg q]; rw [if_neg q] at u1; omega
    · intro j j0 j1
      simp only [put_eq] at j1 ⊢
      simp at j1 ⊢
      rw [if_neg (by omega), if_neg (by omega), if_neg (by omega), if_neg (by omega), if_neg (by omega)]
      exact u2 j j0 (by omega)
    · simp only [put_eq]
      simp
      refine ⟨?_, by rw [u4 61 (by decide) (by decide)]⟩
      rw [if_neg (by omega), if_neg (by omega), if_neg (by omega), if_neg (by omega)]
    · simp only [put_eq]; simp [hj]; exact u3 j hj
    · rw [put_ne k7, put_ne k64, put_ne k64, put_ne k64, put_ne k64, put_ne k64]; exact u4 k k7 k64
  refine w_aload_n dX7_notes_0 rfl ?_
  refine gf_X7_84 rfl dX7_notes_1 ?_
  refine w_bipush dX7_notes_4 (by decide) ?_
  refine w_icmp_ne (tgt := 52) dX7_notes_6 (by decide) (hR _ _) (by omega) (fun c_6 => ?_) (fun c_6 => ?_)
  · exact KEY _ _ (by rw [if_neg c_6]) (fun j _ _ => by rw [if_neg c_6]) (fun j _ => rfl) (fun k _ _ => rfl)
  · refine w_iconst dX7_notes_9 ?_
    refine w_istore dX7_notes_10 (Nat.le_of_ble_eq_true rfl) ?_
    refine up_to (195) (fun i => 0 ≤ i → ∀ (τ : St), ((∀ j, 0 ≤ j → j < i → τ 64 j = σ 64 (j + 5)) ∧ (∀ j, i ≤ j → τ 64 j = σ 64 j) ∧ τ 7 = σ 7 ∧ ∀ k, k ≠ 64 → τ k = σ k) → Wp mX7_notes 0 (fun z τ => (∀ es, RepM σ es → RepM τ (es ++ [(a, b, σ 61 b, f, t)])) ∧ (∀ j, j ≠ 14 → τ 7 j = σ 7 j) ∧ ∀ k, k ≠ 7 → k ≠ 64 → τ k = σ k) 12 [some (.inr 7), some (.inl a), some (.inl b), some (.inl f), some (.inl t), some (.inl i)] [] τ) (fun i hi ih h0 τ hinv => ?_) (0) (by omega) (by omega) σ ⟨fun j j0 j1 => by omega, fun j _ => rfl, rfl, fun k _ => rfl⟩
    obtain ⟨q1, q2, q3, q4⟩ := hinv
    refine Wp.rg (fun hR2 => ?_)
    refine w_iload dX7_notes_12 rfl ?_
    refine w_sipush dX7_notes_14 (by decide) ?_
    refine w_icmp_ge (tgt := 42) dX7_notes_17 (by decide) (by omega) (by omega) (fun c_17 => ?_) (fun c_17 => ?_)
    · refine w_aload_n dX7_notes_42 rfl ?_
      refine w_dup dX7_notes_43 ?_
      refine gf_X7_84 rfl dX7_notes_44 ?_
      refine w_iconst dX7_notes_47 ?_
      refine w_isub dX7_notes_48 ?_
      refine pf_X7_84 rfl (by rw [q3]; omega) dX7_notes_49 ?_
      refine KEY _ _ ?_ ?_ ?_ ?_
      · simp [put_eq, c_6, q3]
      · intro j j0 j1
        simp only [put_eq] at j1 ⊢
        simp [q3, c_6] at j1 ⊢
        exact q1 j j0 (by omega)
      · intro j hj; simp [put_eq, hj, q3]
      · intro k k7 k64; rw [put_ne k7]; exact q4 k k64
    · refine w_aload_n dX7_notes_20 rfl ?_
      refine gf_X7_35 rfl dX7_notes_21 ?_
      refine w_iload dX7_notes_24 rfl ?_
      refine w_aload_n dX7_notes_26 rfl ?_
      refine gf_X7_35 rfl dX7_notes_27 ?_
      refine w_iload dX7_notes_30 rfl ?_
      refine w_iconst dX7_notes_32 ?_
      refine w_iadd dX7_notes_33 ?_
      refine w_iald rfl (by omega) dX7_notes_34 ?_
      refine w_iast rfl (by omega) (hR2 _ _) dX7_notes_35 ?_
      refine w_iinc dX7_notes_36 (Nat.le_of_ble_eq_true rfl) rfl ?_
      refine w_goto (tgt := 12) dX7_notes_39 (by decide) ?_
      refine ih (by omega) (by omega) _ ⟨fun j j0 j1 => ?_, fun j j0 => ?_, by rw [put_ne (by decide)]; exact q3, fun k hk => by rw [put_ne hk]; exact q4 k hk⟩
      · rw [put_eq, if_pos rfl]
        by_cases e : j = i
        · rw [if_pos e, q2 (i + 5) (by omega), e]
        · rw [if_neg e]; exact q1 j j0 (by omega)
      · rw [put_eq, if_pos rfl, if_neg (by omega)]; exact q2 j (by omega)

set_option maxRecDepth 100000 in
set_option maxHeartbeats 4000000 in
theorem cm_log (σ : St) (k w : Int) (es : List En5) (he : RepM σ es) (hk : InR k) (hw : InR w) : Wp mX7_log 1 (fun z τ => z = logZ es k w ∧ τ = put σ 7 0 0) 0 [some (.inr 7), some (.inl k), some (.inl w)] [] σ := by
  refine Wp.rg (fun hR => ?_)
  have hc := he.cnt
  refine w_aload_n dX7_log_0 rfl ?_
  refine w_iconst dX7_log_1 ?_
  refine pf_X7_68 rfl (by omega) dX7_log_2 ?_
  refine w_iload_n dX7_log_5 rfl ?_
  refine w_iconst dX7_log_6 ?_
  refine w_aload_n dX7_log_7 rfl ?_
  refine gf_X7_84 rfl dX7_log_8 ?_
  
  refine w_iconst dX7_log_11 ?_
  refine w_isub dX7_log_12 ?_
  rw [show put σ 7 0 0 7 14 = σ 7 14 by simp [put_eq]]
  refine cv_X7_74 rfl dX7_log_13 (Nat.le_of_ble_eq_true rfl) (Nat.le_of_ble_eq_true rfl) (Wp.mono (cm_isIn _ k 0 (σ 7 14 - 1) hk (by omega) (by omega)) (fun z_ τ_ hq_ => ?_))
  obtain ⟨hw13, hs_⟩ := hq_
  subst τ_
  refine w_if_eq (tgt := 48) dX7_log_16 (by decide) (by omega) (fun c_16 => ?_) (fun c_16 => ?_)
  · refine w_iconst dX7_log_48 ?_
    refine w_iret dX7_log_49 rfl ?_
    refine ⟨?_, rfl⟩
    rw [← he.read]
    first
    | (rw [if_pos (by omega)]; simp [put_eq])
    | rw [if_neg (by omega)]
  · refine w_iload_n dX7_log_19 rfl ?_
    refine w_iconst dX7_log_20 ?_
    refine w_iconst dX7_log_21 ?_
    refine cv_X7_74 rfl dX7_log_22 (Nat.le_of_ble_eq_true rfl) (Nat.le_of_ble_eq_true rfl) (Wp.mono (cm_isIn _ w 0 4 hw (by omega) (by omega)) (fun z_ τ_ hq_ => ?_))
    obtain ⟨hw22, hs_⟩ := hq_
    subst τ_
    refine w_if_eq (tgt := 48) dX7_log_25 (by decide) (by omega) (fun c_25 => ?_) (fun c_25 => ?_)
    · refine w_iconst dX7_log_48 ?_
      refine w_iret dX7_log_49 rfl ?_
      refine ⟨?_, rfl⟩
      rw [← he.read]
      first
      | (rw [if_pos (by omega)]; simp [put_eq])
      | rw [if_neg (by omega)]
    · refine w_aload_n dX7_log_28 rfl ?_
      refine gf_X7_35 rfl dX7_log_29 ?_
      refine w_iconst dX7_log_32 ?_
      refine w_aload_n dX7_log_33 rfl ?_
      refine gf_X7_84 rfl dX7_log_34 ?_
      refine w_iconst dX7_log_37 ?_
      refine w_isub dX7_log_38 ?_
      refine w_iload_n dX7_log_39 rfl ?_
      refine w_isub dX7_log_40 ?_
      refine w_imul dX7_log_41 ?_
      refine w_iload_n dX7_log_42 rfl ?_
      refine w_iadd dX7_log_43 ?_
      refine w_iald rfl (by simp only [put_eq]; simp; omega) dX7_log_44 ?_
      refine w_goto (tgt := 49) dX7_log_45 (by decide) ?_
      refine w_iret dX7_log_49 rfl ?_
      refine ⟨?_, rfl⟩
      rw [← he.read]
      first
      | (rw [if_pos (by omega)]; simp [put_eq])
      | rw [if_neg (by omega)]

set_option maxRecDepth 100000 in
set_option maxHeartbeats 4000000 in
theorem cm_opens (σ : St) (p : Int) (hp : 0 ≤ p ∧ p ≤ σ 7 6 ∧ σ 7 6 ≤ 60) : Wp mX7_opens 0 (fun z τ => (∀ j, 0 ≤ j → j ≤ σ 7 6 → τ 60 j = (if j ≤ p then σ 60 j else σ 60 (j - 1)) ∧ τ 61 j = (if j ≤ p then σ 61 j else σ 61 (j - 1)) ∧ τ 62 j = (if j ≤ p then σ 62 j else σ 62 (j - 1)) ∧ τ 63 j = (if j ≤ p then σ 63 j else σ 63 (j - 1))) ∧ τ 7 6 = σ 7 6 + 1 ∧ (∀ j, j ≠ 6 → τ 7 j = σ 7 j) ∧ ∀ k, k ≠ 7 → k ≠ 60 → k ≠ 61 → k ≠ 62 → k ≠ 63 → τ k = σ k) 0 [some (.inr 7), some (.inl p), none] [] σ := by
  refine Wp.rg (fun hR => ?_)
  refine w_aload_n dX7_opens_0 rfl ?_
  refine gf_X7_81 rfl dX7_opens_1 ?_
  refine w_istore_n dX7_opens_4 (Nat.le_of_ble_eq_true rfl) ?_
  refine down_to (p) (fun i => i ≤ σ 7 6 → ∀ (τ : St), ((∀ j, i < j → j ≤ σ 7 6 → τ 60 j = σ 60 (j - 1) ∧ τ 61 j = σ 61 (j - 1) ∧ τ 62 j = σ 62 (j - 1) ∧ τ 63 j = σ 63 (j - 1)) ∧ (∀ j, j ≤ i → τ 60 j = σ 60 j ∧ τ 61 j = σ 61 j ∧ τ 62 j = σ 62 j ∧ τ 63 j = σ 63 j) ∧ ∀ k, k ≠ 60 → k ≠ 61 → k ≠ 62 → k ≠ 63 → τ k = σ k) → Wp mX7_opens 0 (fun z τ => (∀ j, 0 ≤ j → j ≤ σ 7 6 → τ 60 j = (if j ≤ p then σ 60 j else σ 60 (j - 1)) ∧ τ 61 j = (if j ≤ p then σ 61 j else σ 61 (j - 1)) ∧ τ 62 j = (if j ≤ p then σ 62 j else σ 62 (j - 1)) ∧ τ 63 j = (if j ≤ p then σ 63 j else σ 63 (j - 1))) ∧ τ 7 6 = σ 7 6 + 1 ∧ (∀ j, j ≠ 6 → τ 7 j = σ 7 j) ∧ ∀ k, k ≠ 7 → k ≠ 60 → k ≠ 61 → k ≠ 62 → k ≠ 63 → τ k = σ k) 5 [some (.inr 7), some (.inl p), some (.inl i)] [] τ) (fun i hi ih h0 τ hinv => ?_) (σ 7 6) (by omega) (by omega) σ ⟨fun j j0 j1 => by omega, fun j _ => ⟨rfl, rfl, rfl, rfl⟩, fun k _ _ _ _ => rfl⟩
  obtain ⟨q1, q2, q3⟩ := hinv
  have e7 : τ 7 = σ 7 := q3 7 (by decide) (by decide) (by decide) (by decide)
  refine Wp.rg (fun hR2 => ?_)
  refine w_iload_n dX7_opens_5 rfl ?_
  refine w_iload_n dX7_opens_6 rfl ?_
  refine w_icmp_le (tgt := 72) dX7_opens_7 (by decide) (by omega) (by omega) (fun c_7 => ?_) (fun c_7 => ?_)
  · refine w_aload_n dX7_opens_72 rfl ?_
    refine w_dup dX7_opens_73 ?_
    refine gf_X7_81 rfl dX7_opens_74 ?_
    refine w_iconst dX7_opens_77 ?_
    refine w_iadd dX7_opens_78 ?_
    refine pf_X7_81 rfl (by rw [e7]; omega) dX7_opens_79 ?_
    refine w_ret dX7_opens_82 rfl ?_
    refine ⟨fun j j0 j1 => ?_, by simp [put_eq, e7], fun j hj => by simp [put_eq, hj, e7], fun k k7 k0 k1 k2 k3 => by rw [put_ne k7]; exact q3 k k0 k1 k2 k3⟩
    simp only [put_eq]
    simp
    by_cases e : j ≤ p
    · simp only [if_pos e]; exact q2 j (by omega)
    · simp only [if_neg e]; exact q1 j (by omega) j1
  · refine w_aload_n dX7_opens_10 rfl ?_
    refine gf_X7_19 rfl dX7_opens_11 ?_
    refine w_iload_n dX7_opens_14 rfl ?_
    refine w_aload_n dX7_opens_15 rfl ?_
    refine gf_X7_19 rfl dX7_opens_16 ?_
    refine w_iload_n dX7_opens_19 rfl ?_
    refine w_iconst dX7_opens_20 ?_
    refine w_isub dX7_opens_21 ?_
    refine w_iald rfl (by omega) dX7_opens_22 ?_
    refine w_iast rfl (by omega) (hR2 _ _) dX7_opens_23 ?_
    refine w_aload_n dX7_opens_24 rfl ?_
    refine gf_X7_22 rfl dX7_opens_25 ?_
    refine w_iload_n dX7_opens_28 rfl ?_
    refine w_aload_n dX7_opens_29 rfl ?_
    refine gf_X7_22 rfl dX7_opens_30 ?_
    refine w_iload_n dX7_opens_33 rfl ?_
    refine w_iconst dX7_opens_34 ?_
    refine w_isub dX7_opens_35 ?_
    refine w_iald rfl (by omega) dX7_opens_36 ?_
    refine w_iast rfl (by omega) (by simp only [put_eq]; simp; exact hR2 _ _) dX7_opens_37 ?_
    refine w_aload_n dX7_opens_38 rfl ?_
    refine gf_X7_25 rfl dX7_opens_39 ?_
    refine w_iload_n dX7_opens_42 rfl ?_
    refine w_aload_n dX7_opens_43 rfl ?_
    refine gf_X7_25 rfl dX7_opens_44 ?_
    refine w_iload_n dX7_opens_47 rfl ?_
    refine w_iconst dX7_opens_48 ?_
    refine w_isub dX7_opens_49 ?_
    refine w_iald rfl (by omega) dX7_opens_50 ?_
    refine w_iast rfl (by omega) (by simp only [put_eq]; simp; exact hR2 _ _) dX7_opens_51 ?_
    refine w_aload_n dX7_opens_52 rfl ?_
    refine gf_X7_28 rfl dX7_opens_53 ?_
    refine w_iload_n dX7_opens_56 rfl ?_
    refine w_aload_n dX7_opens_57 rfl ?_
    refine gf_X7_28 rfl dX7_opens_58 ?_
    refine w_iload_n dX7_opens_61 rfl ?_
    refine w_iconst dX7_opens_62 ?_
    refine w_isub dX7_opens_63 ?_
    refine w_iald rfl (by omega) dX7_opens_64 ?_
    refine w_iast rfl (by omega) (by simp only [put_eq]; simp; exact hR2 _ _) dX7_opens_65 ?_
    refine w_iinc dX7_opens_66 (Nat.le_of_ble_eq_true rfl) rfl ?_
    refine w_goto (tgt := 5) dX7_opens_69 (by decide) ?_
    refine ih (by omega) (by omega) _ ⟨fun j j0 j1 => ?_, fun j j0 => ?_, fun k k0 k1 k2 k3 => by rw [put_ne k3, put_ne k2, put_ne k1, put_ne k0]; exact q3 k k0 k1 k2 k3⟩
    · simp only [put_eq]
      simp
      by_cases e : j = i
      · have r := q2 (i - 1) (by omega)
        simp [e, r]
      · simp [e]; exact q1 j (by omega) j1
    · simp only [put_eq]
      simp
      simp [show ¬ j = i by omega]
      exact q2 j (by omega)

set_option maxRecDepth 100000 in
set_option maxHeartbeats 4000000 in
theorem cm_closes (σ : St) (p : Int) (hp : 0 ≤ p ∧ p < σ 7 6 ∧ σ 7 6 ≤ 61) : Wp mX7_closes 0 (fun z τ => (∀ j, 0 ≤ j → j < σ 7 6 - 1 → τ 60 j = del (σ 60) p j ∧ τ 61 j = del (σ 61) p j ∧ τ 62 j = del (σ 62) p j ∧ τ 63 j = del (σ 63) p j) ∧ τ 7 6 = σ 7 6 - 1 ∧ (∀ j, j ≠ 6 → τ 7 j = σ 7 j) ∧ ∀ k, k ≠ 7 → k ≠ 60 → k ≠ 61 → k ≠ 62 → k ≠ 63 → τ k = σ k) 0 [some (.inr 7), some (.inl p), none] [] σ := by
  refine Wp.rg (fun hR => ?_)
  refine w_aload_n dX7_closes_0 rfl ?_
  refine w_dup dX7_closes_1 ?_
  refine gf_X7_81 rfl dX7_closes_2 ?_
  refine w_iconst dX7_closes_5 ?_
  refine w_isub dX7_closes_6 ?_
  refine pf_X7_81 rfl (by omega) dX7_closes_7 ?_
  refine w_iload_n dX7_closes_10 rfl ?_
  refine w_istore_n dX7_closes_11 (Nat.le_of_ble_eq_true rfl) ?_
  refine up_to (σ 7 6 - 1) (fun i => p ≤ i → ∀ (τ : St), ((∀ j, p ≤ j → j < i → τ 60 j = σ 60 (j + 1) ∧ τ 61 j = σ 61 (j + 1) ∧ τ 62 j = σ 62 (j + 1) ∧ τ 63 j = σ 63 (j + 1)) ∧ (∀ j, j < p ∨ i ≤ j → τ 60 j = σ 60 j ∧ τ 61 j = σ 61 j ∧ τ 62 j = σ 62 j ∧ τ 63 j = σ 63 j) ∧ τ 7 6 = σ 7 6 - 1 ∧ (∀ j, j ≠ 6 → τ 7 j = σ 7 j) ∧ ∀ k, k ≠ 7 → k ≠ 60 → k ≠ 61 → k ≠ 62 → k ≠ 63 → τ k = σ k) → Wp mX7_closes 0 (fun z τ => (∀ j, 0 ≤ j → j < σ 7 6 - 1 → τ 60 j = del (σ 60) p j ∧ τ 61 j = del (σ 61) p j ∧ τ 62 j = del (σ 62) p j ∧ τ 63 j = del (σ 63) p j) ∧ τ 7 6 = σ 7 6 - 1 ∧ (∀ j, j ≠ 6 → τ 7 j = σ 7 j) ∧ ∀ k, k ≠ 7 → k ≠ 60 → k ≠ 61 → k ≠ 62 → k ≠ 63 → τ k = σ k) 12 [some (.inr 7), some (.inl p), some (.inl i)] [] τ) (fun i hi ih h0 τ hinv => ?_) (p) (by omega) (by omega) _ ⟨fun j j0 j1 => by omega, fun j _ => by simp [put_eq], by simp [put_eq], fun j hj => by simp [put_eq, hj], fun k k7 _ _ _ _ => by rw [put_ne k7]⟩
  obtain ⟨q1, q2, q3, q4, q5⟩ := hinv
  refine Wp.rg (fun hR2 => ?_)
  refine w_iload_n dX7_closes_12 rfl ?_
  refine w_aload_n dX7_closes_13 rfl ?_
  refine gf_X7_81 rfl dX7_closes_14 ?_
  refine w_icmp_ge (tgt := 82) dX7_closes_17 (by decide) (by omega) (by omega) (fun c_17 => ?_) (fun c_17 => ?_)
  · refine w_ret dX7_closes_82 rfl ?_
    refine ⟨fun j j0 j1 => ?_, q3, q4, q5⟩
    unfold del
    by_cases e : j < p
    · simp only [if_pos e]; exact q2 j (Or.inl e)
    · simp only [if_neg e]; exact q1 j (by omega) (by omega)
  · refine w_aload_n dX7_closes_20 rfl ?_
    refine gf_X7_19 rfl dX7_closes_21 ?_
    refine w_iload_n dX7_closes_24 rfl ?_
    refine w_aload_n dX7_closes_25 rfl ?_
    refine gf_X7_19 rfl dX7_closes_26 ?_
    refine w_iload_n dX7_closes_29 rfl ?_
    refine w_iconst dX7_closes_30 ?_
    refine w_iadd dX7_closes_31 ?_
    refine w_iald rfl (by omega) dX7_closes_32 ?_
    refine w_iast rfl (by omega) (hR2 _ _) dX7_closes_33 ?_
    refine w_aload_n dX7_closes_34 rfl ?_
    refine gf_X7_22 rfl dX7_closes_35 ?_
    refine w_iload_n dX7_closes_38 rfl ?_
    refine w_aload_n dX7_closes_39 rfl ?_
    refine gf_X7_22 rfl dX7_closes_40 ?_
    refine w_iload_n dX7_closes_43 rfl ?_
    refine w_iconst dX7_closes_44 ?_
    refine w_iadd dX7_closes_45 ?_
    refine w_iald rfl (by omega) dX7_closes_46 ?_
    refine w_iast rfl (by omega) (by simp only [put_eq]; simp; exact hR2 _ _) dX7_closes_47 ?_
    refine w_aload_n dX7_closes_48 rfl ?_
    refine gf_X7_25 rfl dX7_closes_49 ?_
    refine w_iload_n dX7_closes_52 rfl ?_
    refine w_aload_n dX7_closes_53 rfl ?_
    refine gf_X7_25 rfl dX7_closes_54 ?_
    refine w_iload_n dX7_closes_57 rfl ?_
    refine w_iconst dX7_closes_58 ?_
    refine w_iadd dX7_closes_59 ?_
    refine w_iald rfl (by omega) dX7_closes_60 ?_
    refine w_iast rfl (by omega) (by simp only [put_eq]; simp; exact hR2 _ _) dX7_closes_61 ?_
    refine w_aload_n dX7_closes_62 rfl ?_
    refine gf_X7_28 rfl dX7_closes_63 ?_
    refine w_iload_n dX7_closes_66 rfl ?_
    refine w_aload_n dX7_closes_67 rfl ?_
    refine gf_X7_28 rfl dX7_closes_68 ?_
    refine w_iload_n dX7_closes_71 rfl ?_
    refine w_iconst dX7_closes_72 ?_
    refine w_iadd dX7_closes_73 ?_
    refine w_iald rfl (by omega) dX7_closes_74 ?_
    refine w_iast rfl (by omega) (by simp only [put_eq]; simp; exact hR2 _ _) dX7_closes_75 ?_
    refine w_iinc dX7_closes_76 (Nat.le_of_ble_eq_true rfl) rfl ?_
    refine w_goto (tgt := 12) dX7_closes_79 (by decide) ?_
    refine ih (by omega) (by omega) _ ⟨fun j j0 j1 => ?_, fun j j0 => ?_, by simp [put_eq, q3], fun j hj => by simp [put_eq]; exact q4 j hj, fun k k7 k0 k1 k2 k3 => by rw [put_ne k3, put_ne k2, put_ne k1, put_ne k0]; exact q5 k k7 k0 k1 k2 k3⟩
    · simp only [put_eq]
      simp
      by_cases e : j = i
      · have r := q2 (i + 1) (Or.inr (by omega))
        simp [e, r]
      · simp [e]; exact q1 j j0 (by omega)
    · simp only [put_eq]
      simp
      simp [show ¬ j = i by omega]
      exact q2 j (by omega)

set_option maxRecDepth 100000 in
set_option maxHeartbeats 4000000 in
theorem cm_comes (σ : St) (p g w : Int) (hp : 0 ≤ p ∧ p ≤ σ 7 6 ∧ σ 7 6 ≤ 60) (hg : InR g) (hw : InR w) : Wp mX7_comes 1 (fun z τ => (∀ j, 0 ≤ j → j ≤ σ 7 6 → τ 60 j = ins (σ 60) p g j ∧ τ 61 j = ins (σ 61) p w j ∧ τ 62 j = ins (σ 62) p (-1) j ∧ τ 63 j = ins (σ 63) p 0 j) ∧ τ 7 6 = σ 7 6 + 1 ∧ (∀ j, j ≠ 6 → τ 7 j = σ 7 j) ∧ ∀ k, k ≠ 7 → k ≠ 60 → k ≠ 61 → k ≠ 62 → k ≠ 63 → τ k = σ k) 0 [some (.inr 7), some (.inl p), some (.inl g), some (.inl w)] [] σ := by
  refine Wp.rg (fun hR => ?_)
  refine w_aload_n dX7_comes_0 rfl ?_
  refine w_iload_n dX7_comes_1 rfl ?_
  refine cv_X7_131 rfl dX7_comes_2 (Nat.le_of_ble_eq_true rfl) (Nat.le_of_ble_eq_true rfl) (Wp.mono (cm_opens σ p hp) (fun z_ τ_ hq_ => ?_))
  obtain ⟨υ, hυ⟩ : ∃ υ, υ = τ_ := ⟨_, rfl⟩
  rw [← hυ] at hq_ ⊢
  clear hυ
  obtain ⟨u1, u2, u3, u4⟩ := hq_
  refine w_aload_n dX7_comes_5 rfl ?_
  refine gf_X7_19 rfl dX7_comes_6 ?_
  refine w_iload_n dX7_comes_9 rfl ?_
  refine w_iload_n dX7_comes_10 rfl ?_
  refine w_iast rfl (by omega) hg dX7_comes_11 ?_
  refine w_aload_n dX7_comes_12 rfl ?_
  refine gf_X7_22 rfl dX7_comes_13 ?_
  refine w_iload_n dX7_comes_16 rfl ?_
  refine w_iload_n dX7_comes_17 rfl ?_
  refine w_iast rfl (by omega) hw dX7_comes_18 ?_
  refine w_aload_n dX7_comes_19 rfl ?_
  refine gf_X7_25 rfl dX7_comes_20 ?_
  refine w_iload_n dX7_comes_23 rfl ?_
  refine w_iconst dX7_comes_24 ?_
  refine w_iast rfl (by omega) (by omega) dX7_comes_25 ?_
  refine w_aload_n dX7_comes_26 rfl ?_
  refine gf_X7_28 rfl dX7_comes_27 ?_
  refine w_iload_n dX7_comes_30 rfl ?_
  refine w_iconst dX7_comes_31 ?_
  refine w_iast rfl (by omega) (by omega) dX7_comes_32 ?_
  refine w_ret dX7_comes_33 rfl ?_
  refine ⟨fun j j0 j1 => ?_, by simp [put_eq, u2], fun j hj => by simp [put_eq]; exact u3 j hj, fun k k7 k0 k1 k2 k3 => by rw [put_ne k3, put_ne k2, put_ne k1, put_ne k0]; exact u4 k k7 k0 k1 k2 k3⟩
  have r := u1 j j0 j1
  simp only [put_eq, ins]
  simp
  by_cases e : j = p
  · simp [e]
  · by_cases e2 : j < p
    · rw [if_pos (by omega), if_pos (by omega), if_pos (by omega), if_pos (by omega)] at r
      simp [e, e2]; exact r
    · rw [if_neg (by omega), if_neg (by omega), if_neg (by omega), if_neg (by omega)] at r
      simp [e, e2]; exact r

set_option maxRecDepth 100000 in
set_option maxHeartbeats 4000000 in
theorem cm_moves (σ : St) (b t : Int) (hc : 0 ≤ σ 7 14 ∧ σ 7 14 ≤ 40) (hb : 0 ≤ b ∧ b < 60) (ht : InR t) : Wp mX7_moves 1 (fun z τ => (∀ es, RepM σ es → RepM τ (es ++ [(if σ 62 b < t then 1 else 2, b, σ 61 b, σ 62 b, t)])) ∧ τ 62 = upF (σ 62) b t ∧ τ 63 = upF (σ 63) b (wr (σ 63 b + 1)) ∧ τ 7 11 = wr (σ 7 11 + 1) ∧ (∀ j, j ≠ 11 → j ≠ 14 → τ 7 j = σ 7 j) ∧ ∀ k, k ≠ 7 → k ≠ 62 → k ≠ 63 → k ≠ 64 → τ k = σ k) 0 [some (.inr 7), some (.inl b), some (.inl t)] [] σ := by
  refine Wp.rg (fun hR => ?_)
  refine w_aload_n dX7_moves_0 rfl ?_
  refine w_iload_n dX7_moves_1 rfl ?_
  refine w_aload_n dX7_moves_2 rfl ?_
  refine gf_X7_25 rfl dX7_moves_3 ?_
  refine w_iload_n dX7_moves_6 rfl ?_
  refine w_iald rfl (by omega) dX7_moves_7 ?_
  refine w_icmp_le (tgt := 15) dX7_moves_8 (by decide) ht (hR _ _) (fun c_8 => ?_) (fun c_8 => ?_)
  · refine w_iconst dX7_moves_15 ?_
    refine w_iload_n dX7_moves_16 rfl ?_
    refine w_aload_n dX7_moves_17 rfl ?_
    refine gf_X7_25 rfl dX7_moves_18 ?_
    refine w_iload_n dX7_moves_21 rfl ?_
    refine w_iald rfl (by omega) dX7_moves_22 ?_
    refine w_iload_n dX7_moves_23 rfl ?_
    refine cv_X7_157 rfl dX7_moves_24 (Nat.le_of_ble_eq_true rfl) (Nat.le_of_ble_eq_true rfl) (Wp.mono (cm_notes σ _ b (σ 62 b) t hc (by omega) (by omega) (hR _ _) ht) (fun z_ τ_ hq_ => ?_))
    obtain ⟨υ, hυ⟩ : ∃ υ, υ = τ_ := ⟨_, rfl⟩
    rw [← hυ] at hq_ ⊢
    clear hυ
    obtain ⟨u1, u2, u3⟩ := hq_
    refine Wp.rg (fun hR2 => ?_)
    refine w_aload_n dX7_moves_27 rfl ?_
    refine gf_X7_25 rfl dX7_moves_28 ?_
    refine w_iload_n dX7_moves_31 rfl ?_
    refine w_iload_n dX7_moves_32 rfl ?_
    refine w_iast rfl (by omega) ht dX7_moves_33 ?_
    refine w_aload_n dX7_moves_34 rfl ?_
    refine gf_X7_28 rfl dX7_moves_35 ?_
    refine w_iload_n dX7_moves_38 rfl ?_
    refine w_dup2 dX7_moves_39 ?_
    refine w_iald rfl (by omega) dX7_moves_40 ?_
    refine w_iconst dX7_moves_41 ?_
    refine w_iadd dX7_moves_42 ?_
    refine Wp.wrap ?_
    refine w_iast rfl (by omega) (wr_in _) dX7_moves_43 ?_
    refine w_aload_n dX7_moves_44 rfl ?_
    refine w_dup dX7_moves_45 ?_
    refine gf_X7_168 rfl dX7_moves_46 ?_
    refine w_iconst dX7_moves_49 ?_
    refine w_iadd dX7_moves_50 ?_
    refine Wp.wrap ?_
    refine pf_X7_168 rfl (wr_in _) dX7_moves_51 ?_
    refine w_ret dX7_moves_54 rfl ?_
    refine ⟨fun es he => ?_, ?_, ?_, ?_, fun j j11 j14 => ?_, fun k k7 k62 k63 k64 => ?_⟩
    · first | rw [if_pos (by omega)] | rw [if_neg (by omega)]
      exact (u1 es he).keep (by simp [put_eq]) (by rw [put_ne (by decide), put_ne (by decide), put_ne (by decide)])
    · rw [put_ne (by decide), put_ne (by decide), put_row, u3 62 (by decide) (by decide)]
    · rw [put_ne (by decide), put_row]
      simp only [put_eq]
      simp
      rw [put_ne (by decide), u3 63 (by decide) (by decide)]
    · simp only [put_eq]; simp [u2 11 (by decide)]
    · simp only [put_eq]; simp [j11]; exact u2 j j14
    · rw [put_ne k7, put_ne k63, put_ne k62]; exact u3 k k7 k64
  · refine w_iconst dX7_moves_11 ?_
    refine w_goto (tgt := 16) dX7_moves_12 (by decide) ?_
    refine w_iload_n dX7_moves_16 rfl ?_
    refine w_aload_n dX7_moves_17 rfl ?_
    refine gf_X7_25 rfl dX7_moves_18 ?_
    refine w_iload_n dX7_moves_21 rfl ?_
    refine w_iald rfl (by omega) dX7_moves_22 ?_
    refine w_iload_n dX7_moves_23 rfl ?_
    refine cv_X7_157 rfl dX7_moves_24 (Nat.le_of_ble_eq_true rfl) (Nat.le_of_ble_eq_true rfl) (Wp.mono (cm_notes σ _ b (σ 62 b) t hc (by omega) (by omega) (hR _ _) ht) (fun z_ τ_ hq_ => ?_))
    obtain ⟨υ, hυ⟩ : ∃ υ, υ = τ_ := ⟨_, rfl⟩
    rw [← hυ] at hq_ ⊢
    clear hυ
    obtain ⟨u1, u2, u3⟩ := hq_
    refine Wp.rg (fun hR2 => ?_)
    refine w_aload_n dX7_moves_27 rfl ?_
    refine gf_X7_25 rfl dX7_moves_28 ?_
    refine w_iload_n dX7_moves_31 rfl ?_
    refine w_iload_n dX7_moves_32 rfl ?_
    refine w_iast rfl (by omega) ht dX7_moves_33 ?_
    refine w_aload_n dX7_moves_34 rfl ?_
    refine gf_X7_28 rfl dX7_moves_35 ?_
    refine w_iload_n dX7_moves_38 rfl ?_
    refine w_dup2 dX7_moves_39 ?_
    refine w_iald rfl (by omega) dX7_moves_40 ?_
    refine w_iconst dX7_moves_41 ?_
    refine w_iadd dX7_moves_42 ?_
    refine Wp.wrap ?_
    refine w_iast rfl (by omega) (wr_in _) dX7_moves_43 ?_
    refine w_aload_n dX7_moves_44 rfl ?_
    refine w_dup dX7_moves_45 ?_
    refine gf_X7_168 rfl dX7_moves_46 ?_
    refine w_iconst dX7_moves_49 ?_
    refine w_iadd dX7_moves_50 ?_
    refine Wp.wrap ?_
    refine pf_X7_168 rfl (wr_in _) dX7_moves_51 ?_
    refine w_ret dX7_moves_54 rfl ?_
    refine ⟨fun es he => ?_, ?_, ?_, ?_, fun j j11 j14 => ?_, fun k k7 k62 k63 k64 => ?_⟩
    · first | rw [if_pos (by omega)] | rw [if_neg (by omega)]
      exact (u1 es he).keep (by simp [put_eq]) (by rw [put_ne (by decide), put_ne (by decide), put_ne (by decide)])
    · rw [put_ne (by decide), put_ne (by decide), put_row, u3 62 (by decide) (by decide)]
    · rw [put_ne (by decide), put_row]
      simp only [put_eq]
      simp
      rw [put_ne (by decide), u3 63 (by decide) (by decide)]
    · simp only [put_eq]; simp [u2 11 (by decide)]
    · simp only [put_eq]; simp [j11]; exact u2 j j14
    · rw [put_ne k7, put_ne k63, put_ne k62]; exact u3 k k7 k64

