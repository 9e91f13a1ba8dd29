def PlM (τ : St) (shf go : Int → Int) (l : List Int) : Prop := τ 7 23 = (l.length : Int) ∧ ∀ (k : Nat) (b : Int), l[k]? = some b → τ 71 k = b ∧ τ 72 k = shf b ∧ τ 73 k = go b
def addM (τ : St) (b : Int) : St := put (put (put (put τ 71 (τ 7 23) b) 72 (τ 7 23) (τ 62 b)) 73 (τ 7 23) (τ 70 b)) 7 23 (τ 7 23 + 1)
theorem PlM.add {τ : St} {shf go : Int → Int} {l : List Int} {b : Int} (h : PlM τ shf go l) (h2 : τ 62 b = shf b) (h3 : τ 70 b = go b) : PlM (addM τ b) shf go (l ++ [b]) := by
  obtain ⟨g1, g2⟩ := h
  refine ⟨?_, fun k x hx => ?_⟩
  · simp [addM, put_eq, g1]
  · by_cases hk : k < l.length
    · rw [List.getElem?_append_left hk] at hx
      have r := g2 k x hx
      have ne : (k : Int) ≠ τ 7 23 := by rw [g1]; omega
      simp only [addM, put_eq]
      simp [ne]
      exact r
    · have hx2 : b = x ∧ k = l.length := by
        rw [List.getElem?_append_right (by omega)] at hx
        have hk2 : k - l.length = 0 := by
          have := (List.getElem?_eq_some_iff.mp hx).1
          simp at this
          omega
        rw [hk2] at hx
        exact ⟨by simpa using hx, by omega⟩
      obtain ⟨rfl, rfl⟩ := hx2
      have e : ((l.length : Nat) : Int) = τ 7 23 := g1.symm
      rw [e]
      simp only [addM, put_eq]
      simp
      exact ⟨h2, h3⟩
theorem addM_fr (τ : St) (b : Int) : (∀ j, j ≠ 23 → addM τ b 7 j = τ 7 j) ∧ ∀ k, k ≠ 7 → k ≠ 71 → k ≠ 72 → k ≠ 73 → addM τ b k = τ k := by
  refine ⟨fun j hj => by simp [addM, put_eq, hj], fun k k1 k2 k3 k4 => ?_⟩
  unfold addM
  rw [put_ne k1, put_ne k4, put_ne k3, put_ne k2]
theorem IsCut.nn {c : CP} {ns n : Int} {L : Int → Int → Int} {tk : Int → Int} (h : IsCut c ns n L tk) : ∀ s, 0 ≤ s → s < ns → 0 ≤ tk s := fun s s0 s1 => (h s s0 s1).1.1

set_option maxRecDepth 100000 in
set_option maxHeartbeats 4000000 in
theorem cm_plans (σ : St) (b : Int) (hb : 0 ≤ b ∧ b < 60) (hm : 0 ≤ σ 7 23 ∧ σ 7 23 < 60) : Wp mX7_plans 0 (fun z τ => τ = addM σ b) 0 [some (.inr 7), some (.inl b)] [] σ := by
  refine Wp.rg (fun hR => ?_)
  refine w_aload_n dX7_plans_0 rfl ?_
  refine gf_X7_56 rfl dX7_plans_1 ?_
  refine w_aload_n dX7_plans_4 rfl ?_
  refine gf_X7_171 rfl dX7_plans_5 ?_
  refine w_iload_n dX7_plans_8 rfl ?_
  refine w_iast rfl (by omega) (by omega) dX7_plans_9 ?_
  refine w_aload_n dX7_plans_10 rfl ?_
  refine gf_X7_59 rfl dX7_plans_11 ?_
  refine w_aload_n dX7_plans_14 rfl ?_
  refine gf_X7_171 rfl dX7_plans_15 ?_
  refine w_aload_n dX7_plans_18 rfl ?_
  refine gf_X7_25 rfl dX7_plans_19 ?_
  refine w_iload_n dX7_plans_22 rfl ?_
  refine w_iald rfl (by omega) dX7_plans_23 ?_
  refine w_iast rfl (by simp only [put_eq]; simp; omega) (by simp only [put_eq]; simp; exact hR _ _) dX7_plans_24 ?_
  refine w_aload_n dX7_plans_25 rfl ?_
  refine gf_X7_62 rfl dX7_plans_26 ?_
  refine w_aload_n dX7_plans_29 rfl ?_
  refine gf_X7_171 rfl dX7_plans_30 ?_
  refine w_aload_n dX7_plans_33 rfl ?_
  refine gf_X7_53 rfl dX7_plans_34 ?_
  refine w_iload_n dX7_plans_37 rfl ?_
  refine w_iald rfl (by omega) dX7_plans_38 ?_
  refine w_iast rfl (by simp only [put_eq]; simp; omega) (by simp only [put_eq]; simp; exact hR _ _) dX7_plans_39 ?_
  refine w_aload_n dX7_plans_40 rfl ?_
  refine w_dup dX7_plans_41 ?_
  refine gf_X7_171 rfl dX7_plans_42 ?_
  refine w_iconst dX7_plans_45 ?_
  refine w_iadd dX7_plans_46 ?_
  refine pf_X7_171 rfl (by simp only [put_eq]; simp; omega) dX7_plans_47 ?_
  refine w_ret dX7_plans_50 rfl ?_
  simp [addM, put_eq]

set_option maxRecDepth 100000 in
set_option maxHeartbeats 4000000 in
theorem ct5_plan (σ : St) (y : Int) (hI : InvM σ) (hy : InR y) : Wp mX7_plan 3 (fun z τ => (¬ (0 ≤ y ∧ y ≤ 999) → z = -1 ∧ frM σ τ) ∧ ((0 ≤ y ∧ y ≤ 999) → ∃ L, TblL (cpM σ y) (σ 7 1) (σ 7 6) L ∧ ((1000000000 ≤ L 0 0 ∧ z = -1 ∧ frM σ τ) ∨ (L 0 0 < 1000000000 ∧ ∃ tk go, IsCut (cpM σ y) (σ 7 1) (σ 7 6) L tk ∧ GoIs tk go (σ 7 1) ∧ z = ((mvL go (σ 62) (σ 7 6)).length : Int) ∧ PlM τ (σ 62) go (mvL go (σ 62) (σ 7 6)) ∧ τ 7 24 = 0 ∧ τ 7 22 = y ∧ (τ 7 21 = if 0 < (mvL go (σ 62) (σ 7 6)).length then 1 else 0) ∧ (∀ b, 0 ≤ b → b < σ 7 6 → τ 74 b = go b) ∧ (∀ j, j ≠ 21 → j ≠ 22 → j ≠ 23 → j ≠ 24 → τ 7 j = σ 7 j) ∧ ∀ k, k ≠ 7 → (k < 65 ∨ 74 < k) → τ k = σ k)))) 5 [some (.inr 7), some (.inl y), none] [] σ := by
  refine Wp.rg (fun hR => ?_)
  have hns := hI.w.ns
  have hnb := hI.w.nb
  refine w_iload_n dX7_plan_5 rfl ?_
  refine cv_X7_121 rfl dX7_plan_6 (Nat.le_of_ble_eq_true rfl) (Nat.le_of_ble_eq_true rfl) (Wp.mono (cm_isYears _ y hy) (fun z_ τ_ hq_ => ?_))
  obtain ⟨hw6, hs_⟩ := hq_
  subst τ_
  refine w_if_eq (tgt := 20) dX7_plan_9 (by decide) (by omega) (fun c_9 => ?_) (fun c_9 => ?_)
  · refine w_iconst dX7_plan_20 ?_
    refine w_iret dX7_plan_21 rfl ?_
    first
    | exact ⟨fun _ => ⟨rfl, frM.rf σ⟩, fun q => absurd q (by omega)⟩
    | exact ⟨fun q => absurd ⟨by omega, by omega⟩ q, fun _ => ⟨L, g1, Or.inl ⟨by omega, rfl, hfr⟩⟩⟩
  · refine w_aload_n dX7_plan_12 rfl ?_
    refine w_iload_n dX7_plan_13 rfl ?_
    refine cv_X7_124 rfl dX7_plan_14 (Nat.le_of_ble_eq_true rfl) (Nat.le_of_ble_eq_true rfl) (Wp.mono (cm_cuts σ y hI.w (by omega)) (fun z_ τ_ hq_ => ?_))
    obtain ⟨ρ, hρ⟩ : ∃ υ, υ = τ_ := ⟨_, rfl⟩
    rw [← hρ] at hq_ ⊢
    clear hρ
    obtain ⟨L, g1, g2, g3, g4⟩ := hq_
    have hz01 : z_ = 0 ∨ z_ = 1 := by omega
    have hfr : frM σ ρ := frM.of g4
    have r7 : ρ 7 = σ 7 := g4 7 (by omega)
    refine w_if_ne (tgt := 22) dX7_plan_17 (by decide) (by omega) (fun c_17 => ?_) (fun c_17 => ?_)
    · replace g3 : z_ = 1 ∧ L 0 0 < 1000000000 ∧ IsCut (cpM σ y) (σ 7 1) (σ 7 6) L (ρ 68) := by
        rcases g3 with g3 | g3
        · exact g3
        · omega
      refine w_aload_n dX7_plan_22 rfl ?_
      refine cv_X7_148 rfl dX7_plan_23 (Nat.le_of_ble_eq_true rfl) (Nat.le_of_ble_eq_true rfl) (Wp.mono (cm_laysGoals ρ (by rw [r7]; exact hns) (by rw [r7]; exact g3.2.2.nn) (by rw [r7]; have := g3.2.2.pos hnb.1 (σ 7 1) hns.1 (by omega); omega)) (fun z_ τ_ hq_ => ?_))
      obtain ⟨υ, hυ⟩ : ∃ υ, υ = τ_ := ⟨_, rfl⟩
      rw [← hυ] at hq_ ⊢
      clear hυ
      obtain ⟨w1, w2⟩ := hq_
      rw [r7] at w1
      refine w_aload_n dX7_plan_26 rfl ?_
      refine w_iconst dX7_plan_27 ?_
      refine pf_X7_171 rfl (by omega) dX7_plan_28 ?_
      refine w_aload_n dX7_plan_31 rfl ?_
      refine w_iconst dX7_plan_32 ?_
      refine pf_X7_174 rfl (by omega) dX7_plan_33 ?_
      refine w_aload_n dX7_plan_36 rfl ?_
      refine w_iload_n dX7_plan_37 rfl ?_
      refine pf_X7_177 rfl hy dX7_plan_38 ?_
      refine w_aload_n dX7_plan_41 rfl ?_
      refine gf_X7_81 rfl dX7_plan_42 ?_
      refine w_iconst dX7_plan_45 ?_
      refine w_isub dX7_plan_46 ?_
      refine w_istore_n dX7_plan_47 (Nat.le_of_ble_eq_true rfl) ?_
      have e76u : ∀ a b c : Int, put (put (put υ 7 23 a) 7 24 b) 7 22 c 7 6 = σ 7 6 := fun a b c => by simp [put_eq]; rw [w2 7 (by decide), r7]
      rw [e76u]
      refine down_to (-1) (fun i => i < σ 7 6 → ∀ (τ : St), (∃ l, l ++ rts (υ 70) (σ 62) (i + 1).toNat = rts (υ 70) (σ 62) (σ 7 6).toNat ∧ PlM τ (σ 62) (υ 70) l ∧ τ 7 24 = 0 ∧ τ 7 22 = y ∧ (∀ b, i < b → b < σ 7 6 → τ 74 b = υ 70 b) ∧ (∀ j, j ≠ 22 → j ≠ 23 → j ≠ 24 → τ 7 j = σ 7 j) ∧ τ 70 = υ 70 ∧ ∀ k, k ≠ 7 → (k < 65 ∨ 74 < k) → τ k = σ k) → Wp mX7_plan 3 (fun z τ => (¬ (0 ≤ y ∧ y ≤ 999) → z = -1 ∧ frM σ τ) ∧ ((0 ≤ y ∧ y ≤ 999) → ∃ L, TblL (cpM σ y) (σ 7 1) (σ 7 6) L ∧ ((1000000000 ≤ L 0 0 ∧ z = -1 ∧ frM σ τ) ∨ (L 0 0 < 1000000000 ∧ ∃ tk go, IsCut (cpM σ y) (σ 7 1) (σ 7 6) L tk ∧ GoIs tk go (σ 7 1) ∧ z = ((mvL go (σ 62) (σ 7 6)).length : Int) ∧ PlM τ (σ 62) go (mvL go (σ 62) (σ 7 6)) ∧ τ 7 24 = 0 ∧ τ 7 22 = y ∧ (τ 7 21 = if 0 < (mvL go (σ 62) (σ 7 6)).length then 1 else 0) ∧ (∀ b, 0 ≤ b → b < σ 7 6 → τ 74 b = go b) ∧ (∀ j, j ≠ 21 → j ≠ 22 → j ≠ 23 → j ≠ 24 → τ 7 j = σ 7 j) ∧ ∀ k, k ≠ 7 → (k < 65 ∨ 74 < k) → τ k = σ k)))) 48 [some (.inr 7), some (.inl y), some (.inl i)] [] τ) (fun i hi ih h0 τ hinv => ?_) (σ 7 6 - 1) (by omega) (by omega) _ ⟨[], ?_, ⟨?_, fun k b h => by simp at h⟩, ?_, ?_, fun b b0 b1 => by omega, ?_, ?_, ?_⟩
      rotate_left 1
      · rw [show σ 7 6 - 1 + 1 = σ 7 6 by omega]; rfl
      · simp [put_eq]
      · simp [put_eq]
      · simp [put_eq]
      · intro j j1 j2 j3
        simp [put_eq, j1, j2, j3]; rw [w2 7 (by decide), g4 7 (by omega)]
      · simp only [put_ne (show (70 : Nat) ≠ 7 by decide)]
      · intro k k1 k2
        simp only [put_ne k1]; rw [w2 k (by omega)]; exact g4 k (by omega)
      obtain ⟨l, ql, q0, q1, q2, q3, q4, q5, q6⟩ := hinv
      have e76 : τ 7 6 = σ 7 6 := q4 6 (by decide) (by decide) (by decide)
      have e62 : τ 62 = σ 62 := q6 62 (by decide) (by omega)
      have hml := mv_len (υ 70) (σ 62) (σ 7 6).toNat
      refine Wp.rg (fun hR2 => ?_)
      refine w_iload_n dX7_plan_48 rfl ?_
      refine w_if_lt (tgt := 90) dX7_plan_49 (by decide) (by omega) (fun c_49 => ?_) (fun c_49 => ?_)
      · refine w_iconst dX7_plan_90 ?_
        refine w_istore_n dX7_plan_91 (Nat.le_of_ble_eq_true rfl) ?_
        refine up_to (σ 7 6) (fun i => 0 ≤ i → ∀ (τ : St), (PlM τ (σ 62) (υ 70) (rts (υ 70) (σ 62) (σ 7 6).toNat ++ lfs (υ 70) (σ 62) i.toNat) ∧ τ 7 24 = 0 ∧ τ 7 22 = y ∧ (∀ b, 0 ≤ b → b < σ 7 6 → τ 74 b = υ 70 b) ∧ (∀ j, j ≠ 22 → j ≠ 23 → j ≠ 24 → τ 7 j = σ 7 j) ∧ τ 70 = υ 70 ∧ ∀ k, k ≠ 7 → (k < 65 ∨ 74 < k) → τ k = σ k) → Wp mX7_plan 3 (fun z τ => (¬ (0 ≤ y ∧ y ≤ 999) → z = -1 ∧ frM σ τ) ∧ ((0 ≤ y ∧ y ≤ 999) → ∃ L, TblL (cpM σ y) (σ 7 1) (σ 7 6) L ∧ ((1000000000 ≤ L 0 0 ∧ z = -1 ∧ frM σ τ) ∨ (L 0 0 < 1000000000 ∧ ∃ tk go, IsCut (cpM σ y) (σ 7 1) (σ 7 6) L tk ∧ GoIs tk go (σ 7 1) ∧ z = ((mvL go (σ 62) (σ 7 6)).length : Int) ∧ PlM τ (σ 62) go (mvL go (σ 62) (σ 7 6)) ∧ τ 7 24 = 0 ∧ τ 7 22 = y ∧ (τ 7 21 = if 0 < (mvL go (σ 62) (σ 7 6)).length then 1 else 0) ∧ (∀ b, 0 ≤ b → b < σ 7 6 → τ 74 b = go b) ∧ (∀ j, j ≠ 21 → j ≠ 22 → j ≠ 23 → j ≠ 24 → τ 7 j = σ 7 j) ∧ ∀ k, k ≠ 7 → (k < 65 ∨ 74 < k) → τ k = σ k)))) 92 [some (.inr 7), some (.inl y), some (.inl i)] [] τ) (fun i hi ih h0 τ hinv => ?_) (0) (by omega) (by omega) _ ⟨?_, q1, q2, fun b b0 b1 => q3 b (by omega) b1, q4, q5, q6⟩
        rotate_left 1
        · rw [show (i + 1).toNat = 0 by omega] at ql
          have ql2 : l = rts (υ 70) (σ 62) (σ 7 6).toNat := by simpa [rts] using ql
          rw [← ql2]
          show PlM τ (σ 62) (υ 70) (l ++ [])
          rw [List.append_nil]
          exact q0
        obtain ⟨q0, q1, q2, q3, q4, q5, q6⟩ := hinv
        have e76 : τ 7 6 = σ 7 6 := q4 6 (by decide) (by decide) (by decide)
        have e62 : τ 62 = σ 62 := q6 62 (by decide) (by omega)
        have hml := mv_len (υ 70) (σ 62) (σ 7 6).toNat
        refine Wp.rg (fun hR2 => ?_)
        refine w_iload_n dX7_plan_92 rfl ?_
        refine w_aload_n dX7_plan_93 rfl ?_
        refine gf_X7_81 rfl dX7_plan_94 ?_
        refine w_icmp_ge (tgt := 126) dX7_plan_97 (by decide) (by omega) (by omega) (fun c_97 => ?_) (fun c_97 => ?_)
        · rw [e76] at c_97
          have q00 : PlM τ (σ 62) (υ 70) (mvL (υ 70) (σ 62) (σ 7 6)) := by
            unfold mvL
            rw [show (σ 7 6).toNat = i.toNat by omega] at q0 ⊢
            exact q0
          refine w_aload_n dX7_plan_126 rfl ?_
          refine w_aload_n dX7_plan_127 rfl ?_
          refine gf_X7_171 rfl dX7_plan_128 ?_
          refine w_if_le (tgt := 138) dX7_plan_131 (by decide) (hR2 _ _) (fun c_131 => ?_) (fun c_131 => ?_)
          · refine w_iconst dX7_plan_138 ?_
            refine pf_X7_164 rfl (by omega) dX7_plan_139 ?_
            refine w_aload_n dX7_plan_142 rfl ?_
            refine gf_X7_171 rfl dX7_plan_143 ?_
            refine w_iret dX7_plan_146 rfl ?_
            refine ⟨fun q => absurd ⟨by omega, by omega⟩ q, fun _ => ⟨L, g1, Or.inr ⟨g3.2.1, _, _, g3.2.2, w1, by simp [put_eq]; exact q00.1, ⟨by simp [put_eq]; exact q00.1, fun k b h => by have r := q00.2 k b h; simpa [put_eq] using r⟩, by simp [put_eq]; exact q1, by simp [put_eq]; exact q2, ?_, fun b b0 b1 => by rw [put_ne (by decide)]; exact q3 b b0 b1, fun j j1 j2 j3 j4 => by simp [put_eq, j1]; exact q4 j j2 j3 j4, fun k k1 k2 => by rw [put_ne k1]; exact q6 k k1 k2⟩⟩⟩
            have ql := q00.1
            first
            | (rw [if_pos (by omega)]; simp [put_eq])
            | (rw [if_neg (by omega)]; simp [put_eq])
          · refine w_iconst dX7_plan_134 ?_
            refine w_goto (tgt := 139) dX7_plan_135 (by decide) ?_
            refine pf_X7_164 rfl (by omega) dX7_plan_139 ?_
            refine w_aload_n dX7_plan_142 rfl ?_
            refine gf_X7_171 rfl dX7_plan_143 ?_
            refine w_iret dX7_plan_146 rfl ?_
            refine ⟨fun q => absurd ⟨by omega, by omega⟩ q, fun _ => ⟨L, g1, Or.inr ⟨g3.2.1, _, _, g3.2.2, w1, by simp [put_eq]; exact q00.1, ⟨by simp [put_eq]; exact q00.1, fun k b h => by have r := q00.2 k b h; simpa [put_eq] using r⟩, by simp [put_eq]; exact q1, by simp [put_eq]; exact q2, ?_, fun b b0 b1 => by rw [put_ne (by decide)]; exact q3 b b0 b1, fun j j1 j2 j3 j4 => by simp [put_eq, j1]; exact q4 j j2 j3 j4, fun k k1 k2 => by rw [put_ne k1]; exact q6 k k1 k2⟩⟩⟩
            have ql := q00.1
            first
            | (rw [if_pos (by omega)]; simp [put_eq])
            | (rw [if_neg (by omega)]; simp [put_eq])
        · rw [e76] at c_97
          refine w_aload_n dX7_plan_100 rfl ?_
          refine gf_X7_53 rfl dX7_plan_101 ?_
          refine w_iload_n dX7_plan_104 rfl ?_
          refine w_iald rfl (by omega) dX7_plan_105 ?_
          refine w_aload_n dX7_plan_106 rfl ?_
          refine gf_X7_25 rfl dX7_plan_107 ?_
          refine w_iload_n dX7_plan_110 rfl ?_
          refine w_iald rfl (by omega) dX7_plan_111 ?_
          refine w_icmp_ge (tgt := 120) dX7_plan_112 (by decide) (hR2 _ _) (hR2 _ _) (fun c_112 => ?_) (fun c_112 => ?_)
          · refine w_iinc dX7_plan_120 (Nat.le_of_ble_eq_true rfl) rfl ?_
            refine w_goto (tgt := 92) dX7_plan_123 (by decide) ?_
            first
            | (refine ih (by omega) (by omega) _ ⟨?_, by rw [(addM_fr τ i).1 24 (by decide)]; simpa [put_eq] using q1, by rw [(addM_fr τ i).1 22 (by decide)]; simpa [put_eq] using q2, ?_, fun j j1 j2 j3 => by rw [(addM_fr τ i).1 j j2]; simpa [put_eq] using q4 j j1 j2 j3, by rw [(addM_fr τ i).2 70 (by decide) (by decide) (by decide) (by decide)]; simpa [put_ne] using q5, fun k k1 k2 => by rw [(addM_fr τ i).2 k k1 (by omega) (by omega) (by omega)]; exact q6 k k1 k2⟩
               · rw [hst, ← List.append_assoc]
                 exact q0.add (by rw [e62]) (by rw [q5])
               · intro b b0 b1
                 rw [(addM_fr τ i).2 74 (by decide) (by decide) (by decide) (by decide)]; exact q3 b b0 b1)
            | (refine ih (by omega) (by omega) _ ⟨?_, q1, q2, q3, q4, q5, q6⟩
               rw [q5, e62] at c_112
               rw [show (i + 1).toNat = i.toNat + 1 by omega]
               show PlM τ (σ 62) (υ 70) (rts (υ 70) (σ 62) (σ 7 6).toNat ++ (if υ 70 ((i.toNat : Nat) : Int) < σ 62 ((i.toNat : Nat) : Int) then lfs (υ 70) (σ 62) i.toNat ++ [((i.toNat : Nat) : Int)] else lfs (υ 70) (σ 62) i.toNat))
               rw [show ((i.toNat : Nat) : Int) = i by omega, if_neg (by omega)]
               exact q0)
          · rw [q5, e62] at c_112
            have hst : lfs (υ 70) (σ 62) (i + 1).toNat = lfs (υ 70) (σ 62) i.toNat ++ [i] := by
              rw [show (i + 1).toNat = i.toNat + 1 by omega]
              show (if υ 70 ((i.toNat : Nat) : Int) < σ 62 ((i.toNat : Nat) : Int) then lfs (υ 70) (σ 62) i.toNat ++ [((i.toNat : Nat) : Int)] else lfs (υ 70) (σ 62) i.toNat) = _
              rw [show ((i.toNat : Nat) : Int) = i by omega, if_pos c_112]
            have hl2 := lfs_len (υ 70) (σ 62) ((σ 7 6).toNat - (i + 1).toNat) (i + 1).toNat
            rw [show (i + 1).toNat + ((σ 7 6).toNat - (i + 1).toNat) = (σ 7 6).toNat by omega, hst] at hl2
            simp at hl2
            have htt : τ 7 23 = ((rts (υ 70) (σ 62) (σ 7 6).toNat ++ lfs (υ 70) (σ 62) i.toNat).length : Int) := q0.1
            rw [List.length_append] at htt
            refine w_aload_n dX7_plan_115 rfl ?_
            refine w_iload_n dX7_plan_116 rfl ?_
            refine cv_X7_180 rfl dX7_plan_117 (Nat.le_of_ble_eq_true rfl) (Nat.le_of_ble_eq_true rfl) (Wp.mono (cm_plans τ i (by omega) (by omega)) (fun z_ τ_ hq_ => ?_))
            subst τ_
            refine w_iinc dX7_plan_120 (Nat.le_of_ble_eq_true rfl) rfl ?_
            refine w_goto (tgt := 92) dX7_plan_123 (by decide) ?_
            first
            | (refine ih (by omega) (by omega) _ ⟨?_, by rw [(addM_fr τ i).1 24 (by decide)]; simpa [put_eq] using q1, by rw [(addM_fr τ i).1 22 (by decide)]; simpa [put_eq] using q2, ?_, fun j j1 j2 j3 => by rw [(addM_fr τ i).1 j j2]; simpa [put_eq] using q4 j j1 j2 j3, by rw [(addM_fr τ i).2 70 (by decide) (by decide) (by decide) (by decide)]; simpa [put_ne] using q5, fun k k1 k2 => by rw [(addM_fr τ i).2 k k1 (by omega) (by omega) (by omega)]; exact q6 k k1 k2⟩
               · rw [hst, ← List.append_assoc]
                 exact q0.add (by rw [e62]) (by rw [q5])
               · intro b b0 b1
                 rw [(addM_fr τ i).2 74 (by decide) (by decide) (by decide) (by decide)]; exact q3 b b0 b1)
            | (refine ih (by omega) (by omega) _ ⟨?_, q1, q2, q3, q4, q5, q6⟩
               rw [q5, e62] at c_112
               rw [show (i + 1).toNat = i.toNat + 1 by omega]
               show PlM τ (σ 62) (υ 70) (rts (υ 70) (σ 62) (σ 7 6).toNat ++ (if υ 70 ((i.toNat : Nat) : Int) < σ 62 ((i.toNat : Nat) : Int) then lfs (υ 70) (σ 62) i.toNat ++ [((i.toNat : Nat) : Int)] else lfs (υ 70) (σ 62) i.toNat))
               rw [show ((i.toNat : Nat) : Int) = i by omega, if_neg (by omega)]
               exact q0)
      · refine w_aload_n dX7_plan_52 rfl ?_
        refine gf_X7_65 rfl dX7_plan_53 ?_
        refine w_iload_n dX7_plan_56 rfl ?_
        refine w_aload_n dX7_plan_57 rfl ?_
        refine gf_X7_53 rfl dX7_plan_58 ?_
        refine w_iload_n dX7_plan_61 rfl ?_
        refine w_iald rfl (by omega) dX7_plan_62 ?_
        refine w_iast rfl (by omega) (hR2 _ _) dX7_plan_63 ?_
        refine w_aload_n dX7_plan_64 rfl ?_
        refine gf_X7_53 rfl dX7_plan_65 ?_
        refine w_iload_n dX7_plan_68 rfl ?_
        refine w_iald rfl (by omega) dX7_plan_69 ?_
        refine w_aload_n dX7_plan_70 rfl ?_
        refine gf_X7_25 rfl dX7_plan_71 ?_
        refine w_iload_n dX7_plan_74 rfl ?_
        refine w_iald rfl (by omega) dX7_plan_75 ?_
        refine w_icmp_le (tgt := 84) dX7_plan_76 (by decide) (by simp only [put_eq]; simp; exact hR2 _ _) (by simp only [put_eq]; simp; exact hR2 _ _) (fun c_76 => ?_) (fun c_76 => ?_)
        · refine w_iinc dX7_plan_84 (Nat.le_of_ble_eq_true rfl) rfl ?_
          refine w_goto (tgt := 48) dX7_plan_87 (by decide) ?_
          have q0b : PlM (put τ 74 i (τ 70 i)) (σ 62) (υ 70) l := ⟨by rw [put_ne (by decide)]; exact q0.1, fun k b h => by have r := q0.2 k b h; simpa [put_ne] using r⟩
          first
          | (refine ih (by omega) (by omega) _ ⟨l ++ [i], ?_, q0b.add (by rw [put_ne (by decide), e62]) (by rw [put_ne (by decide), q5]), by rw [(addM_fr (put τ 74 i (τ 70 i)) i).1 24 (by decide)]; simpa [put_eq] using q1, by rw [(addM_fr (put τ 74 i (τ 70 i)) i).1 22 (by decide)]; simpa [put_eq] using q2, ?_, fun j j1 j2 j3 => by rw [(addM_fr (put τ 74 i (τ 70 i)) i).1 j j2]; simpa [put_eq] using q4 j j1 j2 j3, by rw [(addM_fr (put τ 74 i (τ 70 i)) i).2 70 (by decide) (by decide) (by decide) (by decide)]; simpa [put_ne] using q5, fun k k1 k2 => by rw [(addM_fr (put τ 74 i (τ 70 i)) i).2 k k1 (by omega) (by omega) (by omega), put_ne (by omega)]; exact q6 k k1 k2⟩
             · rw [show (i - 1 + 1).toNat = i.toNat by omega, List.append_assoc, ← ql, hst]
               rfl
             · intro b b0 b1
               rw [(addM_fr (put τ 74 i (τ 70 i)) i).2 74 (by decide) (by decide) (by decide) (by decide), put_eq, if_pos rfl]
               by_cases e : b = i
               · rw [if_pos e, e, q5]
               · rw [if_neg e]; exact q3 b (by omega) b1)
          | (refine ih (by omega) (by omega) _ ⟨l, ?_, q0b, by rw [put_ne (by decide)]; exact q1, by rw [put_ne (by decide)]; exact q2, ?_, fun j j1 j2 j3 => by rw [put_ne (by decide)]; exact q4 j j1 j2 j3, by rw [put_ne (by decide)]; exact q5, fun k k1 k2 => by rw [put_ne (by omega)]; exact q6 k k1 k2⟩
             · rw [put_ne (by decide), put_ne (by decide), q5, e62] at c_76
               rw [show (i - 1 + 1).toNat = i.toNat by omega, ← ql, show (i + 1).toNat = i.toNat + 1 by omega]
               show _ = l ++ (if σ 62 ((i.toNat : Nat) : Int) < υ 70 ((i.toNat : Nat) : Int) then ((i.toNat : Nat) : Int) :: rts (υ 70) (σ 62) i.toNat else rts (υ 70) (σ 62) i.toNat)
               rw [show ((i.toNat : Nat) : Int) = i by omega, if_neg (by omega)]
             · intro b b0 b1
               rw [put_eq, if_pos rfl]
               by_cases e : b = i
               · rw [if_pos e, e, q5]
               · rw [if_neg e]; exact q3 b (by omega) b1)
        · rw [put_ne (by decide), put_ne (by decide), q5, e62] at c_76
          have hst : rts (υ 70) (σ 62) (i + 1).toNat = i :: rts (υ 70) (σ 62) i.toNat := by
            rw [show (i + 1).toNat = i.toNat + 1 by omega]
            show (if σ 62 ((i.toNat : Nat) : Int) < υ 70 ((i.toNat : Nat) : Int) then ((i.toNat : Nat) : Int) :: rts (υ 70) (σ 62) i.toNat else rts (υ 70) (σ 62) i.toNat) = _
            rw [show ((i.toNat : Nat) : Int) = i by omega, if_pos c_76]
          have htt : τ 7 23 = (l.length : Int) := q0.1
          have hle := congrArg List.length ql
          rw [hst] at hle
          simp at hle
          refine w_aload_n dX7_plan_79 rfl ?_
          refine w_iload_n dX7_plan_80 rfl ?_
          refine cv_X7_180 rfl dX7_plan_81 (Nat.le_of_ble_eq_true rfl) (Nat.le_of_ble_eq_true rfl) (Wp.mono (cm_plans (put τ 74 i (τ 70 i)) i (by omega) (by simp only [put_eq]; simp; omega)) (fun z_ τ_ hq_ => ?_))
          subst τ_
          refine w_iinc dX7_plan_84 (Nat.le_of_ble_eq_true rfl) rfl ?_
          refine w_goto (tgt := 48) dX7_plan_87 (by decide) ?_
          have q0b : PlM (put τ 74 i (τ 70 i)) (σ 62) (υ 70) l := ⟨by rw [put_ne (by decide)]; exact q0.1, fun k b h => by have r := q0.2 k b h; simpa [put_ne] using r⟩
          first
          | (refine ih (by omega) (by omega) _ ⟨l ++ [i], ?_, q0b.add (by rw [put_ne (by decide), e62]) (by rw [put_ne (by decide), q5]), by rw [(addM_fr (put τ 74 i (τ 70 i)) i).1 24 (by decide)]; simpa [put_eq] using q1, by rw [(addM_fr (put τ 74 i (τ 70 i)) i).1 22 (by decide)]; simpa [put_eq] using q2, ?_, fun j j1 j2 j3 => by rw [(addM_fr (put τ 74 i (τ 70 i)) i).1 j j2]; simpa [put_eq] using q4 j j1 j2 j3, by rw [(addM_fr (put τ 74 i (τ 70 i)) i).2 70 (by decide) (by decide) (by decide) (by decide)]; simpa [put_ne] using q5, fun k k1 k2 => by rw [(addM_fr (put τ 74 i (τ 70 i)) i).2 k k1 (by omega) (by omega) (by omega), put_ne (by omega)]; exact q6 k k1 k2⟩
             · rw [show (i - 1 + 1).toNat = i.toNat by omega, List.append_assoc, ← ql, hst]
               rfl
             · intro b b0 b1
               rw [(addM_fr (put τ 74 i (τ 70 i)) i).2 74 (by decide) (by decide) (by decide) (by decide), put_eq, if_pos rfl]
               by_cases e : b = i
               · rw [if_pos e, e, q5]
               · rw [if_neg e]; exact q3 b (by omega) b1)
          | (refine ih (by omega) (by omega) _ ⟨l, ?_, q0b, by rw [put_ne (by decide)]; exact q1, by rw [put_ne (by decide)]; exact q2, ?_, fun j j1 j2 j3 => by rw [put_ne (by decide)]; exact q4 j j1 j2 j3, by rw [put_ne (by decide)]; exact q5, fun k k1 k2 => by rw [put_ne (by omega)]; exact q6 k k1 k2⟩
             · rw [put_ne (by decide), put_ne (by decide), q5, e62] at c_76
               rw [show (i - 1 + 1).toNat = i.toNat by omega, ← ql, show (i + 1).toNat = i.toNat + 1 by omega]
               show _ = l ++ (if σ 62 ((i.toNat : Nat) : Int) < υ 70 ((i.toNat : Nat) : Int) then ((i.toNat : Nat) : Int) :: rts (υ 70) (σ 62) i.toNat else rts (υ 70) (σ 62) i.toNat)
               rw [show ((i.toNat : Nat) : Int) = i by omega, if_neg (by omega)]
             · intro b b0 b1
               rw [put_eq, if_pos rfl]
               by_cases e : b = i
               · rw [if_pos e, e, q5]
               · rw [if_neg e]; exact q3 b (by omega) b1)
    · refine w_iconst dX7_plan_20 ?_
      refine w_iret dX7_plan_21 rfl ?_
      first
      | exact ⟨fun _ => ⟨rfl, frM.rf σ⟩, fun q => absurd q (by omega)⟩
      | exact ⟨fun q => absurd ⟨by omega, by omega⟩ q, fun _ => ⟨L, g1, Or.inl ⟨by omega, rfl, hfr⟩⟩⟩

