theorem fit_iff {c : CP} {n s f M m : Int} (hsp : ∀ b, f ≤ b → b < n → 0 ≤ c.2.2.2.1 b) (h : IsDay c.2.2.2.1 f n (rmP c s) M) : fitP c n s f m ↔ 0 ≤ m ∧ m ≤ M := by
  obtain ⟨h1, h2, h3, h4⟩ := h
  constructor
  · intro hm
    refine ⟨hm.1, ?_⟩
    have m2 := hm.2.1
    have m3 := hm.2.2
    by_cases q : m ≤ M
    · exact q
    · exfalso
      have hmo := sumF_mono (n := n) hsp (a := M + 1) (b := m) (by omega) (by omega) m2
      omega
  · intro hm
    have hmo := sumF_mono (n := n) hsp (a := m) (b := M) hm.1 hm.2 h2
    exact ⟨hm.1, by omega, by omega⟩

set_option maxRecDepth 100000 in
set_option maxHeartbeats 4000000 in
theorem cm_mostOn (σ : St) (s f : Int) (hs : 0 ≤ s ∧ s < 12) (hf : 0 ≤ f ∧ f ≤ σ 7 6 ∧ σ 7 6 ≤ 60) (hl : 0 ≤ σ 57 s ∧ σ 57 s ≤ 200) (htk : ∀ b, 0 ≤ b → b < σ 7 6 → 1 ≤ σ 69 b) : Wp mX7_mostOn 0 (fun z τ => IsDay (σ 69) f (σ 7 6) (if σ 58 s = 2 then 0 else σ 57 s) z ∧ τ = σ) 0 [some (.inr 7), some (.inl s), some (.inl f), none, none] [] σ := by
  refine Wp.rg (fun hR => ?_)
  refine w_iconst dX7_mostOn_0 ?_
  refine w_istore_n dX7_mostOn_1 (Nat.le_of_ble_eq_true rfl) ?_
  refine w_aload_n dX7_mostOn_2 rfl ?_
  refine gf_X7_7 rfl dX7_mostOn_3 ?_
  refine w_iload_n dX7_mostOn_6 rfl ?_
  refine w_iald rfl (by omega) dX7_mostOn_7 ?_
  refine w_istore dX7_mostOn_8 (Nat.le_of_ble_eq_true rfl) ?_
  refine up_to (σ 7 6 - f) (fun i => 0 ≤ i → ∀ a, (a = σ 57 s - sumF (σ 69) f i ∧ 0 ≤ a ∧ a ≤ 200 ∧ (i = 0 ∨ σ 58 s ≠ 2)) → Wp mX7_mostOn 0 (fun z τ => IsDay (σ 69) f (σ 7 6) (if σ 58 s = 2 then 0 else σ 57 s) z ∧ τ = σ) 10 [some (.inr 7), some (.inl s), some (.inl f), some (.inl i), some (.inl a)] [] σ) (fun i hi ih h0 a hinv => ?_) (0) (by omega) (by omega) _ ⟨by rw [sumF_0]; omega, by omega, by omega, Or.inl rfl⟩
  refine w_aload_n dX7_mostOn_10 rfl ?_
  refine gf_X7_13 rfl dX7_mostOn_11 ?_
  refine w_iload_n dX7_mostOn_14 rfl ?_
  refine w_iald rfl (by omega) dX7_mostOn_15 ?_
  refine w_iconst dX7_mostOn_16 ?_
  refine w_icmp_eq (tgt := 62) dX7_mostOn_17 (by decide) (hR _ _) (by omega) (fun c_17 => ?_) (fun c_17 => ?_)
  · refine w_iload_n dX7_mostOn_62 rfl ?_
    refine w_iret dX7_mostOn_63 rfl ?_
    refine ⟨?_, rfl⟩
    by_cases e2 : σ 58 s = 2
    · rw [if_pos e2]
      have i0 : i = 0 := by omega
      subst i0
      refine ⟨by omega, by omega, by rw [sumF_0]; omega, ?_⟩
      by_cases en : f = σ 7 6
      · exact Or.inl (by omega)
      · refine Or.inr ?_
        have ht := htk f (by omega) (by omega)
        rw [sumF_s _ _ (by omega), sumF_0, Int.add_zero]
        omega
    · rw [if_neg e2]
      refine ⟨h0, by omega, by omega, ?_⟩
      first
      | exact absurd c_17 e2
      | exact Or.inl (by omega)
      | (refine Or.inr ?_
         rw [sumF_s _ _ h0]; omega)
  · refine w_iload_n dX7_mostOn_20 rfl ?_
    refine w_iload_n dX7_mostOn_21 rfl ?_
    refine w_iadd dX7_mostOn_22 ?_
    refine w_aload_n dX7_mostOn_23 rfl ?_
    refine gf_X7_81 rfl dX7_mostOn_24 ?_
    refine w_icmp_ge (tgt := 62) dX7_mostOn_27 (by decide) (by omega) (by omega) (fun c_27 => ?_) (fun c_27 => ?_)
    · refine w_iload_n dX7_mostOn_62 rfl ?_
      refine w_iret dX7_mostOn_63 rfl ?_
      refine ⟨?_, rfl⟩
      by_cases e2 : σ 58 s = 2
      · rw [if_pos e2]
        have i0 : i = 0 := by omega
        subst i0
        refine ⟨by omega, by omega, by rw [sumF_0]; omega, ?_⟩
        by_cases en : f = σ 7 6
        · exact Or.inl (by omega)
        · refine Or.inr ?_
          have ht := htk f (by omega) (by omega)
          rw [sumF_s _ _ (by omega), sumF_0, Int.add_zero]
          omega
      · rw [if_neg e2]
        refine ⟨h0, by omega, by omega, ?_⟩
        first
        | exact absurd c_17 e2
        | exact Or.inl (by omega)
        | (refine Or.inr ?_
           rw [sumF_s _ _ h0]; omega)
    · have ht := htk (f + i) (by omega) (by omega)
      refine w_aload_n dX7_mostOn_30 rfl ?_
      refine gf_X7_50 rfl dX7_mostOn_31 ?_
      refine w_iload_n dX7_mostOn_34 rfl ?_
      refine w_iload_n dX7_mostOn_35 rfl ?_
      refine w_iadd dX7_mostOn_36 ?_
      refine w_iald rfl (by omega) dX7_mostOn_37 ?_
      refine w_iload dX7_mostOn_38 rfl ?_
      refine w_icmp_gt (tgt := 62) dX7_mostOn_40 (by decide) (hR _ _) (by omega) (fun c_40 => ?_) (fun c_40 => ?_)
      · refine w_iload_n dX7_mostOn_62 rfl ?_
        refine w_iret dX7_mostOn_63 rfl ?_
        refine ⟨?_, rfl⟩
        by_cases e2 : σ 58 s = 2
        · rw [if_pos e2]
          have i0 : i = 0 := by omega
          subst i0
          refine ⟨by omega, by omega, by rw [sumF_0]; omega, ?_⟩
          by_cases en : f = σ 7 6
          · exact Or.inl (by omega)
          · refine Or.inr ?_
            have ht := htk f (by omega) (by omega)
            rw [sumF_s _ _ (by omega), sumF_0, Int.add_zero]
            omega
        · rw [if_neg e2]
          refine ⟨h0, by omega, by omega, ?_⟩
          first
          | exact absurd c_17 e2
          | exact Or.inl (by omega)
          | (refine Or.inr ?_
             rw [sumF_s _ _ h0]; omega)
      · refine w_iload dX7_mostOn_43 rfl ?_
        refine w_aload_n dX7_mostOn_45 rfl ?_
        refine gf_X7_50 rfl dX7_mostOn_46 ?_
        refine w_iload_n dX7_mostOn_49 rfl ?_
        refine w_iload_n dX7_mostOn_50 rfl ?_
        refine w_iadd dX7_mostOn_51 ?_
        refine w_iald rfl (by omega) dX7_mostOn_52 ?_
        refine w_isub dX7_mostOn_53 ?_
        refine w_istore dX7_mostOn_54 (Nat.le_of_ble_eq_true rfl) ?_
        refine w_iinc dX7_mostOn_56 (Nat.le_of_ble_eq_true rfl) rfl ?_
        refine w_goto (tgt := 10) dX7_mostOn_59 (by decide) ?_
        refine ih (by omega) (by omega) _ ⟨?_, by omega, by omega, Or.inr c_17⟩
        rw [sumF_s _ _ h0]; omega

set_option maxRecDepth 100000 in
set_option maxHeartbeats 4000000 in
theorem cm_costOf (σ : St) (len span : Int → Int) (s f m : Int) (hs : 0 ≤ s ∧ s < 12) (hf : 0 ≤ f ∧ 0 ≤ m ∧ f + m ≤ 60) : Wp mX7_costOf 0 (fun z τ => z = owP (len, σ 58, σ 61, span, σ 62) s f m ∧ τ = σ) 0 [some (.inr 7), some (.inl s), some (.inl f), some (.inl m), none, none] [] σ := by
  refine Wp.rg (fun hR => ?_)
  refine w_iload_n dX7_costOf_0 rfl ?_
  refine w_if_le (tgt := 19) dX7_costOf_1 (by decide) (by omega) (fun c_1 => ?_) (fun c_1 => ?_)
  · refine w_iconst dX7_costOf_19 ?_
    refine w_istore dX7_costOf_20 (Nat.le_of_ble_eq_true rfl) ?_
    refine w_iload_n dX7_costOf_22 rfl ?_
    refine w_istore dX7_costOf_23 (Nat.le_of_ble_eq_true rfl) ?_
    refine up_to (f + m) (fun i => f ≤ i → ∀ a, (a = (if 0 < m ∧ σ 58 s = 1 then 1000000 else 0) + sumF (pmP (len, σ 58, σ 61, span, σ 62) s) f (i - f)) → Wp mX7_costOf 0 (fun z τ => z = owP (len, σ 58, σ 61, span, σ 62) s f m ∧ τ = σ) 25 [some (.inr 7), some (.inl s), some (.inl f), some (.inl m), some (.inl a), some (.inl i)] [] σ) (fun i hi ih h0 a hinv => ?_) (f) (by omega) (by omega) _ (by rw [Int.sub_self, sumF_0]; first | (rw [if_pos (by omega)]; omega) | (rw [if_neg (by omega)]; omega))
    refine w_iload dX7_costOf_25 rfl ?_
    refine w_iload_n dX7_costOf_27 rfl ?_
    refine w_iload_n dX7_costOf_28 rfl ?_
    refine w_iadd dX7_costOf_29 ?_
    refine w_icmp_ge (tgt := 82) dX7_costOf_30 (by decide) (by omega) (by omega) (fun c_30 => ?_) (fun c_30 => ?_)
    · refine w_iload dX7_costOf_82 rfl ?_
      refine w_iret dX7_costOf_84 rfl ?_
      refine ⟨?_, rfl⟩
      rw [hinv, show i - f = m by omega]
      rfl
    · refine w_iload dX7_costOf_33 rfl ?_
      refine w_aload_n dX7_costOf_35 rfl ?_
      refine gf_X7_25 rfl dX7_costOf_36 ?_
      refine w_iload dX7_costOf_39 rfl ?_
      refine w_iald rfl (by omega) dX7_costOf_41 ?_
      refine w_iload_n dX7_costOf_42 rfl ?_
      refine w_icmp_eq (tgt := 72) dX7_costOf_43 (by decide) (hR _ _) (by omega) (fun c_43 => ?_) (fun c_43 => ?_)
      · refine w_iconst dX7_costOf_72 ?_
        refine w_iadd dX7_costOf_73 ?_
        refine w_istore dX7_costOf_74 (Nat.le_of_ble_eq_true rfl) ?_
        refine w_iinc dX7_costOf_76 (Nat.le_of_ble_eq_true rfl) rfl ?_
        refine w_goto (tgt := 25) dX7_costOf_79 (by decide) ?_
        refine ih (by omega) (by omega) _ ?_
        rw [show i + 1 - f = (i - f) + 1 by omega, sumF_s _ _ (by omega), show f + (i - f) = i by omega]
        have ep : pmP (len, σ 58, σ 61, span, σ 62) s i = (if σ 62 i = s ∨ σ 62 i = -1 then 0 else 100 * σ 61 i + 1) := rfl
        rw [ep]
        first | (rw [if_pos (by omega)]; omega) | (rw [if_neg (by omega)]; omega)
      · refine w_aload_n dX7_costOf_46 rfl ?_
        refine gf_X7_25 rfl dX7_costOf_47 ?_
        refine w_iload dX7_costOf_50 rfl ?_
        refine w_iald rfl (by omega) dX7_costOf_52 ?_
        refine w_iconst dX7_costOf_53 ?_
        refine w_icmp_eq (tgt := 72) dX7_costOf_54 (by decide) (hR _ _) (by omega) (fun c_54 => ?_) (fun c_54 => ?_)
        · refine w_iconst dX7_costOf_72 ?_
          refine w_iadd dX7_costOf_73 ?_
          refine w_istore dX7_costOf_74 (Nat.le_of_ble_eq_true rfl) ?_
          refine w_iinc dX7_costOf_76 (Nat.le_of_ble_eq_true rfl) rfl ?_
          refine w_goto (tgt := 25) dX7_costOf_79 (by decide) ?_
          refine ih (by omega) (by omega) _ ?_
          rw [show i + 1 - f = (i - f) + 1 by omega, sumF_s _ _ (by omega), show f + (i - f) = i by omega]
          have ep : pmP (len, σ 58, σ 61, span, σ 62) s i = (if σ 62 i = s ∨ σ 62 i = -1 then 0 else 100 * σ 61 i + 1) := rfl
          rw [ep]
          first | (rw [if_pos (by omega)]; omega) | (rw [if_neg (by omega)]; omega)
        · refine w_bipush dX7_costOf_57 (by decide) ?_
          refine w_aload_n dX7_costOf_59 rfl ?_
          refine gf_X7_22 rfl dX7_costOf_60 ?_
          refine w_iload dX7_costOf_63 rfl ?_
          refine w_iald rfl (by omega) dX7_costOf_65 ?_
          refine w_imul dX7_costOf_66 ?_
          refine w_iconst dX7_costOf_67 ?_
          refine w_iadd dX7_costOf_68 ?_
          refine w_goto (tgt := 73) dX7_costOf_69 (by decide) ?_
          refine w_iadd dX7_costOf_73 ?_
          refine w_istore dX7_costOf_74 (Nat.le_of_ble_eq_true rfl) ?_
          refine w_iinc dX7_costOf_76 (Nat.le_of_ble_eq_true rfl) rfl ?_
          refine w_goto (tgt := 25) dX7_costOf_79 (by decide) ?_
          refine ih (by omega) (by omega) _ ?_
          rw [show i + 1 - f = (i - f) + 1 by omega, sumF_s _ _ (by omega), show f + (i - f) = i by omega]
          have ep : pmP (len, σ 58, σ 61, span, σ 62) s i = (if σ 62 i = s ∨ σ 62 i = -1 then 0 else 100 * σ 61 i + 1) := rfl
          rw [ep]
          first | (rw [if_pos (by omega)]; omega) | (rw [if_neg (by omega)]; omega)
  · refine w_aload_n dX7_costOf_4 rfl ?_
    refine gf_X7_13 rfl dX7_costOf_5 ?_
    refine w_iload_n dX7_costOf_8 rfl ?_
    refine w_iald rfl (by omega) dX7_costOf_9 ?_
    refine w_iconst dX7_costOf_10 ?_
    refine w_icmp_ne (tgt := 19) dX7_costOf_11 (by decide) (hR _ _) (by omega) (fun c_11 => ?_) (fun c_11 => ?_)
    · refine w_iconst dX7_costOf_19 ?_
      refine w_istore dX7_costOf_20 (Nat.le_of_ble_eq_true rfl) ?_
      refine w_iload_n dX7_costOf_22 rfl ?_
      refine w_istore dX7_costOf_23 (Nat.le_of_ble_eq_true rfl) ?_
      refine up_to (f + m) (fun i => f ≤ i → ∀ a, (a = (if 0 < m ∧ σ 58 s = 1 then 1000000 else 0) + sumF (pmP (len, σ 58, σ 61, span, σ 62) s) f (i - f)) → Wp mX7_costOf 0 (fun z τ => z = owP (len, σ 58, σ 61, span, σ 62) s f m ∧ τ = σ) 25 [some (.inr 7), some (.inl s), some (.inl f), some (.inl m), some (.inl a), some (.inl i)] [] σ) (fun i hi ih h0 a hinv => ?_) (f) (by omega) (by omega) _ (by rw [Int.sub_self, sumF_0]; first | (rw [if_pos (by omega)]; omega) | (rw [if_neg (by omega)]; omega))
      refine w_iload dX7_costOf_25 rfl ?_
      refine w_iload_n dX7_costOf_27 rfl ?_
      refine w_iload_n dX7_costOf_28 rfl ?_
      refine w_iadd dX7_costOf_29 ?_
      refine w_icmp_ge (tgt := 82) dX7_costOf_30 (by decide) (by omega) (by omega) (fun c_30 => ?_) (fun c_30 => ?_)
      · refine w_iload dX7_costOf_82 rfl ?_
        refine w_iret dX7_costOf_84 rfl ?_
        refine ⟨?_, rfl⟩
        rw [hinv, show i - f = m by omega]
        rfl
      · refine w_iload dX7_costOf_33 rfl ?_
        refine w_aload_n dX7_costOf_35 rfl ?_
        refine gf_X7_25 rfl dX7_costOf_36 ?_
        refine w_iload dX7_costOf_39 rfl ?_
        refine w_iald rfl (by omega) dX7_costOf_41 ?_
        refine w_iload_n dX7_costOf_42 rfl ?_
        refine w_icmp_eq (tgt := 72) dX7_costOf_43 (by decide) (hR _ _) (by omega) (fun c_43 => ?_) (fun c_43 => ?_)
        · refine w_iconst dX7_costOf_72 ?_
          refine w_iadd dX7_costOf_73 ?_
          refine w_istore dX7_costOf_74 (Nat.le_of_ble_eq_true rfl) ?_
          refine w_iinc dX7_costOf_76 (Nat.le_of_ble_eq_true rfl) rfl ?_
          refine w_goto (tgt := 25) dX7_costOf_79 (by decide) ?_
          refine ih (by omega) (by omega) _ ?_
          rw [show i + 1 - f = (i - f) + 1 by omega, sumF_s _ _ (by omega), show f + (i - f) = i by omega]
          have ep : pmP (len, σ 58, σ 61, span, σ 62) s i = (if σ 62 i = s ∨ σ 62 i = -1 then 0 else 100 * σ 61 i + 1) := rfl
          rw [ep]
          first | (rw [if_pos (by omega)]; omega) | (rw [if_neg (by omega)]; omega)
        · refine w_aload_n dX7_costOf_46 rfl ?_
          refine gf_X7_25 rfl dX7_costOf_47 ?_
          refine w_iload dX7_costOf_50 rfl ?_
          refine w_iald rfl (by omega) dX7_costOf_52 ?_
          refine w_iconst dX7_costOf_53 ?_
          refine w_icmp_eq (tgt := 72) dX7_costOf_54 (by decide) (hR _ _) (by omega) (fun c_54 => ?_) (fun c_54 => ?_)
          · refine w_iconst dX7_costOf_72 ?_
            refine w_iadd dX7_costOf_73 ?_
            refine w_istore dX7_costOf_74 (Nat.le_of_ble_eq_true rfl) ?_
            refine w_iinc dX7_costOf_76 (Nat.le_of_ble_eq_true rfl) rfl ?_
            refine w_goto (tgt := 25) dX7_costOf_79 (by decide) ?_
            refine ih (by omega) (by omega) _ ?_
            rw [show i + 1 - f = (i - f) + 1 by omega, sumF_s _ _ (by omega), show f + (i - f) = i by omega]
            have ep : pmP (len, σ 58, σ 61, span, σ 62) s i = (if σ 62 i = s ∨ σ 62 i = -1 then 0 else 100 * σ 61 i + 1) := rfl
            rw [ep]
            first | (rw [if_pos (by omega)]; omega) | (rw [if_neg (by omega)]; omega)
          · refine w_bipush dX7_costOf_57 (by decide) ?_
            refine w_aload_n dX7_costOf_59 rfl ?_
            refine gf_X7_22 rfl dX7_costOf_60 ?_
            refine w_iload dX7_costOf_63 rfl ?_
            refine w_iald rfl (by omega) dX7_costOf_65 ?_
            refine w_imul dX7_costOf_66 ?_
            refine w_iconst dX7_costOf_67 ?_
            refine w_iadd dX7_costOf_68 ?_
            refine w_goto (tgt := 73) dX7_costOf_69 (by decide) ?_
            refine w_iadd dX7_costOf_73 ?_
            refine w_istore dX7_costOf_74 (Nat.le_of_ble_eq_true rfl) ?_
            refine w_iinc dX7_costOf_76 (Nat.le_of_ble_eq_true rfl) rfl ?_
            refine w_goto (tgt := 25) dX7_costOf_79 (by decide) ?_
            refine ih (by omega) (by omega) _ ?_
            rw [show i + 1 - f = (i - f) + 1 by omega, sumF_s _ _ (by omega), show f + (i - f) = i by omega]
            have ep : pmP (len, σ 58, σ 61, span, σ 62) s i = (if σ 62 i = s ∨ σ 62 i = -1 then 0 else 100 * σ 61 i + 1) := rfl
            rw [ep]
            first | (rw [if_pos (by omega)]; omega) | (rw [if_neg (by omega)]; omega)
    · refine w_ldc (n := 1000000) dX7_costOf_14 tw_859 ?_
      refine w_goto (tgt := 20) dX7_costOf_16 (by decide) ?_
      refine w_istore dX7_costOf_20 (Nat.le_of_ble_eq_true rfl) ?_
      refine w_iload_n dX7_costOf_22 rfl ?_
      refine w_istore dX7_costOf_23 (Nat.le_of_ble_eq_true rfl) ?_
      refine up_to (f + m) (fun i => f ≤ i → ∀ a, (a = (if 0 < m ∧ σ 58 s = 1 then 1000000 else 0) + sumF (pmP (len, σ 58, σ 61, span, σ 62) s) f (i - f)) → Wp mX7_costOf 0 (fun z τ => z = owP (len, σ 58, σ 61, span, σ 62) s f m ∧ τ = σ) 25 [some (.inr 7), some (.inl s), some (.inl f), some (.inl m), some (.inl a), some (.inl i)] [] σ) (fun i hi ih h0 a hinv => ?_) (f) (by omega) (by omega) _ (by rw [Int.sub_self, sumF_0]; first | (rw [if_pos (by omega)]; omega) | (rw [if_neg (by omega)]; omega))
      refine w_iload dX7_costOf_25 rfl ?_
      refine w_iload_n dX7_costOf_27 rfl ?_
      refine w_iload_n dX7_costOf_28 rfl ?_
      refine w_iadd dX7_costOf_29 ?_
      refine w_icmp_ge (tgt := 82) dX7_costOf_30 (by decide) (by omega) (by omega) (fun c_30 => ?_) (fun c_30 => ?_)
      · refine w_iload dX7_costOf_82 rfl ?_
        refine w_iret dX7_costOf_84 rfl ?_
        refine ⟨?_, rfl⟩
        rw [hinv, show i - f = m by omega]
        rfl
      · refine w_iload dX7_costOf_33 rfl ?_
        refine w_aload_n dX7_costOf_35 rfl ?_
        refine gf_X7_25 rfl dX7_costOf_36 ?_
        refine w_iload dX7_costOf_39 rfl ?_
        refine w_iald rfl (by omega) dX7_costOf_41 ?_
        refine w_iload_n dX7_costOf_42 rfl ?_
        refine w_icmp_eq (tgt := 72) dX7_costOf_43 (by decide) (hR _ _) (by omega) (fun c_43 => ?_) (fun c_43 => ?_)
        · refine w_iconst dX7_costOf_72 ?_
          refine w_iadd dX7_costOf_73 ?_
          refine w_istore dX7_costOf_74 (Nat.le_of_ble_eq_true rfl) ?_
          refine w_iinc dX7_costOf_76 (Nat.le_of_ble_eq_true rfl) rfl ?_
          refine w_goto (tgt := 25) dX7_costOf_79 (by decide) ?_
          refine ih (by omega) (by omega) _ ?_
          rw [show i + 1 - f = (i - f) + 1 by omega, sumF_s _ _ (by omega), show f + (i - f) = i by omega]
          have ep : pmP (len, σ 58, σ 61, span, σ 62) s i = (if σ 62 i = s ∨ σ 62 i = -1 then 0 else 100 * σ 61 i + 1) := rfl
          rw [ep]
          first | (rw [if_pos (by omega)]; omega) | (rw [if_neg (by omega)]; omega)
        · refine w_aload_n dX7_costOf_46 rfl ?_
          refine gf_X7_25 rfl dX7_costOf_47 ?_
          refine w_iload dX7_costOf_50 rfl ?_
          refine w_iald rfl (by omega) dX7_costOf_52 ?_
          refine w_iconst dX7_costOf_53 ?_
          refine w_icmp_eq (tgt := 72) dX7_costOf_54 (by decide) (hR _ _) (by omega) (fun c_54 => ?_) (fun c_54 => ?_)
          · refine w_iconst dX7_costOf_72 ?_
            refine w_iadd dX7_costOf_73 ?_
            refine w_istore dX7_costOf_74 (Nat.le_of_ble_eq_true rfl) ?_
            refine w_iinc dX7_costOf_76 (Nat.le_of_ble_eq_true rfl) rfl ?_
            refine w_goto (tgt := 25) dX7_costOf_79 (by decide) ?_
            refine ih (by omega) (by omega) _ ?_
            rw [show i + 1 - f = (i - f) + 1 by omega, sumF_s _ _ (by omega), show f + (i - f) = i by omega]
            have ep : pmP (len, σ 58, σ 61, span, σ 62) s i = (if σ 62 i = s ∨ σ 62 i = -1 then 0 else 100 * σ 61 i + 1) := rfl
            rw [ep]
            first | (rw [if_pos (by omega)]; omega) | (rw [if_neg (by omega)]; omega)
          · refine w_bipush dX7_costOf_57 (by decide) ?_
            refine w_aload_n dX7_costOf_59 rfl ?_
            refine gf_X7_22 rfl dX7_costOf_60 ?_
            refine w_iload dX7_costOf_63 rfl ?_
            refine w_iald rfl (by omega) dX7_costOf_65 ?_
            refine w_imul dX7_costOf_66 ?_
            refine w_iconst dX7_costOf_67 ?_
            refine w_iadd dX7_costOf_68 ?_
            refine w_goto (tgt := 73) dX7_costOf_69 (by decide) ?_
            refine w_iadd dX7_costOf_73 ?_
            refine w_istore dX7_costOf_74 (Nat.le_of_ble_eq_true rfl) ?_
            refine w_iinc dX7_costOf_76 (Nat.le_of_ble_eq_true rfl) rfl ?_
            refine w_goto (tgt := 25) dX7_costOf_79 (by decide) ?_
            refine ih (by omega) (by omega) _ ?_
            rw [show i + 1 - f = (i - f) + 1 by omega, sumF_s _ _ (by omega), show f + (i - f) = i by omega]
            have ep : pmP (len, σ 58, σ 61, span, σ 62) s i = (if σ 62 i = s ∨ σ 62 i = -1 then 0 else 100 * σ 61 i + 1) := rfl
            rw [ep]
            first | (rw [if_pos (by omega)]; omega) | (rw [if_neg (by omega)]; omega)

set_option maxRecDepth 100000 in
set_option maxHeartbeats 4000000 in
theorem cm_laysLeast (σ : St) (s f : Int) (hc : CPok ((σ 57, σ 58, σ 61, σ 69, σ 62) : CP) (σ 7 1) (σ 7 6)) (hs : 0 ≤ s ∧ s < σ 7 1) (hf : 0 ≤ f ∧ f ≤ σ 7 6) (hrow : ∀ b, f ≤ b → b ≤ σ 7 6 → 0 ≤ (fun b => σ 67 (61 * (s + 1) + b)) b ∧ (fun b => σ 67 (61 * (s + 1) + b)) b ≤ 1000000000) : Wp mX7_laysLeast 1 (fun z τ => ∃ v, IsMn ((σ 57, σ 58, σ 61, σ 69, σ 62) : CP) (σ 7 6) (fun b => σ 67 (61 * (s + 1) + b)) s f v ∧ 0 ≤ v ∧ v ≤ 1000000000 ∧ τ = put σ 67 (61 * s + f) v) 0 [some (.inr 7), some (.inl s), some (.inl f), none, none, none] [] σ := by
  refine Wp.rg (fun hR => ?_)
  have hn := hc.2.1
  have hns := hc.1
  refine w_ldc (n := 1000000000) dX7_laysLeast_0 tw_846 ?_
  refine w_istore_n dX7_laysLeast_2 (Nat.le_of_ble_eq_true rfl) ?_
  refine w_aload_n dX7_laysLeast_3 rfl ?_
  refine w_iload_n dX7_laysLeast_4 rfl ?_
  refine w_iload_n dX7_laysLeast_5 rfl ?_
  refine cv_X7_110 rfl dX7_laysLeast_6 (Nat.le_of_ble_eq_true rfl) (Nat.le_of_ble_eq_true rfl) (Wp.mono (cm_mostOn σ s f (by omega) (by omega) (by have := hc.2.2.1 s hs.1 hs.2; dsimp only at this; omega) (fun b b0 b1 => by have := hc.2.2.2 b b0 b1; dsimp only at this; omega)) (fun z_ τ_ hq_ => ?_))
  obtain ⟨hd, hs_⟩ := hq_
  subst τ_
  generalize z_ = M at hd
  have hM0 := hd.1
  have hM1 := hd.2.1
  have hfit : ∀ m, fitP ((σ 57, σ 58, σ 61, σ 69, σ 62) : CP) (σ 7 6) s f m ↔ 0 ≤ m ∧ m ≤ M := fun m => fit_iff (c := ((σ 57, σ 58, σ 61, σ 69, σ 62) : CP)) (fun b b0 b1 => by have := hc.2.2.2 b (by omega) b1; dsimp only at this ⊢; omega) hd
  refine w_istore dX7_laysLeast_9 (Nat.le_of_ble_eq_true rfl) ?_
  refine down_to (-1) (fun i => i ≤ M → ∀ (v : Int) (x5 : Option PV), (0 ≤ v ∧ v ≤ 1000000000 ∧ (∀ m, i < m → m ≤ M → v ≤ owP ((σ 57, σ 58, σ 61, σ 69, σ 62) : CP) s f m + (fun b => σ 67 (61 * (s + 1) + b)) (f + m)) ∧ (v = 1000000000 ∨ ∃ m, 0 ≤ m ∧ m ≤ M ∧ v = owP ((σ 57, σ 58, σ 61, σ 69, σ 62) : CP) s f m + (fun b => σ 67 (61 * (s + 1) + b)) (f + m))) → Wp mX7_laysLeast 1 (fun z τ => ∃ v, IsMn ((σ 57, σ 58, σ 61, σ 69, σ 62) : CP) (σ 7 6) (fun b => σ 67 (61 * (s + 1) + b)) s f v ∧ 0 ≤ v ∧ v ≤ 1000000000 ∧ τ = put σ 67 (61 * s + f) v) 11 [some (.inr 7), some (.inl s), some (.inl f), some (.inl v), some (.inl i), x5] [] σ) (fun i hi ih h0 v x5 hinv => ?_) (M) (by omega) (by omega) _ _ ⟨by omega, by omega, fun m m0 m1 => by omega, Or.inl rfl⟩
  obtain ⟨g1, g2, g3, g4⟩ := hinv
  refine w_iload dX7_laysLeast_11 rfl ?_
  refine w_if_lt (tgt := 74) dX7_laysLeast_13 (by decide) (by omega) (fun c_13 => ?_) (fun c_13 => ?_)
  · refine w_aload_n dX7_laysLeast_74 rfl ?_
    refine gf_X7_44 rfl dX7_laysLeast_75 ?_
    refine w_aload_n dX7_laysLeast_78 rfl ?_
    refine w_iload_n dX7_laysLeast_79 rfl ?_
    refine w_iload_n dX7_laysLeast_80 rfl ?_
    refine cv_X7_101 rfl dX7_laysLeast_81 (Nat.le_of_ble_eq_true rfl) (Nat.le_of_ble_eq_true rfl) (Wp.mono (cm_cell σ s f) (fun z_ τ_ hq_ => ?_))
    obtain ⟨hz_, hs_⟩ := hq_
    subst z_
    subst τ_
    refine w_iload_n dX7_laysLeast_84 rfl ?_
    refine w_iast rfl (by omega) (by omega) dX7_laysLeast_85 ?_
    refine w_ret dX7_laysLeast_86 rfl ?_
    refine ⟨v, ⟨fun m hm => ?_, ?_⟩, g1, g2, rfl⟩
    · have := (hfit m).mp hm
      exact g3 m (by omega) this.2
    · rcases g4 with g4 | ⟨m, m0, m1, g4⟩
      · refine ⟨0, (hfit 0).mpr ⟨by omega, by omega⟩, ?_⟩
        have a1 := g3 0 (by omega) (by omega)
        rw [owP_0, Int.zero_add, Int.add_zero] at a1 ⊢
        have a2 := hrow f (by omega) (by omega)
        dsimp only at a1 a2 ⊢
        omega
      · exact ⟨m, (hfit m).mpr ⟨m0, m1⟩, g4⟩
  · have hob := owP_bd hc s (f := f) (m := i) (by omega) (by omega) (by omega)
    have hrw := hrow (f + i) (by omega) (by omega)
    dsimp only at hrw
    refine w_aload_n dX7_laysLeast_16 rfl ?_
    refine gf_X7_44 rfl dX7_laysLeast_17 ?_
    refine w_aload_n dX7_laysLeast_20 rfl ?_
    refine w_iload_n dX7_laysLeast_21 rfl ?_
    refine w_iconst dX7_laysLeast_22 ?_
    refine w_iadd dX7_laysLeast_23 ?_
    refine w_iload_n dX7_laysLeast_24 rfl ?_
    refine w_iload dX7_laysLeast_25 rfl ?_
    refine w_iadd dX7_laysLeast_27 ?_
    refine cv_X7_101 rfl dX7_laysLeast_28 (Nat.le_of_ble_eq_true rfl) (Nat.le_of_ble_eq_true rfl) (Wp.mono (cm_cell σ (s + 1) (f + i)) (fun z_ τ_ hq_ => ?_))
    obtain ⟨hz_, hs_⟩ := hq_
    subst z_
    subst τ_
    refine w_iald rfl (by omega) dX7_laysLeast_31 ?_
    refine w_istore dX7_laysLeast_32 (Nat.le_of_ble_eq_true rfl) ?_
    refine w_iload dX7_laysLeast_34 rfl ?_
    refine w_ldc (n := 1000000000) dX7_laysLeast_36 tw_846 ?_
    refine w_icmp_ge (tgt := 68) dX7_laysLeast_38 (by decide) (hR _ _) (by omega) (fun c_38 => ?_) (fun c_38 => ?_)
    · refine w_iinc dX7_laysLeast_68 (Nat.le_of_ble_eq_true rfl) rfl ?_
      refine w_goto (tgt := 11) dX7_laysLeast_71 (by decide) ?_
      refine ih (by omega) (by omega) _ _ ⟨by omega, by omega, fun m m0 m1 => ?_, ?_⟩
      · by_cases e : m = i
        · subst e; dsimp only; omega
        · have := g3 m (by omega) m1; omega
      · first
        | (rcases g4 with g4 | g4
           · exact Or.inl g4
           · exact Or.inr g4)
        | exact Or.inr ⟨i, by omega, by omega, rfl⟩
    · refine w_aload_n dX7_laysLeast_41 rfl ?_
      refine w_iload_n dX7_laysLeast_42 rfl ?_
      refine w_iload_n dX7_laysLeast_43 rfl ?_
      refine w_iload dX7_laysLeast_44 rfl ?_
      refine cv_X7_113 rfl dX7_laysLeast_46 (Nat.le_of_ble_eq_true rfl) (Nat.le_of_ble_eq_true rfl) (Wp.mono (cm_costOf σ (σ 57) (σ 69) s f i (by omega) (by omega)) (fun z_ τ_ hq_ => ?_))
      obtain ⟨hz_, hs_⟩ := hq_
      subst z_
      subst τ_
      refine w_iload dX7_laysLeast_49 rfl ?_
      refine w_iadd dX7_laysLeast_51 ?_
      refine w_iload_n dX7_laysLeast_52 rfl ?_
      refine w_icmp_ge (tgt := 68) dX7_laysLeast_53 (by decide) (by omega) (by omega) (fun c_53 => ?_) (fun c_53 => ?_)
      · refine w_iinc dX7_laysLeast_68 (Nat.le_of_ble_eq_true rfl) rfl ?_
        refine w_goto (tgt := 11) dX7_laysLeast_71 (by decide) ?_
        refine ih (by omega) (by omega) _ _ ⟨by omega, by omega, fun m m0 m1 => ?_, ?_⟩
        · by_cases e : m = i
          · subst e; dsimp only; omega
          · have := g3 m (by omega) m1; omega
        · first
          | (rcases g4 with g4 | g4
             · exact Or.inl g4
             · exact Or.inr g4)
          | exact Or.inr ⟨i, by omega, by omega, rfl⟩
      · refine w_aload_n dX7_laysLeast_56 rfl ?_
        refine w_iload_n dX7_laysLeast_57 rfl ?_
        refine w_iload_n dX7_laysLeast_58 rfl ?_
        refine w_iload dX7_laysLeast_59 rfl ?_
        refine cv_X7_113 rfl dX7_laysLeast_61 (Nat.le_of_ble_eq_true rfl) (Nat.le_of_ble_eq_true rfl) (Wp.mono (cm_costOf σ (σ 57) (σ 69) s f i (by omega) (by omega)) (fun z_ τ_ hq_ => ?_))
        obtain ⟨hz_, hs_⟩ := hq_
        subst z_
        subst τ_
        refine w_iload dX7_laysLeast_64 rfl ?_
        refine w_iadd dX7_laysLeast_66 ?_
        refine w_istore_n dX7_laysLeast_67 (Nat.le_of_ble_eq_true rfl) ?_
        refine w_iinc dX7_laysLeast_68 (Nat.le_of_ble_eq_true rfl) rfl ?_
        refine w_goto (tgt := 11) dX7_laysLeast_71 (by decide) ?_
        refine ih (by omega) (by omega) _ _ ⟨by omega, by omega, fun m m0 m1 => ?_, ?_⟩
        · by_cases e : m = i
          · subst e; dsimp only; omega
          · have := g3 m (by omega) m1; omega
        · first
          | (rcases g4 with g4 | g4
             · exact Or.inl g4
             · exact Or.inr g4)
          | exact Or.inr ⟨i, by omega, by omega, rfl⟩

