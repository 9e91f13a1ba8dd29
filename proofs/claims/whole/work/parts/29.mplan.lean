set_option maxRecDepth 100000 in
set_option maxHeartbeats 4000000 in
theorem ct5_planned (σ : St) (k w : Int) (hI : InvM σ) (hk : InR k) (hw : InR w) : Wp mX7_planned 1 (fun z τ => ((σ 7 21 = 1 ∧ 0 ≤ k ∧ k < σ 7 23) → ((w = 0 ∧ z = σ 71 k) ∨ (w = 1 ∧ z = σ 72 k) ∨ (w = 2 ∧ z = σ 73 k) ∨ (w = 3 ∧ z = if σ 72 k < σ 73 k then 1 else 2) ∨ (w = 4 ∧ z + 1 = (dyF (fun i => σ 61 (σ 71 i)) 0 (σ 7 12) (k + 1 - 0)).1) ∨ (w = 5 ∧ z + 1 = trF (σ 72) (σ 73) 0 (k + 1 - 0)) ∨ (w = 6 ∧ z = cntW (σ 72) (σ 73 k) k) ∨ ((w < 0 ∨ 6 < w) ∧ z = -1)) ∧ τ = σ) ∧ (¬ (σ 7 21 = 1 ∧ 0 ≤ k ∧ k < σ 7 23) → z = -1 ∧ τ = σ)) 5 [some (.inr 7), some (.inl k), some (.inl w)] [] σ := by
  refine Wp.rg (fun hR => ?_)
  have hpf := hI.pf
  refine w_aload_n dX7_planned_5 rfl ?_
  refine gf_X7_164 rfl dX7_planned_6 ?_
  refine w_if_eq (tgt := 26) dX7_planned_9 (by decide) (by omega) (fun c_9 => ?_) (fun c_9 => ?_)
  · refine w_iconst dX7_planned_26 ?_
    refine w_iret dX7_planned_27 rfl ?_
    exact ⟨fun ok => absurd ok (by omega), fun _ => ⟨rfl, rfl⟩⟩
  · have hpl := hI.pl (by omega)
    refine w_iload_n dX7_planned_12 rfl ?_
    refine w_iconst dX7_planned_13 ?_
    refine w_aload_n dX7_planned_14 rfl ?_
    refine gf_X7_171 rfl dX7_planned_15 ?_
    refine w_iconst dX7_planned_18 ?_
    refine w_isub dX7_planned_19 ?_
    refine cv_X7_74 rfl dX7_planned_20 (Nat.le_of_ble_eq_true rfl) (Nat.le_of_ble_eq_true rfl) (Wp.mono (cm_isIn _ k 0 (σ 7 23 - 1) hk (by omega) (by have := hI.pl (by omega); omega)) (fun z_ τ_ hq_ => ?_))
    obtain ⟨hw20, hs_⟩ := hq_
    subst τ_
    refine w_if_ne (tgt := 28) dX7_planned_23 (by decide) (by omega) (fun c_23 => ?_) (fun c_23 => ?_)
    · refine w_iload_n dX7_planned_28 rfl ?_
      by_cases hsw : w < 0 ∨ 6 < w
      · refine w_tswO (tgt := 138) dX7_planned_29 hw hsw (by decide) ?_
        refine w_iconst dX7_planned_138 ?_
        refine w_iret dX7_planned_139 rfl ?_
        exact ⟨fun _ => ⟨Or.inr (Or.inr (Or.inr (Or.inr (Or.inr (Or.inr (Or.inr (⟨hsw, rfl⟩))))))), rfl⟩, fun nok => absurd nok (by omega)⟩
      · rcases (show w = 0 ∨ w = 1 ∨ w = 2 ∨ w = 3 ∨ w = 4 ∨ w = 5 ∨ w = 6 by omega) with rfl | rfl | rfl | rfl | rfl | rfl | rfl
        · refine w_tswI (off := 43) (tgt := 72) dX7_planned_29 (by omega) (by omega) (by omega) (by decide) (by decide) ?_
          refine w_aload_n dX7_planned_72 rfl ?_
          refine gf_X7_56 rfl dX7_planned_73 ?_
          refine w_iload_n dX7_planned_76 rfl ?_
          refine w_iald rfl (by omega) dX7_planned_77 ?_
          refine w_iret dX7_planned_78 rfl ?_
          exact ⟨fun _ => ⟨Or.inl ⟨rfl, rfl⟩, rfl⟩, fun nok => absurd nok (by omega)⟩
        · refine w_tswI (off := 50) (tgt := 79) dX7_planned_29 (by omega) (by omega) (by omega) (by decide) (by decide) ?_
          refine w_aload_n dX7_planned_79 rfl ?_
          refine gf_X7_59 rfl dX7_planned_80 ?_
          refine w_iload_n dX7_planned_83 rfl ?_
          refine w_iald rfl (by omega) dX7_planned_84 ?_
          refine w_iret dX7_planned_85 rfl ?_
          exact ⟨fun _ => ⟨Or.inr (Or.inl ⟨rfl, rfl⟩), rfl⟩, fun nok => absurd nok (by omega)⟩
        · refine w_tswI (off := 57) (tgt := 86) dX7_planned_29 (by omega) (by omega) (by omega) (by decide) (by decide) ?_
          refine w_aload_n dX7_planned_86 rfl ?_
          refine gf_X7_62 rfl dX7_planned_87 ?_
          refine w_iload_n dX7_planned_90 rfl ?_
          refine w_iald rfl (by omega) dX7_planned_91 ?_
          refine w_iret dX7_planned_92 rfl ?_
          exact ⟨fun _ => ⟨Or.inr (Or.inr (Or.inl ⟨rfl, rfl⟩)), rfl⟩, fun nok => absurd nok (by omega)⟩
        · refine w_tswI (off := 64) (tgt := 93) dX7_planned_29 (by omega) (by omega) (by omega) (by decide) (by decide) ?_
          refine w_aload_n dX7_planned_93 rfl ?_
          refine gf_X7_62 rfl dX7_planned_94 ?_
          refine w_iload_n dX7_planned_97 rfl ?_
          refine w_iald rfl (by omega) dX7_planned_98 ?_
          refine w_aload_n dX7_planned_99 rfl ?_
          refine gf_X7_59 rfl dX7_planned_100 ?_
          refine w_iload_n dX7_planned_103 rfl ?_
          refine w_iald rfl (by omega) dX7_planned_104 ?_
          refine w_icmp_le (tgt := 112) dX7_planned_105 (by decide) (hR _ _) (hR _ _) (fun c_105 => ?_) (fun c_105 => ?_)
          · refine w_iconst dX7_planned_112 ?_
            refine w_iret dX7_planned_113 rfl ?_
            exact ⟨fun _ => ⟨Or.inr (Or.inr (Or.inr (Or.inl ⟨rfl, by first | rw [if_pos (by omega)] | rw [if_neg (by omega)]⟩))), rfl⟩, fun nok => absurd nok (by omega)⟩
          · refine w_iconst dX7_planned_108 ?_
            refine w_goto (tgt := 113) dX7_planned_109 (by decide) ?_
            refine w_iret dX7_planned_113 rfl ?_
            exact ⟨fun _ => ⟨Or.inr (Or.inr (Or.inr (Or.inl ⟨rfl, by first | rw [if_pos (by omega)] | rw [if_neg (by omega)]⟩))), rfl⟩, fun nok => absurd nok (by omega)⟩
        · refine w_tswI (off := 85) (tgt := 114) dX7_planned_29 (by omega) (by omega) (by omega) (by decide) (by decide) ?_
          refine w_aload_n dX7_planned_114 rfl ?_
          refine w_iconst dX7_planned_115 ?_
          refine w_iload_n dX7_planned_116 rfl ?_
          refine w_aload_n dX7_planned_117 rfl ?_
          refine gf_X7_31 rfl dX7_planned_118 ?_
          refine cv_X7_187 rfl dX7_planned_121 (Nat.le_of_ble_eq_true rfl) (Nat.le_of_ble_eq_true rfl) (Wp.mono (cm_dayOf σ 0 k (σ 7 12) (by omega) hI.lm (fun i i0 i1 => by have h1 := hpl.2 i i0 (by omega); have h2 := hI.w.bk _ h1.1 h1.2; have h3 := hI.w.nb; omega)) (fun z_ τ_ hq_ => ?_))
          obtain ⟨hz_, hs_⟩ := hq_
          subst τ_
          refine w_iret dX7_planned_124 rfl ?_
          exact ⟨fun _ => ⟨Or.inr (Or.inr (Or.inr (Or.inr (Or.inl ⟨rfl, hz_⟩)))), rfl⟩, fun nok => absurd nok (by omega)⟩
        · refine w_tswI (off := 96) (tgt := 125) dX7_planned_29 (by omega) (by omega) (by omega) (by decide) (by decide) ?_
          refine w_aload_n dX7_planned_125 rfl ?_
          refine w_iconst dX7_planned_126 ?_
          refine w_iload_n dX7_planned_127 rfl ?_
          refine cv_X7_190 rfl dX7_planned_128 (Nat.le_of_ble_eq_true rfl) (Nat.le_of_ble_eq_true rfl) (Wp.mono (cm_tripOf σ 0 k (by omega)) (fun z_ τ_ hq_ => ?_))
          obtain ⟨hz_, hs_⟩ := hq_
          subst τ_
          refine w_iret dX7_planned_131 rfl ?_
          exact ⟨fun _ => ⟨Or.inr (Or.inr (Or.inr (Or.inr (Or.inr (Or.inl ⟨rfl, hz_⟩))))), rfl⟩, fun nok => absurd nok (by omega)⟩
        · refine w_tswI (off := 103) (tgt := 132) dX7_planned_29 (by omega) (by omega) (by omega) (by decide) (by decide) ?_
          refine w_aload_n dX7_planned_132 rfl ?_
          refine w_iload_n dX7_planned_133 rfl ?_
          refine cv_X7_193 rfl dX7_planned_134 (Nat.le_of_ble_eq_true rfl) (Nat.le_of_ble_eq_true rfl) (Wp.mono (cm_taken σ k (by omega)) (fun z_ τ_ hq_ => ?_))
          obtain ⟨hz_, hs_⟩ := hq_
          subst z_
          subst τ_
          refine w_iret dX7_planned_137 rfl ?_
          exact ⟨fun _ => ⟨Or.inr (Or.inr (Or.inr (Or.inr (Or.inr (Or.inr (Or.inl ⟨rfl, rfl⟩)))))), rfl⟩, fun nok => absurd nok (by omega)⟩
    · refine w_iconst dX7_planned_26 ?_
      refine w_iret dX7_planned_27 rfl ?_
      exact ⟨fun ok => absurd ok (by omega), fun _ => ⟨rfl, rfl⟩⟩

set_option maxRecDepth 100000 in
set_option maxHeartbeats 4000000 in
theorem ct5_left (σ : St) (w : Int) (hI : InvM σ) (hw : InR w) : Wp mX7_left 1 (fun z τ => (σ 7 21 = 1 → ((w = 0 ∧ z = σ 7 23 - σ 7 24) ∨ (w = 1 ∧ z = sumF (fun i => σ 61 (σ 71 i)) (σ 7 24) (σ 7 23 - σ 7 24)) ∨ (w = 2 ∧ z = (dyF (fun i => σ 61 (σ 71 i)) (σ 7 24) (σ 7 12) (σ 7 23 - 1 + 1 - σ 7 24)).1) ∨ (w = 3 ∧ z = trF (σ 72) (σ 73) (σ 7 24) (σ 7 23 - 1 + 1 - σ 7 24)) ∨ (w = 4 ∧ z = rgF (σ 72) (σ 73) (σ 7 24) (σ 7 23 - σ 7 24)) ∨ ((w < 0 ∨ 4 < w) ∧ z = -1)) ∧ τ = σ) ∧ (¬ σ 7 21 = 1 → z = -1 ∧ τ = σ)) 5 [some (.inr 7), some (.inl w)] [] σ := by
  refine Wp.rg (fun hR => ?_)
  have hpf := hI.pf
  refine w_aload_n dX7_left_5 rfl ?_
  refine gf_X7_164 rfl dX7_left_6 ?_
  refine w_if_ne (tgt := 14) dX7_left_9 (by decide) (by omega) (fun c_9 => ?_) (fun c_9 => ?_)
  · have hpl := hI.pl (by omega)
    refine w_iload_n dX7_left_14 rfl ?_
    by_cases hsw : w < 0 ∨ 4 < w
    · refine w_tswO (tgt := 106) dX7_left_15 hw hsw (by decide) ?_
      refine w_iconst dX7_left_106 ?_
      refine w_iret dX7_left_107 rfl ?_
      exact ⟨fun _ => ⟨Or.inr (Or.inr (Or.inr (Or.inr (Or.inr (⟨hsw, rfl⟩))))), rfl⟩, fun nok => absurd nok (by omega)⟩
    · rcases (show w = 0 ∨ w = 1 ∨ w = 2 ∨ w = 3 ∨ w = 4 by omega) with rfl | rfl | rfl | rfl | rfl
      · refine w_tswI (off := 33) (tgt := 48) dX7_left_15 (by omega) (by omega) (by omega) (by decide) (by decide) ?_
        refine w_aload_n dX7_left_48 rfl ?_
        refine gf_X7_171 rfl dX7_left_49 ?_
        refine w_aload_n dX7_left_52 rfl ?_
        refine gf_X7_174 rfl dX7_left_53 ?_
        refine w_isub dX7_left_56 ?_
        refine w_iret dX7_left_57 rfl ?_
        exact ⟨fun _ => ⟨Or.inl ⟨rfl, rfl⟩, rfl⟩, fun nok => absurd nok (by omega)⟩
      · refine w_tswI (off := 43) (tgt := 58) dX7_left_15 (by omega) (by omega) (by omega) (by decide) (by decide) ?_
        refine w_aload_n dX7_left_58 rfl ?_
        refine cv_X7_196 rfl dX7_left_59 (Nat.le_of_ble_eq_true rfl) (Nat.le_of_ble_eq_true rfl) (Wp.mono (cm_leftWidths σ (by omega) (fun i i0 i1 => by have h1 := hpl.2 i (by omega) (by omega); have h2 := hI.w.bk _ h1.1 h1.2; have h3 := hI.w.nb; omega)) (fun z_ τ_ hq_ => ?_))
        obtain ⟨hz_, hs_⟩ := hq_
        subst z_
        subst τ_
        refine w_iret dX7_left_62 rfl ?_
        exact ⟨fun _ => ⟨Or.inr (Or.inl ⟨rfl, rfl⟩), rfl⟩, fun nok => absurd nok (by omega)⟩
      · refine w_tswI (off := 48) (tgt := 63) dX7_left_15 (by omega) (by omega) (by omega) (by decide) (by decide) ?_
        refine w_iconst dX7_left_63 ?_
        refine w_aload_n dX7_left_64 rfl ?_
        refine w_aload_n dX7_left_65 rfl ?_
        refine gf_X7_174 rfl dX7_left_66 ?_
        refine w_aload_n dX7_left_69 rfl ?_
        refine gf_X7_171 rfl dX7_left_70 ?_
        refine w_iconst dX7_left_73 ?_
        refine w_isub dX7_left_74 ?_
        refine w_aload_n dX7_left_75 rfl ?_
        refine gf_X7_31 rfl dX7_left_76 ?_
        refine cv_X7_187 rfl dX7_left_79 (Nat.le_of_ble_eq_true rfl) (Nat.le_of_ble_eq_true rfl) (Wp.mono (cm_dayOf σ (σ 7 24) (σ 7 23 - 1) (σ 7 12) (by omega) hI.lm (fun i i0 i1 => by have h1 := hpl.2 i (by omega) (by omega); have h2 := hI.w.bk _ h1.1 h1.2; have h3 := hI.w.nb; omega)) (fun z_ τ_ hq_ => ?_))
        obtain ⟨hz_, hs_⟩ := hq_
        subst τ_
        refine w_iadd dX7_left_82 ?_
        refine w_iret dX7_left_83 rfl ?_
        exact ⟨fun _ => ⟨Or.inr (Or.inr (Or.inl ⟨rfl, by rw [← hz_]; omega⟩)), rfl⟩, fun nok => absurd nok (by omega)⟩
      · refine w_tswI (off := 69) (tgt := 84) dX7_left_15 (by omega) (by omega) (by omega) (by decide) (by decide) ?_
        refine w_iconst dX7_left_84 ?_
        refine w_aload_n dX7_left_85 rfl ?_
        refine w_aload_n dX7_left_86 rfl ?_
        refine gf_X7_174 rfl dX7_left_87 ?_
        refine w_aload_n dX7_left_90 rfl ?_
        refine gf_X7_171 rfl dX7_left_91 ?_
        refine w_iconst dX7_left_94 ?_
        refine w_isub dX7_left_95 ?_
        refine cv_X7_190 rfl dX7_left_96 (Nat.le_of_ble_eq_true rfl) (Nat.le_of_ble_eq_true rfl) (Wp.mono (cm_tripOf σ (σ 7 24) (σ 7 23 - 1) (by omega)) (fun z_ τ_ hq_ => ?_))
        obtain ⟨hz_, hs_⟩ := hq_
        subst τ_
        refine w_iadd dX7_left_99 ?_
        refine w_iret dX7_left_100 rfl ?_
        exact ⟨fun _ => ⟨Or.inr (Or.inr (Or.inr (Or.inl ⟨rfl, by rw [← hz_]; omega⟩))), rfl⟩, fun nok => absurd nok (by omega)⟩
      · refine w_tswI (off := 86) (tgt := 101) dX7_left_15 (by omega) (by omega) (by omega) (by decide) (by decide) ?_
        refine w_aload_n dX7_left_101 rfl ?_
        refine cv_X7_199 rfl dX7_left_102 (Nat.le_of_ble_eq_true rfl) (Nat.le_of_ble_eq_true rfl) (Wp.mono (cm_leftRight σ (by omega)) (fun z_ τ_ hq_ => ?_))
        obtain ⟨hz_, hs_⟩ := hq_
        subst z_
        subst τ_
        refine w_iret dX7_left_105 rfl ?_
        exact ⟨fun _ => ⟨Or.inr (Or.inr (Or.inr (Or.inr (Or.inl ⟨rfl, rfl⟩)))), rfl⟩, fun nok => absurd nok (by omega)⟩
  · refine w_iconst dX7_left_12 ?_
    refine w_iret dX7_left_13 rfl ?_
    exact ⟨fun ok => absurd ok (by omega), fun _ => ⟨rfl, rfl⟩⟩

def dmF (σ : St) (l : Int) : Int := (dyF (fun i => σ 61 (σ 71 i)) (σ 7 24) l (σ 7 23 - σ 7 24)).1

set_option maxRecDepth 100000 in
set_option maxHeartbeats 4000000 in
theorem ct5_enough (σ : St) (e : Int) (hI : InvM σ) (he : InR e) : Wp mX7_enough 1 (fun z τ => ((σ 7 21 = 1 ∧ ((40 ≤ z ∧ z ≤ 400 ∧ dmF σ z ≤ e ∧ ∀ l, 40 ≤ l → l < z → e < dmF σ l) ∨ (z = -1 ∧ ∀ l, 40 ≤ l → l ≤ 400 → e < dmF σ l))) ∨ (σ 7 21 = 0 ∧ z = -1)) ∧ τ = σ) 5 [some (.inr 7), some (.inl e), none] [] σ := by
  refine Wp.rg (fun hR => ?_)
  have hpf := hI.pf
  refine w_bipush dX7_enough_5 (by decide) ?_
  refine w_istore_n dX7_enough_7 (Nat.le_of_ble_eq_true rfl) ?_
  refine up_to (401) (fun i => 40 ≤ i → (∀ l, 40 ≤ l → l < i → e < dmF σ l) → Wp mX7_enough 1 (fun z τ => ((σ 7 21 = 1 ∧ ((40 ≤ z ∧ z ≤ 400 ∧ dmF σ z ≤ e ∧ ∀ l, 40 ≤ l → l < z → e < dmF σ l) ∨ (z = -1 ∧ ∀ l, 40 ≤ l → l ≤ 400 → e < dmF σ l))) ∨ (σ 7 21 = 0 ∧ z = -1)) ∧ τ = σ) 8 [some (.inr 7), some (.inl e), some (.inl i)] [] σ) (fun i hi ih h0  hinv => ?_) (40) (by omega) (by omega)  (fun l l0 l1 => by omega)
  refine w_aload_n dX7_enough_8 rfl ?_
  refine gf_X7_164 rfl dX7_enough_9 ?_
  refine w_if_eq (tgt := 51) dX7_enough_12 (by decide) (by omega) (fun c_12 => ?_) (fun c_12 => ?_)
  · refine w_iconst dX7_enough_51 ?_
    refine w_iret dX7_enough_52 rfl ?_
    by_cases q : σ 7 21 = 0
    · exact ⟨Or.inr ⟨q, rfl⟩, rfl⟩
    · exact ⟨Or.inl ⟨by omega, Or.inr ⟨rfl, fun l l0 l1 => hinv l l0 (by omega)⟩⟩, rfl⟩
  · have hpl := hI.pl (by omega)
    refine w_iload_n dX7_enough_15 rfl ?_
    refine w_sipush dX7_enough_16 (by decide) ?_
    refine w_icmp_gt (tgt := 51) dX7_enough_19 (by decide) (by omega) (by omega) (fun c_19 => ?_) (fun c_19 => ?_)
    · refine w_iconst dX7_enough_51 ?_
      refine w_iret dX7_enough_52 rfl ?_
      by_cases q : σ 7 21 = 0
      · exact ⟨Or.inr ⟨q, rfl⟩, rfl⟩
      · exact ⟨Or.inl ⟨by omega, Or.inr ⟨rfl, fun l l0 l1 => hinv l l0 (by omega)⟩⟩, rfl⟩
    · refine w_iconst dX7_enough_22 ?_
      refine w_aload_n dX7_enough_23 rfl ?_
      refine w_aload_n dX7_enough_24 rfl ?_
      refine gf_X7_174 rfl dX7_enough_25 ?_
      refine w_aload_n dX7_enough_28 rfl ?_
      refine gf_X7_171 rfl dX7_enough_29 ?_
      refine w_iconst dX7_enough_32 ?_
      refine w_isub dX7_enough_33 ?_
      refine w_iload_n dX7_enough_34 rfl ?_
      refine cv_X7_187 rfl dX7_enough_35 (Nat.le_of_ble_eq_true rfl) (Nat.le_of_ble_eq_true rfl) (Wp.mono (cm_dayOf σ (σ 7 24) (σ 7 23 - 1) i (by omega) (by omega) (fun i i0 i1 => by have h1 := hpl.2 i (by omega) (by omega); have h2 := hI.w.bk _ h1.1 h1.2; have h3 := hI.w.nb; omega)) (fun z_ τ_ hq_ => ?_))
      obtain ⟨hz_, hs_⟩ := hq_
      subst τ_
      rw [show σ 7 23 - 1 + 1 - σ 7 24 = σ 7 23 - σ 7 24 by omega, show (dyF (fun i => σ 61 (σ 71 i)) (σ 7 24) i (σ 7 23 - σ 7 24)).1 = dmF σ i from rfl] at hz_
      have hdb := dy_bd (fun i => σ 61 (σ 71 i)) (σ 7 24) i (σ 7 23 - σ 7 24).toNat
      rw [show (((σ 7 23 - σ 7 24).toNat : Nat) : Int) = σ 7 23 - σ 7 24 by omega, show (dyF (fun i => σ 61 (σ 71 i)) (σ 7 24) i (σ 7 23 - σ 7 24)).1 = dmF σ i from rfl] at hdb
      refine w_iadd dX7_enough_38 ?_
      refine w_iload_n dX7_enough_39 rfl ?_
      refine w_icmp_gt (tgt := 45) dX7_enough_40 (by decide) (by omega) he (fun c_40 => ?_) (fun c_40 => ?_)
      · refine w_iinc dX7_enough_45 (Nat.le_of_ble_eq_true rfl) rfl ?_
        refine w_goto (tgt := 8) dX7_enough_48 (by decide) ?_
        refine ih (by omega) (by omega) (fun l l0 l1 => ?_)
        by_cases q : l = i
        · subst q; omega
        · exact hinv l l0 (by omega)
      · refine w_iload_n dX7_enough_43 rfl ?_
        refine w_iret dX7_enough_44 rfl ?_
        exact ⟨Or.inl ⟨by omega, Or.inl ⟨by omega, by omega, by omega, hinv⟩⟩, rfl⟩

