set_option maxRecDepth 100000 in
set_option maxHeartbeats 4000000 in
theorem cm_on (σ : St) (s w : Int) (hI : InvW σ) (hs : InR s) (hw : InR w) : Wp mX7_on 4 (fun z τ => ((0 ≤ s ∧ s < σ 7 1 ∧ 0 ≤ w ∧ w ≤ 7) → ((w = 0 ∧ z = σ 57 s) ∨ (w = 1 ∧ z = σ 58 s) ∨ (w = 2 ∧ z = sumW (σ 62) (σ 61) s (σ 7 6)) ∨ (w = 3 ∧ z = σ 57 s - sumW (σ 62) (σ 61) s (σ 7 6)) ∨ (w = 4 ∧ z = sumW (σ 62) (ndM σ) s (σ 7 6)) ∨ (w = 5 ∧ z = yrF (σ 57) (σ 62) (σ 61) (ndM σ) s (σ 7 6)) ∨ (w = 6 ∧ IsFst (σ 62) s (σ 7 6) z) ∨ (w = 7 ∧ z = cntW (σ 62) s (σ 7 6))) ∧ ∀ k, (k < 65 ∨ 69 < k) → τ k = put σ 7 0 0 k) ∧ (¬ (0 ≤ s ∧ s < σ 7 1 ∧ 0 ≤ w ∧ w ≤ 7) → z = 0 ∧ τ = put σ 7 0 1)) 0 [some (.inr 7), some (.inl s), some (.inl w)] [] σ := by
  refine Wp.rg (fun hR => ?_)
  have hns := hI.ns
  have hng := hI.ng
  have hnb := hI.nb
  refine w_aload_n dX7_on_0 rfl ?_
  refine w_aload_n dX7_on_1 rfl ?_
  refine w_iload_n dX7_on_2 rfl ?_
  refine cv_X7_117 rfl dX7_on_3 (Nat.le_of_ble_eq_true rfl) (Nat.le_of_ble_eq_true rfl) (Wp.mono (cm_isShelf _ s hs hns) (fun z_ τ_ hq_ => ?_))
  obtain ⟨hw3, hs_⟩ := hq_
  subst τ_
  refine w_if_eq (tgt := 23) dX7_on_6 (by decide) (by omega) (fun c_6 => ?_) (fun c_6 => ?_)
  · refine w_iconst dX7_on_23 ?_
    refine pf_X7_68 rfl (by omega) dX7_on_24 ?_
    refine w_aload_n dX7_on_27 rfl ?_
    refine gf_X7_68 rfl dX7_on_28 ?_
    first | rw [show put σ 7 0 0 7 0 = 0 by simp [put_eq]] | rw [show put σ 7 0 1 7 0 = 1 by simp [put_eq]]
    refine w_if_le (tgt := 36) dX7_on_31 (by decide) (by omega) (fun c_31 => ?_) (fun c_31 => ?_)
    · first
      | exact absurd c_31 (by decide)
      | (obtain ⟨ρ, hρ⟩ : ∃ ρ, ρ = put σ 7 0 0 := ⟨_, rfl⟩
         rw [← hρ]
         have hfr : frM σ ρ := by rw [hρ]; exact frM.raised σ 0
         have hIρ := hI.fr hfr
         have e57 := hfr.1 57 (by decide) (by omega)
         have e58 := hfr.1 58 (by decide) (by omega)
         have e59 := hfr.1 59 (by decide) (by omega)
         have e60 := hfr.1 60 (by decide) (by omega)
         have e61 := hfr.1 61 (by decide) (by omega)
         have e62 := hfr.1 62 (by decide) (by omega)
         have e63 := hfr.1 63 (by decide) (by omega)
         have e74 := hfr.1 74 (by decide) (by omega)
         have e76 := hfr.2 6 (by decide)
         have e71 := hfr.2 1 (by decide)
         have e721 := hfr.2 21 (by decide)
         have end_ := hfr.nd
         refine Wp.rg (fun hR2 => ?_)
         refine w_iload_n dX7_on_36 rfl ?_
         rcases (show w = 0 ∨ w = 1 ∨ w = 2 ∨ w = 3 ∨ w = 4 ∨ w = 5 ∨ w = 6 ∨ w = 7 by omega) with rfl | rfl | rfl | rfl | rfl | rfl | rfl | rfl
         · refine w_tswI (off := 43) (tgt := 80) dX7_on_37 (by omega) (by omega) (by omega) (by decide) (by decide) ?_
           refine w_aload_n dX7_on_80 rfl ?_
           refine gf_X7_7 rfl dX7_on_81 ?_
           refine w_iload_n dX7_on_84 rfl ?_
           refine w_iald rfl (by omega) dX7_on_85 ?_
           refine w_iret dX7_on_86 rfl ?_
           first
           | exact ⟨fun _ => ⟨Or.inl ⟨rfl, by rw [e57]⟩, fun k hk => by rw [hfr9 k hk, hρ]⟩, fun nok => absurd nok (by omega)⟩
           | exact ⟨fun _ => ⟨Or.inl ⟨rfl, by rw [e57]⟩, fun k hk => by rw [hρ]⟩, fun nok => absurd nok (by omega)⟩
         · refine w_tswI (off := 50) (tgt := 87) dX7_on_37 (by omega) (by omega) (by omega) (by decide) (by decide) ?_
           refine w_aload_n dX7_on_87 rfl ?_
           refine gf_X7_13 rfl dX7_on_88 ?_
           refine w_iload_n dX7_on_91 rfl ?_
           refine w_iald rfl (by omega) dX7_on_92 ?_
           refine w_iret dX7_on_93 rfl ?_
           first
           | exact ⟨fun _ => ⟨Or.inr (Or.inl ⟨rfl, by rw [e58]⟩), fun k hk => by rw [hfr9 k hk, hρ]⟩, fun nok => absurd nok (by omega)⟩
           | exact ⟨fun _ => ⟨Or.inr (Or.inl ⟨rfl, by rw [e58]⟩), fun k hk => by rw [hρ]⟩, fun nok => absurd nok (by omega)⟩
         · refine w_tswI (off := 57) (tgt := 94) dX7_on_37 (by omega) (by omega) (by omega) (by decide) (by decide) ?_
           refine w_aload_n dX7_on_94 rfl ?_
           refine w_iload_n dX7_on_95 rfl ?_
           refine cv_X7_97 rfl dX7_on_96 (Nat.le_of_ble_eq_true rfl) (Nat.le_of_ble_eq_true rfl) (Wp.mono (cm_loadOf ρ s (by omega) (by omega)) (fun z_ τ_ hq_ => ?_))
           obtain ⟨hz_, hs_⟩ := hq_
           rw [e62, e61, e76] at hz_
           subst z_
           subst τ_
           refine w_iret dX7_on_99 rfl ?_
           first
           | exact ⟨fun _ => ⟨Or.inr (Or.inr (Or.inl ⟨rfl, rfl⟩)), fun k hk => by rw [hfr9 k hk, hρ]⟩, fun nok => absurd nok (by omega)⟩
           | exact ⟨fun _ => ⟨Or.inr (Or.inr (Or.inl ⟨rfl, rfl⟩)), fun k hk => by rw [hρ]⟩, fun nok => absurd nok (by omega)⟩
         · refine w_tswI (off := 63) (tgt := 100) dX7_on_37 (by omega) (by omega) (by omega) (by decide) (by decide) ?_
           refine w_aload_n dX7_on_100 rfl ?_
           refine gf_X7_7 rfl dX7_on_101 ?_
           refine w_iload_n dX7_on_104 rfl ?_
           refine w_iald rfl (by omega) dX7_on_105 ?_
           refine w_aload_n dX7_on_106 rfl ?_
           refine w_iload_n dX7_on_107 rfl ?_
           refine cv_X7_97 rfl dX7_on_108 (Nat.le_of_ble_eq_true rfl) (Nat.le_of_ble_eq_true rfl) (Wp.mono (cm_loadOf ρ s (by omega) (by omega)) (fun z_ τ_ hq_ => ?_))
           obtain ⟨hz_, hs_⟩ := hq_
           rw [e62, e61, e76] at hz_
           subst z_
           subst τ_
           refine w_isub dX7_on_111 ?_
           refine w_iret dX7_on_112 rfl ?_
           first
           | exact ⟨fun _ => ⟨Or.inr (Or.inr (Or.inr (Or.inl ⟨rfl, by rw [e57]⟩))), fun k hk => by rw [hfr9 k hk, hρ]⟩, fun nok => absurd nok (by omega)⟩
           | exact ⟨fun _ => ⟨Or.inr (Or.inr (Or.inr (Or.inl ⟨rfl, by rw [e57]⟩))), fun k hk => by rw [hρ]⟩, fun nok => absurd nok (by omega)⟩
         · refine w_tswI (off := 76) (tgt := 113) dX7_on_37 (by omega) (by omega) (by omega) (by decide) (by decide) ?_
           refine w_aload_n dX7_on_113 rfl ?_
           refine w_iload_n dX7_on_114 rfl ?_
           refine cv_X7_94 rfl dX7_on_115 (Nat.le_of_ble_eq_true rfl) (Nat.le_of_ble_eq_true rfl) (Wp.mono (cm_rateOf ρ s hIρ (by omega)) (fun z_ τ_ hq_ => ?_))
           obtain ⟨hz_, hfr9⟩ := hq_
           rw [e62, end_, e76] at hz_
           subst z_
           refine w_iret dX7_on_118 rfl ?_
           first
           | exact ⟨fun _ => ⟨Or.inr (Or.inr (Or.inr (Or.inr (Or.inl ⟨rfl, rfl⟩)))), fun k hk => by rw [hfr9 k hk, hρ]⟩, fun nok => absurd nok (by omega)⟩
           | exact ⟨fun _ => ⟨Or.inr (Or.inr (Or.inr (Or.inr (Or.inl ⟨rfl, rfl⟩)))), fun k hk => by rw [hρ]⟩, fun nok => absurd nok (by omega)⟩
         · refine w_tswI (off := 82) (tgt := 119) dX7_on_37 (by omega) (by omega) (by omega) (by decide) (by decide) ?_
           refine w_aload_n dX7_on_119 rfl ?_
           refine w_iload_n dX7_on_120 rfl ?_
           refine cv_X7_208 rfl dX7_on_121 (Nat.le_of_ble_eq_true rfl) (Nat.le_of_ble_eq_true rfl) (Wp.mono (cm_lastsOf ρ s hIρ (by omega)) (fun z_ τ_ hq_ => ?_))
           obtain ⟨hz_, hfr9⟩ := hq_
           rw [e57, e62, e61, end_, e76] at hz_
           subst z_
           refine w_iret dX7_on_124 rfl ?_
           first
           | exact ⟨fun _ => ⟨Or.inr (Or.inr (Or.inr (Or.inr (Or.inr (Or.inl ⟨rfl, rfl⟩))))), fun k hk => by rw [hfr9 k hk, hρ]⟩, fun nok => absurd nok (by omega)⟩
           | exact ⟨fun _ => ⟨Or.inr (Or.inr (Or.inr (Or.inr (Or.inr (Or.inl ⟨rfl, rfl⟩))))), fun k hk => by rw [hρ]⟩, fun nok => absurd nok (by omega)⟩
         · refine w_tswI (off := 88) (tgt := 125) dX7_on_37 (by omega) (by omega) (by omega) (by decide) (by decide) ?_
           refine w_aload_n dX7_on_125 rfl ?_
           refine w_iload_n dX7_on_126 rfl ?_
           refine cv_X7_211 rfl dX7_on_127 (Nat.le_of_ble_eq_true rfl) (Nat.le_of_ble_eq_true rfl) (Wp.mono (cm_firstOn ρ s (by omega) (by omega)) (fun z_ τ_ hq_ => ?_))
           obtain ⟨hf_, hs_⟩ := hq_
           rw [e62, e76] at hf_
           subst τ_
           refine w_iret dX7_on_130 rfl ?_
           first
           | exact ⟨fun _ => ⟨Or.inr (Or.inr (Or.inr (Or.inr (Or.inr (Or.inr (Or.inl ⟨rfl, hf_⟩)))))), fun k hk => by rw [hfr9 k hk, hρ]⟩, fun nok => absurd nok (by omega)⟩
           | exact ⟨fun _ => ⟨Or.inr (Or.inr (Or.inr (Or.inr (Or.inr (Or.inr (Or.inl ⟨rfl, hf_⟩)))))), fun k hk => by rw [hρ]⟩, fun nok => absurd nok (by omega)⟩
         · refine w_tswO (tgt := 131) dX7_on_37 (by omega) (by omega) (by decide) ?_
           refine w_aload_n dX7_on_131 rfl ?_
           refine w_iload_n dX7_on_132 rfl ?_
           refine cv_X7_214 rfl dX7_on_133 (Nat.le_of_ble_eq_true rfl) (Nat.le_of_ble_eq_true rfl) (Wp.mono (cm_manyOn ρ s (by omega) (by omega)) (fun z_ τ_ hq_ => ?_))
           obtain ⟨hz_, hs_⟩ := hq_
           rw [e62, e76] at hz_
           subst z_
           subst τ_
           refine w_iret dX7_on_136 rfl ?_
           first
           | exact ⟨fun _ => ⟨Or.inr (Or.inr (Or.inr (Or.inr (Or.inr (Or.inr (Or.inr (⟨rfl, rfl⟩))))))), fun k hk => by rw [hfr9 k hk, hρ]⟩, fun nok => absurd nok (by omega)⟩
           | exact ⟨fun _ => ⟨Or.inr (Or.inr (Or.inr (Or.inr (Or.inr (Or.inr (Or.inr (⟨rfl, rfl⟩))))))), fun k hk => by rw [hρ]⟩, fun nok => absurd nok (by omega)⟩)
    · refine w_iconst dX7_on_34 ?_
      refine w_iret dX7_on_35 rfl ?_
      first
      | exact absurd c_31 (by decide)
      | exact ⟨fun ok => absurd ok (by omega), fun _ => ⟨rfl, rfl⟩⟩
  · refine w_iload_n dX7_on_9 rfl ?_
    refine w_iconst dX7_on_10 ?_
    refine w_bipush dX7_on_11 (by decide) ?_
    refine cv_X7_74 rfl dX7_on_13 (Nat.le_of_ble_eq_true rfl) (Nat.le_of_ble_eq_true rfl) (Wp.mono (cm_isIn _ w 0 7 hw (by omega) (by omega)) (fun z_ τ_ hq_ => ?_))
    obtain ⟨hw13, hs_⟩ := hq_
    subst τ_
    refine w_if_eq (tgt := 23) dX7_on_16 (by decide) (by omega) (fun c_16 => ?_) (fun c_16 => ?_)
    · refine w_iconst dX7_on_23 ?_
      refine pf_X7_68 rfl (by omega) dX7_on_24 ?_
      refine w_aload_n dX7_on_27 rfl ?_
      refine gf_X7_68 rfl dX7_on_28 ?_
      first | rw [show put σ 7 0 0 7 0 = 0 by simp [put_eq]] | rw [show put σ 7 0 1 7 0 = 1 by simp [put_eq]]
      refine w_if_le (tgt := 36) dX7_on_31 (by decide) (by omega) (fun c_31 => ?_) (fun c_31 => ?_)
      · first
        | exact absurd c_31 (by decide)
        | (obtain ⟨ρ, hρ⟩ : ∃ ρ, ρ = put σ 7 0 0 := ⟨_, rfl⟩
           rw [← hρ]
           have hfr : frM σ ρ := by rw [hρ]; exact frM.raised σ 0
           have hIρ := hI.fr hfr
           have e57 := hfr.1 57 (by decide) (by omega)
           have e58 := hfr.1 58 (by decide) (by omega)
           have e59 := hfr.1 59 (by decide) (by omega)
           have e60 := hfr.1 60 (by decide) (by omega)
           have e61 := hfr.1 61 (by decide) (by omega)
           have e62 := hfr.1 62 (by decide) (by omega)
           have e63 := hfr.1 63 (by decide) (by omega)
           have e74 := hfr.1 74 (by decide) (by omega)
           have e76 := hfr.2 6 (by decide)
           have e71 := hfr.2 1 (by decide)
           have e721 := hfr.2 21 (by decide)
           have end_ := hfr.nd
           refine Wp.rg (fun hR2 => ?_)
           refine w_iload_n dX7_on_36 rfl ?_
           rcases (show w = 0 ∨ w = 1 ∨ w = 2 ∨ w = 3 ∨ w = 4 ∨ w = 5 ∨ w = 6 ∨ w = 7 by omega) with rfl | rfl | rfl | rfl | rfl | rfl | rfl | rfl
           · refine w_tswI (off := 43) (tgt := 80) dX7_on_37 (by omega) (by omega) (by omega) (by decide) (by decide) ?_
             refine w_aload_n dX7_on_80 rfl ?_
             refine gf_X7_7 rfl dX7_on_81 ?_
             refine w_iload_n dX7_on_84 rfl ?_
             refine w_iald rfl (by omega) dX7_on_85 ?_
             refine w_iret dX7_on_86 rfl ?_
             first
             | exact ⟨fun _ => ⟨Or.inl ⟨rfl, by rw [e57]⟩, fun k hk => by rw [hfr9 k hk, hρ]⟩, fun nok => absurd nok (by omega)⟩
             | exact ⟨fun _ => ⟨Or.inl ⟨rfl, by rw [e57]⟩, fun k hk => by rw [hρ]⟩, fun nok => absurd nok (by omega)⟩
           · refine w_tswI (off := 50) (tgt := 87) dX7_on_37 (by omega) (by omega) (by omega) (by decide) (by decide) ?_
             refine w_aload_n dX7_on_87 rfl ?_
             refine gf_X7_13 rfl dX7_on_88 ?_
             refine w_iload_n dX7_on_91 rfl ?_
             refine w_iald rfl (by omega) dX7_on_92 ?_
             refine w_iret dX7_on_93 rfl ?_
             first
             | exact ⟨fun _ => ⟨Or.inr (Or.inl ⟨rfl, by rw [e58]⟩), fun k hk => by rw [hfr9 k hk, hρ]⟩, fun nok => absurd nok (by omega)⟩
             | exact ⟨fun _ => ⟨Or.inr (Or.inl ⟨rfl, by rw [e58]⟩), fun k hk => by rw [hρ]⟩, fun nok => absurd nok (by omega)⟩
           · refine w_tswI (off := 57) (tgt := 94) dX7_on_37 (by omega) (by omega) (by omega) (by decide) (by decide) ?_
             refine w_aload_n dX7_on_94 rfl ?_
             refine w_iload_n dX7_on_95 rfl ?_
             refine cv_X7_97 rfl dX7_on_96 (Nat.le_of_ble_eq_true rfl) (Nat.le_of_ble_eq_true rfl) (Wp.mono (cm_loadOf ρ s (by omega) (by omega)) (fun z_ τ_ hq_ => ?_))
             obtain ⟨hz_, hs_⟩ := hq_
             rw [e62, e61, e76] at hz_
             subst z_
             subst τ_
             refine w_iret dX7_on_99 rfl ?_
             first
             | exact ⟨fun _ => ⟨Or.inr (Or.inr (Or.inl ⟨rfl, rfl⟩)), fun k hk => by rw [hfr9 k hk, hρ]⟩, fun nok => absurd nok (by omega)⟩
             | exact ⟨fun _ => ⟨Or.inr (Or.inr (Or.inl ⟨rfl, rfl⟩)), fun k hk => by rw [hρ]⟩, fun nok => absurd nok (by omega)⟩
           · refine w_tswI (off := 63) (tgt := 100) dX7_on_37 (by omega) (by omega) (by omega) (by decide) (by decide) ?_
             refine w_aload_n dX7_on_100 rfl ?_
             refine gf_X7_7 rfl dX7_on_101 ?_
             refine w_iload_n dX7_on_104 rfl ?_
             refine w_iald rfl (by omega) dX7_on_105 ?_
             refine w_aload_n dX7_on_106 rfl ?_
             refine w_iload_n dX7_on_107 rfl ?_
             refine cv_X7_97 rfl dX7_on_108 (Nat.le_of_ble_eq_true rfl) (Nat.le_of_ble_eq_true rfl) (Wp.mono (cm_loadOf ρ s (by omega) (by omega)) (fun z_ τ_ hq_ => ?_))
             obtain ⟨hz_, hs_⟩ := hq_
             rw [e62, e61, e76] at hz_
             subst z_
             subst τ_
             refine w_isub dX7_on_111 ?_
             refine w_iret dX7_on_112 rfl ?_
             first
             | exact ⟨fun _ => ⟨Or.inr (Or.inr (Or.inr (Or.inl ⟨rfl, by rw [e57]⟩))), fun k hk => by rw [hfr9 k hk, hρ]⟩, fun nok => absurd nok (by omega)⟩
             | exact ⟨fun _ => ⟨Or.inr (Or.inr (Or.inr (Or.inl ⟨rfl, by rw [e57]⟩))), fun k hk => by rw [hρ]⟩, fun nok => absurd nok (by omega)⟩
           · refine w_tswI (off := 76) (tgt := 113) dX7_on_37 (by omega) (by omega) (by omega) (by decide) (by decide) ?_
             refine w_aload_n dX7_on_113 rfl ?_
             refine w_iload_n dX7_on_114 rfl ?_
             refine cv_X7_94 rfl dX7_on_115 (Nat.le_of_ble_eq_true rfl) (Nat.le_of_ble_eq_true rfl) (Wp.mono (cm_rateOf ρ s hIρ (by omega)) (fun z_ τ_ hq_ => ?_))
             obtain ⟨hz_, hfr9⟩ := hq_
             rw [e62, end_, e76] at hz_
             subst z_
             refine w_iret dX7_on_118 rfl ?_
             first
             | exact ⟨fun _ => ⟨Or.inr (Or.inr (Or.inr (Or.inr (Or.inl ⟨rfl, rfl⟩)))), fun k hk => by rw [hfr9 k hk, hρ]⟩, fun nok => absurd nok (by omega)⟩
             | exact ⟨fun _ => ⟨Or.inr (Or.inr (Or.inr (Or.inr (Or.inl ⟨rfl, rfl⟩)))), fun k hk => by rw [hρ]⟩, fun nok => absurd nok (by omega)⟩
           · refine w_tswI (off := 82) (tgt := 119) dX7_on_37 (by omega) (by omega) (by omega) (by decide) (by decide) ?_
             refine w_aload_n dX7_on_119 rfl ?_
             refine w_iload_n dX7_on_120 rfl ?_
             refine cv_X7_208 rfl dX7_on_121 (Nat.le_of_ble_eq_true rfl) (Nat.le_of_ble_eq_true rfl) (Wp.mono (cm_lastsOf ρ s hIρ (by omega)) (fun z_ τ_ hq_ => ?_))
             obtain ⟨hz_, hfr9⟩ := hq_
             rw [e57, e62, e61, end_, e76] at hz_
             subst z_
             refine w_iret dX7_on_124 rfl ?_
             first
             | exact ⟨fun _ => ⟨Or.inr (Or.inr (Or.inr (Or.inr (Or.inr (Or.inl ⟨rfl, rfl⟩))))), fun k hk => by rw [hfr9 k hk, hρ]⟩, fun nok => absurd nok (by omega)⟩
             | exact ⟨fun _ => ⟨Or.inr (Or.inr (Or.inr (Or.inr (Or.inr (Or.inl ⟨rfl, rfl⟩))))), fun k hk => by rw [hρ]⟩, fun nok => absurd nok (by omega)⟩
           · refine w_tswI (off := 88) (tgt := 125) dX7_on_37 (by omega) (by omega) (by omega) (by decide) (by decide) ?_
             refine w_aload_n dX7_on_125 rfl ?_
             refine w_iload_n dX7_on_126 rfl ?_
             refine cv_X7_211 rfl dX7_on_127 (Nat.le_of_ble_eq_true rfl) (Nat.le_of_ble_eq_true rfl) (Wp.mono (cm_firstOn ρ s (by omega) (by omega)) (fun z_ τ_ hq_ => ?_))
             obtain ⟨hf_, hs_⟩ := hq_
             rw [e62, e76] at hf_
             subst τ_
             refine w_iret dX7_on_130 rfl ?_
             first
             | exact ⟨fun _ => ⟨Or.inr (Or.inr (Or.inr (Or.inr (Or.inr (Or.inr (Or.inl ⟨rfl, hf_⟩)))))), fun k hk => by rw [hfr9 k hk, hρ]⟩, fun nok => absurd nok (by omega)⟩
             | exact ⟨fun _ => ⟨Or.inr (Or.inr (Or.inr (Or.inr (Or.inr (Or.inr (Or.inl ⟨rfl, hf_⟩)))))), fun k hk => by rw [hρ]⟩, fun nok => absurd nok (by omega)⟩
           · refine w_tswO (tgt := 131) dX7_on_37 (by omega) (by omega) (by decide) ?_
             refine w_aload_n dX7_on_131 rfl ?_
             refine w_iload_n dX7_on_132 rfl ?_
             refine cv_X7_214 rfl dX7_on_133 (Nat.le_of_ble_eq_true rfl) (Nat.le_of_ble_eq_true rfl) (Wp.mono (cm_manyOn ρ s (by omega) (by omega)) (fun z_ τ_ hq_ => ?_))
             obtain ⟨hz_, hs_⟩ := hq_
             rw [e62, e76] at hz_
             subst z_
             subst τ_
             refine w_iret dX7_on_136 rfl ?_
             first
             | exact ⟨fun _ => ⟨Or.inr (Or.inr (Or.inr (Or.inr (Or.inr (Or.inr (Or.inr (⟨rfl, rfl⟩))))))), fun k hk => by rw [hfr9 k hk, hρ]⟩, fun nok => absurd nok (by omega)⟩
             | exact ⟨fun _ => ⟨Or.inr (Or.inr (Or.inr (Or.inr (Or.inr (Or.inr (Or.inr (⟨rfl, rfl⟩))))))), fun k hk => by rw [hρ]⟩, fun nok => absurd nok (by omega)⟩)
      · refine w_iconst dX7_on_34 ?_
        refine w_iret dX7_on_35 rfl ?_
        first
        | exact absurd c_31 (by decide)
        | exact ⟨fun ok => absurd ok (by omega), fun _ => ⟨rfl, rfl⟩⟩
    · refine w_iconst dX7_on_19 ?_
      refine w_goto (tgt := 24) dX7_on_20 (by decide) ?_
      refine pf_X7_68 rfl (by omega) dX7_on_24 ?_
      refine w_aload_n dX7_on_27 rfl ?_
      refine gf_X7_68 rfl dX7_on_28 ?_
      first | rw [show put σ 7 0 0 7 0 = 0 by simp [put_eq]] | rw [show put σ 7 0 1 7 0 = 1 by simp [put_eq]]
      refine w_if_le (tgt := 36) dX7_on_31 (by decide) (by omega) (fun c_31 => ?_) (fun c_31 => ?_)
      · first
        | exact absurd c_31 (by decide)
        | (obtain ⟨ρ, hρ⟩ : ∃ ρ, ρ = put σ 7 0 0 := ⟨_, rfl⟩
           rw [← hρ]
           have hfr : frM σ ρ := by rw [hρ]; exact frM.raised σ 0
           have hIρ := hI.fr hfr
           have e57 := hfr.1 57 (by decide) (by omega)
           have e58 := hfr.1 58 (by decide) (by omega)
           have e59 := hfr.1 59 (by decide) (by omega)
           have e60 := hfr.1 60 (by decide) (by omega)
           have e61 := hfr.1 61 (by decide) (by omega)
           have e62 := hfr.1 62 (by decide) (by omega)
           have e63 := hfr.1 63 (by decide) (by omega)
           have e74 := hfr.1 74 (by decide) (by omega)
           have e76 := hfr.2 6 (by decide)
           have e71 := hfr.2 1 (by decide)
           have e721 := hfr.2 21 (by decide)
           have end_ := hfr.nd
           refine Wp.rg (fun hR2 => ?_)
           refine w_iload_n dX7_on_36 rfl ?_
           rcases (show w = 0 ∨ w = 1 ∨ w = 2 ∨ w = 3 ∨ w = 4 ∨ w = 5 ∨ w = 6 ∨ w = 7 by omega) with rfl | rfl | rfl | rfl | rfl | rfl | rfl | rfl
           · refine w_tswI (off := 43) (tgt := 80) dX7_on_37 (by omega) (by omega) (by omega) (by decide) (by decide) ?_
             refine w_aload_n dX7_on_80 rfl ?_
             refine gf_X7_7 rfl dX7_on_81 ?_
             refine w_iload_n dX7_on_84 rfl ?_
             refine w_iald rfl (by omega) dX7_on_85 ?_
             refine w_iret dX7_on_86 rfl ?_
             first
             | exact ⟨fun _ => ⟨Or.inl ⟨rfl, by rw [e57]⟩, fun k hk => by rw [hfr9 k hk, hρ]⟩, fun nok => absurd nok (by omega)⟩
             | exact ⟨fun _ => ⟨Or.inl ⟨rfl, by rw [e57]⟩, fun k hk => by rw [hρ]⟩, fun nok => absurd nok (by omega)⟩
           · refine w_tswI (off := 50) (tgt := 87) dX7_on_37 (by omega) (by omega) (by omega) (by decide) (by decide) ?_
             refine w_aload_n dX7_on_87 rfl ?_
             refine gf_X7_13 rfl dX7_on_88 ?_
             refine w_iload_n dX7_on_91 rfl ?_
             refine w_iald rfl (by omega) dX7_on_92 ?_
             refine w_iret dX7_on_93 rfl ?_
             first
             | exact ⟨fun _ => ⟨Or.inr (Or.inl ⟨rfl, by rw [e58]⟩), fun k hk => by rw [hfr9 k hk, hρ]⟩, fun nok => absurd nok (by omega)⟩
             | exact ⟨fun _ => ⟨Or.inr (Or.inl ⟨rfl, by rw [e58]⟩), fun k hk => by rw [hρ]⟩, fun nok => absurd nok (by omega)⟩
           · refine w_tswI (off := 57) (tgt := 94) dX7_on_37 (by omega) (by omega) (by omega) (by decide) (by decide) ?_
             refine w_aload_n dX7_on_94 rfl ?_
             refine w_iload_n dX7_on_95 rfl ?_
             refine cv_X7_97 rfl dX7_on_96 (Nat.le_of_ble_eq_true rfl) (Nat.le_of_ble_eq_true rfl) (Wp.mono (cm_loadOf ρ s (by omega) (by omega)) (fun z_ τ_ hq_ => ?_))
             obtain ⟨hz_, hs_⟩ := hq_
             rw [e62, e61, e76] at hz_
             subst z_
             subst τ_
             refine w_iret dX7_on_99 rfl ?_
             first
             | exact ⟨fun _ => ⟨Or.inr (Or.inr (Or.inl ⟨rfl, rfl⟩)), fun k hk => by rw [hfr9 k hk, hρ]⟩, fun nok => absurd nok (by omega)⟩
             | exact ⟨fun _ => ⟨Or.inr (Or.inr (Or.inl ⟨rfl, rfl⟩)), fun k hk => by rw [hρ]⟩, fun nok => absurd nok (by omega)⟩
           · refine w_tswI (off := 63) (tgt := 100) dX7_on_37 (by omega) (by omega) (by omega) (by decide) (by decide) ?_
             refine w_aload_n dX7_on_100 rfl ?_
             refine gf_X7_7 rfl dX7_on_101 ?_
             refine w_iload_n dX7_on_104 rfl ?_
             refine w_iald rfl (by omega) dX7_on_105 ?_
             refine w_aload_n dX7_on_106 rfl ?_
             refine w_iload_n dX7_on_107 rfl ?_
             refine cv_X7_97 rfl dX7_on_108 (Nat.le_of_ble_eq_true rfl) (Nat.le_of_ble_eq_true rfl) (Wp.mono (cm_loadOf ρ s (by omega) (by omega)) (fun z_ τ_ hq_ => ?_))
             obtain ⟨hz_, hs_⟩ := hq_
             rw [e62, e61, e76] at hz_
             subst z_
             subst τ_
             refine w_isub dX7_on_111 ?_
             refine w_iret dX7_on_112 rfl ?_
             first
             | exact ⟨fun _ => ⟨Or.inr (Or.inr (Or.inr (Or.inl ⟨rfl, by rw [e57]⟩))), fun k hk => by rw [hfr9 k hk, hρ]⟩, fun nok => absurd nok (by omega)⟩
             | exact ⟨fun _ => ⟨Or.inr (Or.inr (Or.inr (Or.inl ⟨rfl, by rw [e57]⟩))), fun k hk => by rw [hρ]⟩, fun nok => absurd nok (by omega)⟩
           · refine w_tswI (off := 76) (tgt := 113) dX7_on_37 (by omega) (by omega) (by omega) (by decide) (by decide) ?_
             refine w_aload_n dX7_on_113 rfl ?_
             refine w_iload_n dX7_on_114 rfl ?_
             refine cv_X7_94 rfl dX7_on_115 (Nat.le_of_ble_eq_true rfl) (Nat.le_of_ble_eq_true rfl) (Wp.mono (cm_rateOf ρ s hIρ (by omega)) (fun z_ τ_ hq_ => ?_))
             obtain ⟨hz_, hfr9⟩ := hq_
             rw [e62, end_, e76] at hz_
             subst z_
             refine w_iret dX7_on_118 rfl ?_
             first
             | exact ⟨fun _ => ⟨Or.inr (Or.inr (Or.inr (Or.inr (Or.inl ⟨rfl, rfl⟩)))), fun k hk => by rw [hfr9 k hk, hρ]⟩, fun nok => absurd nok (by omega)⟩
             | exact ⟨fun _ => ⟨Or.inr (Or.inr (Or.inr (Or.inr (Or.inl ⟨rfl, rfl⟩)))), fun k hk => by rw [hρ]⟩, fun nok => absurd nok (by omega)⟩
           · refine w_tswI (off := 82) (tgt := 119) dX7_on_37 (by omega) (by omega) (by omega) (by decide) (by decide) ?_
             refine w_aload_n dX7_on_119 rfl ?_
             refine w_iload_n dX7_on_120 rfl ?_
             refine cv_X7_208 rfl dX7_on_121 (Nat.le_of_ble_eq_true rfl) (Nat.le_of_ble_eq_true rfl) (Wp.mono (cm_lastsOf ρ s hIρ (by omega)) (fun z_ τ_ hq_ => ?_))
             obtain ⟨hz_, hfr9⟩ := hq_
             rw [e57, e62, e61, end_, e76] at hz_
             subst z_
             refine w_iret dX7_on_124 rfl ?_
             first
             | exact ⟨fun _ => ⟨Or.inr (Or.inr (Or.inr (Or.inr (Or.inr (Or.inl ⟨rfl, rfl⟩))))), fun k hk => by rw [hfr9 k hk, hρ]⟩, fun nok => absurd nok (by omega)⟩
             | exact ⟨fun _ => ⟨Or.inr (Or.inr (Or.inr (Or.inr (Or.inr (Or.inl ⟨rfl, rfl⟩))))), fun k hk => by rw [hρ]⟩, fun nok => absurd nok (by omega)⟩
           · refine w_tswI (off := 88) (tgt := 125) dX7_on_37 (by omega) (by omega) (by omega) (by decide) (by decide) ?_
             refine w_aload_n dX7_on_125 rfl ?_
             refine w_iload_n dX7_on_126 rfl ?_
             refine cv_X7_211 rfl dX7_on_127 (Nat.le_of_ble_eq_true rfl) (Nat.le_of_ble_eq_true rfl) (Wp.mono (cm_firstOn ρ s (by omega) (by omega)) (fun z_ τ_ hq_ => ?_))
             obtain ⟨hf_, hs_⟩ := hq_
             rw [e62, e76] at hf_
             subst τ_
             refine w_iret dX7_on_130 rfl ?_
             first
             | exact ⟨fun _ => ⟨Or.inr (Or.inr (Or.inr (Or.inr (Or.inr (Or.inr (Or.inl ⟨rfl, hf_⟩)))))), fun k hk => by rw [hfr9 k hk, hρ]⟩, fun nok => absurd nok (by omega)⟩
             | exact ⟨fun _ => ⟨Or.inr (Or.inr (Or.inr (Or.inr (Or.inr (Or.inr (Or.inl ⟨rfl, hf_⟩)))))), fun k hk => by rw [hρ]⟩, fun nok => absurd nok (by omega)⟩
           · refine w_tswO (tgt := 131) dX7_on_37 (by omega) (by omega) (by decide) ?_
             refine w_aload_n dX7_on_131 rfl ?_
             refine w_iload_n dX7_on_132 rfl ?_
             refine cv_X7_214 rfl dX7_on_133 (Nat.le_of_ble_eq_true rfl) (Nat.le_of_ble_eq_true rfl) (Wp.mono (cm_manyOn ρ s (by omega) (by omega)) (fun z_ τ_ hq_ => ?_))
             obtain ⟨hz_, hs_⟩ := hq_
             rw [e62, e76] at hz_
             subst z_
             subst τ_
             refine w_iret dX7_on_136 rfl ?_
             first
             | exact ⟨fun _ => ⟨Or.inr (Or.inr (Or.inr (Or.inr (Or.inr (Or.inr (Or.inr (⟨rfl, rfl⟩))))))), fun k hk => by rw [hfr9 k hk, hρ]⟩, fun nok => absurd nok (by omega)⟩
             | exact ⟨fun _ => ⟨Or.inr (Or.inr (Or.inr (Or.inr (Or.inr (Or.inr (Or.inr (⟨rfl, rfl⟩))))))), fun k hk => by rw [hρ]⟩, fun nok => absurd nok (by omega)⟩)
      · refine w_iconst dX7_on_34 ?_
        refine w_iret dX7_on_35 rfl ?_
        first
        | exact absurd c_31 (by decide)
        | exact ⟨fun ok => absurd ok (by omega), fun _ => ⟨rfl, rfl⟩⟩

set_option maxRecDepth 100000 in
set_option maxHeartbeats 4000000 in
theorem cm_in (σ : St) (g w : Int) (hI : InvW σ) (hs : InR g) (hw : InR w) : Wp mX7_in 2 (fun z τ => ((0 ≤ g ∧ g < σ 7 4 ∧ 0 ≤ w ∧ w ≤ 4) → ((w = 0 ∧ z = σ 59 g) ∨ (w = 1 ∧ z = cntW (σ 60) g (σ 7 6)) ∨ (w = 2 ∧ z = sumW (σ 60) (σ 61) g (σ 7 6)) ∨ (w = 3 ∧ IsFst (σ 60) g (σ 7 6) z) ∨ (w = 4 ∧ z = (shlF (σ 60) (σ 62) g (σ 7 6)).1)) ∧ ∀ k, (k < 65 ∨ 69 < k) → τ k = put σ 7 0 0 k) ∧ (¬ (0 ≤ g ∧ g < σ 7 4 ∧ 0 ≤ w ∧ w ≤ 4) → z = 0 ∧ τ = put σ 7 0 1)) 0 [some (.inr 7), some (.inl g), some (.inl w)] [] σ := by
  refine Wp.rg (fun hR => ?_)
  have hns := hI.ns
  have hng := hI.ng
  have hnb := hI.nb
  refine w_aload_n dX7_in_0 rfl ?_
  refine w_aload_n dX7_in_1 rfl ?_
  refine w_iload_n dX7_in_2 rfl ?_
  refine cv_X7_135 rfl dX7_in_3 (Nat.le_of_ble_eq_true rfl) (Nat.le_of_ble_eq_true rfl) (Wp.mono (cm_isGroup _ g hs hng) (fun z_ τ_ hq_ => ?_))
  obtain ⟨hw3, hs_⟩ := hq_
  subst τ_
  refine w_if_eq (tgt := 22) dX7_in_6 (by decide) (by omega) (fun c_6 => ?_) (fun c_6 => ?_)
  · refine w_iconst dX7_in_22 ?_
    refine pf_X7_68 rfl (by omega) dX7_in_23 ?_
    refine w_aload_n dX7_in_26 rfl ?_
    refine gf_X7_68 rfl dX7_in_27 ?_
    first | rw [show put σ 7 0 0 7 0 = 0 by simp [put_eq]] | rw [show put σ 7 0 1 7 0 = 1 by simp [put_eq]]
    refine w_if_le (tgt := 35) dX7_in_30 (by decide) (by omega) (fun c_30 => ?_) (fun c_30 => ?_)
    · first
      | exact absurd c_30 (by decide)
      | (obtain ⟨ρ, hρ⟩ : ∃ ρ, ρ = put σ 7 0 0 := ⟨_, rfl⟩
         rw [← hρ]
         have hfr : frM σ ρ := by rw [hρ]; exact frM.raised σ 0
         have hIρ := hI.fr hfr
         have e57 := hfr.1 57 (by decide) (by omega)
         have e58 := hfr.1 58 (by decide) (by omega)
         have e59 := hfr.1 59 (by decide) (by omega)
         have e60 := hfr.1 60 (by decide) (by omega)
         have e61 := hfr.1 61 (by decide) (by omega)
         have e62 := hfr.1 62 (by decide) (by omega)
         have e63 := hfr.1 63 (by decide) (by omega)
         have e74 := hfr.1 74 (by decide) (by omega)
         have e76 := hfr.2 6 (by decide)
         have e71 := hfr.2 1 (by decide)
         have e721 := hfr.2 21 (by decide)
         have end_ := hfr.nd
         refine Wp.rg (fun hR2 => ?_)
         refine w_iload_n dX7_in_35 rfl ?_
         rcases (show w = 0 ∨ w = 1 ∨ w = 2 ∨ w = 3 ∨ w = 4 by omega) with rfl | rfl | rfl | rfl | rfl
         · refine w_tswI (off := 32) (tgt := 68) dX7_in_36 (by omega) (by omega) (by omega) (by decide) (by decide) ?_
           refine w_aload_n dX7_in_68 rfl ?_
           refine gf_X7_16 rfl dX7_in_69 ?_
           refine w_iload_n dX7_in_72 rfl ?_
           refine w_iald rfl (by omega) dX7_in_73 ?_
           refine w_iret dX7_in_74 rfl ?_
           first
           | exact ⟨fun _ => ⟨Or.inl ⟨rfl, by rw [e59]⟩, fun k hk => by rw [hfr9 k hk, hρ]⟩, fun nok => absurd nok (by omega)⟩
           | exact ⟨fun _ => ⟨Or.inl ⟨rfl, by rw [e59]⟩, fun k hk => by rw [hρ]⟩, fun nok => absurd nok (by omega)⟩
         · refine w_tswI (off := 39) (tgt := 75) dX7_in_36 (by omega) (by omega) (by omega) (by decide) (by decide) ?_
           refine w_aload_n dX7_in_75 rfl ?_
           refine w_iload_n dX7_in_76 rfl ?_
           refine cv_X7_217 rfl dX7_in_77 (Nat.le_of_ble_eq_true rfl) (Nat.le_of_ble_eq_true rfl) (Wp.mono (cm_booksOf ρ g (by omega) (by omega)) (fun z_ τ_ hq_ => ?_))
           obtain ⟨hz_, hs_⟩ := hq_
           rw [e60, e76] at hz_
           subst z_
           subst τ_
           refine w_iret dX7_in_80 rfl ?_
           first
           | exact ⟨fun _ => ⟨Or.inr (Or.inl ⟨rfl, rfl⟩), fun k hk => by rw [hfr9 k hk, hρ]⟩, fun nok => absurd nok (by omega)⟩
           | exact ⟨fun _ => ⟨Or.inr (Or.inl ⟨rfl, rfl⟩), fun k hk => by rw [hρ]⟩, fun nok => absurd nok (by omega)⟩
         · refine w_tswI (off := 45) (tgt := 81) dX7_in_36 (by omega) (by omega) (by omega) (by decide) (by decide) ?_
           refine w_aload_n dX7_in_81 rfl ?_
           refine w_iload_n dX7_in_82 rfl ?_
           refine cv_X7_87 rfl dX7_in_83 (Nat.le_of_ble_eq_true rfl) (Nat.le_of_ble_eq_true rfl) (Wp.mono (cm_widthOf ρ g (by omega) (by omega)) (fun z_ τ_ hq_ => ?_))
           obtain ⟨hz_, hs_⟩ := hq_
           rw [e60, e61, e76] at hz_
           subst z_
           subst τ_
           refine w_iret dX7_in_86 rfl ?_
           first
           | exact ⟨fun _ => ⟨Or.inr (Or.inr (Or.inl ⟨rfl, rfl⟩)), fun k hk => by rw [hfr9 k hk, hρ]⟩, fun nok => absurd nok (by omega)⟩
           | exact ⟨fun _ => ⟨Or.inr (Or.inr (Or.inl ⟨rfl, rfl⟩)), fun k hk => by rw [hρ]⟩, fun nok => absurd nok (by omega)⟩
         · refine w_tswI (off := 51) (tgt := 87) dX7_in_36 (by omega) (by omega) (by omega) (by decide) (by decide) ?_
           refine w_aload_n dX7_in_87 rfl ?_
           refine w_iload_n dX7_in_88 rfl ?_
           refine cv_X7_220 rfl dX7_in_89 (Nat.le_of_ble_eq_true rfl) (Nat.le_of_ble_eq_true rfl) (Wp.mono (cm_firstOf ρ g (by omega) (by omega)) (fun z_ τ_ hq_ => ?_))
           obtain ⟨hf_, hs_⟩ := hq_
           rw [e60, e76] at hf_
           subst τ_
           refine w_iret dX7_in_92 rfl ?_
           first
           | exact ⟨fun _ => ⟨Or.inr (Or.inr (Or.inr (Or.inl ⟨rfl, hf_⟩))), fun k hk => by rw [hfr9 k hk, hρ]⟩, fun nok => absurd nok (by omega)⟩
           | exact ⟨fun _ => ⟨Or.inr (Or.inr (Or.inr (Or.inl ⟨rfl, hf_⟩))), fun k hk => by rw [hρ]⟩, fun nok => absurd nok (by omega)⟩
         · refine w_tswO (tgt := 93) dX7_in_36 (by omega) (by omega) (by decide) ?_
           refine w_aload_n dX7_in_93 rfl ?_
           refine w_iload_n dX7_in_94 rfl ?_
           refine cv_X7_223 rfl dX7_in_95 (Nat.le_of_ble_eq_true rfl) (Nat.le_of_ble_eq_true rfl) (Wp.mono (cm_shelvesOf ρ g (by omega) (by omega)) (fun z_ τ_ hq_ => ?_))
           obtain ⟨hz_, hs_⟩ := hq_
           rw [e60, e62, e76] at hz_
           subst z_
           subst τ_
           refine w_iret dX7_in_98 rfl ?_
           first
           | exact ⟨fun _ => ⟨Or.inr (Or.inr (Or.inr (Or.inr (⟨rfl, rfl⟩)))), fun k hk => by rw [hfr9 k hk, hρ]⟩, fun nok => absurd nok (by omega)⟩
           | exact ⟨fun _ => ⟨Or.inr (Or.inr (Or.inr (Or.inr (⟨rfl, rfl⟩)))), fun k hk => by rw [hρ]⟩, fun nok => absurd nok (by omega)⟩)
    · refine w_iconst dX7_in_33 ?_
      refine w_iret dX7_in_34 rfl ?_
      first
      | exact absurd c_30 (by decide)
      | exact ⟨fun ok => absurd ok (by omega), fun _ => ⟨rfl, rfl⟩⟩
  · refine w_iload_n dX7_in_9 rfl ?_
    refine w_iconst dX7_in_10 ?_
    refine w_iconst dX7_in_11 ?_
    refine cv_X7_74 rfl dX7_in_12 (Nat.le_of_ble_eq_true rfl) (Nat.le_of_ble_eq_true rfl) (Wp.mono (cm_isIn _ w 0 4 hw (by omega) (by omega)) (fun z_ τ_ hq_ => ?_))
    obtain ⟨hw12, hs_⟩ := hq_
    subst τ_
    refine w_if_eq (tgt := 22) dX7_in_15 (by decide) (by omega) (fun c_15 => ?_) (fun c_15 => ?_)
    · refine w_iconst dX7_in_22 ?_
      refine pf_X7_68 rfl (by omega) dX7_in_23 ?_
      refine w_aload_n dX7_in_26 rfl ?_
      refine gf_X7_68 rfl dX7_in_27 ?_
      first | rw [show put σ 7 0 0 7 0 = 0 by simp [put_eq]] | rw [show put σ 7 0 1 7 0 = 1 by simp [put_eq]]
      refine w_if_le (tgt := 35) dX7_in_30 (by decide) (by omega) (fun c_30 => ?_) (fun c_30 => ?_)
      · first
        | exact absurd c_30 (by decide)
        | (obtain ⟨ρ, hρ⟩ : ∃ ρ, ρ = put σ 7 0 0 := ⟨_, rfl⟩
           rw [← hρ]
           have hfr : frM σ ρ := by rw [hρ]; exact frM.raised σ 0
           have hIρ := hI.fr hfr
           have e57 := hfr.1 57 (by decide) (by omega)
           have e58 := hfr.1 58 (by decide) (by omega)
           have e59 := hfr.1 59 (by decide) (by omega)
           have e60 := hfr.1 60 (by decide) (by omega)
           have e61 := hfr.1 61 (by decide) (by omega)
           have e62 := hfr.1 62 (by decide) (by omega)
           have e63 := hfr.1 63 (by decide) (by omega)
           have e74 := hfr.1 74 (by decide) (by omega)
           have e76 := hfr.2 6 (by decide)
           have e71 := hfr.2 1 (by decide)
           have e721 := hfr.2 21 (by decide)
           have end_ := hfr.nd
           refine Wp.rg (fun hR2 => ?_)
           refine w_iload_n dX7_in_35 rfl ?_
           rcases (show w = 0 ∨ w = 1 ∨ w = 2 ∨ w = 3 ∨ w = 4 by omega) with rfl | rfl | rfl | rfl | rfl
           · refine w_tswI (off := 32) (tgt := 68) dX7_in_36 (by omega) (by omega) (by omega) (by decide) (by decide) ?_
             refine w_aload_n dX7_in_68 rfl ?_
             refine gf_X7_16 rfl dX7_in_69 ?_
             refine w_iload_n dX7_in_72 rfl ?_
             refine w_iald rfl (by omega) dX7_in_73 ?_
             refine w_iret dX7_in_74 rfl ?_
             first
             | exact ⟨fun _ => ⟨Or.inl ⟨rfl, by rw [e59]⟩, fun k hk => by rw [hfr9 k hk, hρ]⟩, fun nok => absurd nok (by omega)⟩
             | exact ⟨fun _ => ⟨Or.inl ⟨rfl, by rw [e59]⟩, fun k hk => by rw [hρ]⟩, fun nok => absurd nok (by omega)⟩
           · refine w_tswI (off := 39) (tgt := 75) dX7_in_36 (by omega) (by omega) (by omega) (by decide) (by decide) ?_
             refine w_aload_n dX7_in_75 rfl ?_
             refine w_iload_n dX7_in_76 rfl ?_
             refine cv_X7_217 rfl dX7_in_77 (Nat.le_of_ble_eq_true rfl) (Nat.le_of_ble_eq_true rfl) (Wp.mono (cm_booksOf ρ g (by omega) (by omega)) (fun z_ τ_ hq_ => ?_))
             obtain ⟨hz_, hs_⟩ := hq_
             rw [e60, e76] at hz_
             subst z_
             subst τ_
             refine w_iret dX7_in_80 rfl ?_
             first
             | exact ⟨fun _ => ⟨Or.inr (Or.inl ⟨rfl, rfl⟩), fun k hk => by rw [hfr9 k hk, hρ]⟩, fun nok => absurd nok (by omega)⟩
             | exact ⟨fun _ => ⟨Or.inr (Or.inl ⟨rfl, rfl⟩), fun k hk => by rw [hρ]⟩, fun nok => absurd nok (by omega)⟩
           · refine w_tswI (off := 45) (tgt := 81) dX7_in_36 (by omega) (by omega) (by omega) (by decide) (by decide) ?_
             refine w_aload_n dX7_in_81 rfl ?_
             refine w_iload_n dX7_in_82 rfl ?_
             refine cv_X7_87 rfl dX7_in_83 (Nat.le_of_ble_eq_true rfl) (Nat.le_of_ble_eq_true rfl) (Wp.mono (cm_widthOf ρ g (by omega) (by omega)) (fun z_ τ_ hq_ => ?_))
             obtain ⟨hz_, hs_⟩ := hq_
             rw [e60, e61, e76] at hz_
             subst z_
             subst τ_
             refine w_iret dX7_in_86 rfl ?_
             first
             | exact ⟨fun _ => ⟨Or.inr (Or.inr (Or.inl ⟨rfl, rfl⟩)), fun k hk => by rw [hfr9 k hk, hρ]⟩, fun nok => absurd nok (by omega)⟩
             | exact ⟨fun _ => ⟨Or.inr (Or.inr (Or.inl ⟨rfl, rfl⟩)), fun k hk => by rw [hρ]⟩, fun nok => absurd nok (by omega)⟩
           · refine w_tswI (off := 51) (tgt := 87) dX7_in_36 (by omega) (by omega) (by omega) (by decide) (by decide) ?_
             refine w_aload_n dX7_in_87 rfl ?_
             refine w_iload_n dX7_in_88 rfl ?_
             refine cv_X7_220 rfl dX7_in_89 (Nat.le_of_ble_eq_true rfl) (Nat.le_of_ble_eq_true rfl) (Wp.mono (cm_firstOf ρ g (by omega) (by omega)) (fun z_ τ_ hq_ => ?_))
             obtain ⟨hf_, hs_⟩ := hq_
             rw [e60, e76] at hf_
             subst τ_
             refine w_iret dX7_in_92 rfl ?_
             first
             | exact ⟨fun _ => ⟨Or.inr (Or.inr (Or.inr (Or.inl ⟨rfl, hf_⟩))), fun k hk => by rw [hfr9 k hk, hρ]⟩, fun nok => absurd nok (by omega)⟩
             | exact ⟨fun _ => ⟨Or.inr (Or.inr (Or.inr (Or.inl ⟨rfl, hf_⟩))), fun k hk => by rw [hρ]⟩, fun nok => absurd nok (by omega)⟩
           · refine w_tswO (tgt := 93) dX7_in_36 (by omega) (by omega) (by decide) ?_
             refine w_aload_n dX7_in_93 rfl ?_
             refine w_iload_n dX7_in_94 rfl ?_
             refine cv_X7_223 rfl dX7_in_95 (Nat.le_of_ble_eq_true rfl) (Nat.le_of_ble_eq_true rfl) (Wp.mono (cm_shelvesOf ρ g (by omega) (by omega)) (fun z_ τ_ hq_ => ?_))
             obtain ⟨hz_, hs_⟩ := hq_
             rw [e60, e62, e76] at hz_
             subst z_
             subst τ_
             refine w_iret dX7_in_98 rfl ?_
             first
             | exact ⟨fun _ => ⟨Or.inr (Or.inr (Or.inr (Or.inr (⟨rfl, rfl⟩)))), fun k hk => by rw [hfr9 k hk, hρ]⟩, fun nok => absurd nok (by omega)⟩
             | exact ⟨fun _ => ⟨Or.inr (Or.inr (Or.inr (Or.inr (⟨rfl, rfl⟩)))), fun k hk => by rw [hρ]⟩, fun nok => absurd nok (by omega)⟩)
      · refine w_iconst dX7_in_33 ?_
        refine w_iret dX7_in_34 rfl ?_
        first
        | exact absurd c_30 (by decide)
        | exact ⟨fun ok => absurd ok (by omega), fun _ => ⟨rfl, rfl⟩⟩
    · refine w_iconst dX7_in_18 ?_
      refine w_goto (tgt := 23) dX7_in_19 (by decide) ?_
      refine pf_X7_68 rfl (by omega) dX7_in_23 ?_
      refine w_aload_n dX7_in_26 rfl ?_
      refine gf_X7_68 rfl dX7_in_27 ?_
      first | rw [show put σ 7 0 0 7 0 = 0 by simp [put_eq]] | rw [show put σ 7 0 1 7 0 = 1 by simp [put_eq]]
      refine w_if_le (tgt := 35) dX7_in_30 (by decide) (by omega) (fun c_30 => ?_) (fun c_30 => ?_)
      · first
        | exact absurd c_30 (by decide)
        | (obtain ⟨ρ, hρ⟩ : ∃ ρ, ρ = put σ 7 0 0 := ⟨_, rfl⟩
           rw [← hρ]
           have hfr : frM σ ρ := by rw [hρ]; exact frM.raised σ 0
           have hIρ := hI.fr hfr
           have e57 := hfr.1 57 (by decide) (by omega)
           have e58 := hfr.1 58 (by decide) (by omega)
           have e59 := hfr.1 59 (by decide) (by omega)
           have e60 := hfr.1 60 (by decide) (by omega)
           have e61 := hfr.1 61 (by decide) (by omega)
           have e62 := hfr.1 62 (by decide) (by omega)
           have e63 := hfr.1 63 (by decide) (by omega)
           have e74 := hfr.1 74 (by decide) (by omega)
           have e76 := hfr.2 6 (by decide)
           have e71 := hfr.2 1 (by decide)
           have e721 := hfr.2 21 (by decide)
           have end_ := hfr.nd
           refine Wp.rg (fun hR2 => ?_)
           refine w_iload_n dX7_in_35 rfl ?_
           rcases (show w = 0 ∨ w = 1 ∨ w = 2 ∨ w = 3 ∨ w = 4 by omega) with rfl | rfl | rfl | rfl | rfl
           · refine w_tswI (off := 32) (tgt := 68) dX7_in_36 (by omega) (by omega) (by omega) (by decide) (by decide) ?_
             refine w_aload_n dX7_in_68 rfl ?_
             refine gf_X7_16 rfl dX7_in_69 ?_
             refine w_iload_n dX7_in_72 rfl ?_
             refine w_iald rfl (by omega) dX7_in_73 ?_
             refine w_iret dX7_in_74 rfl ?_
             first
             | exact ⟨fun _ => ⟨Or.inl ⟨rfl, by rw [e59]⟩, fun k hk => by rw [hfr9 k hk, hρ]⟩, fun nok => absurd nok (by omega)⟩
             | exact ⟨fun _ => ⟨Or.inl ⟨rfl, by rw [e59]⟩, fun k hk => by rw [hρ]⟩, fun nok => absurd nok (by omega)⟩
           · refine w_tswI (off := 39) (tgt := 75) dX7_in_36 (by omega) (by omega) (by omega) (by decide) (by decide) ?_
             refine w_aload_n dX7_in_75 rfl ?_
             refine w_iload_n dX7_in_76 rfl ?_
             refine cv_X7_217 rfl dX7_in_77 (Nat.le_of_ble_eq_true rfl) (Nat.le_of_ble_eq_true rfl) (Wp.mono (cm_booksOf ρ g (by omega) (by omega)) (fun z_ τ_ hq_ => ?_))
             obtain ⟨hz_, hs_⟩ := hq_
             rw [e60, e76] at hz_
             subst z_
             subst τ_
             refine w_iret dX7_in_80 rfl ?_
             first
             | exact ⟨fun _ => ⟨Or.inr (Or.inl ⟨rfl, rfl⟩), fun k hk => by rw [hfr9 k hk, hρ]⟩, fun nok => absurd nok (by omega)⟩
             | exact ⟨fun _ => ⟨Or.inr (Or.inl ⟨rfl, rfl⟩), fun k hk => by rw [hρ]⟩, fun nok => absurd nok (by omega)⟩
           · refine w_tswI (off := 45) (tgt := 81) dX7_in_36 (by omega) (by omega) (by omega) (by decide) (by decide) ?_
             refine w_aload_n dX7_in_81 rfl ?_
             refine w_iload_n dX7_in_82 rfl ?_
             refine cv_X7_87 rfl dX7_in_83 (Nat.le_of_ble_eq_true rfl) (Nat.le_of_ble_eq_true rfl) (Wp.mono (cm_widthOf ρ g (by omega) (by omega)) (fun z_ τ_ hq_ => ?_))
             obtain ⟨hz_, hs_⟩ := hq_
             rw [e60, e61, e76] at hz_
             subst z_
             subst τ_
             refine w_iret dX7_in_86 rfl ?_
             first
             | exact ⟨fun _ => ⟨Or.inr (Or.inr (Or.inl ⟨rfl, rfl⟩)), fun k hk => by rw [hfr9 k hk, hρ]⟩, fun nok => absurd nok (by omega)⟩
             | exact ⟨fun _ => ⟨Or.inr (Or.inr (Or.inl ⟨rfl, rfl⟩)), fun k hk => by rw [hρ]⟩, fun nok => absurd nok (by omega)⟩
           · refine w_tswI (off := 51) (tgt := 87) dX7_in_36 (by omega) (by omega) (by omega) (by decide) (by decide) ?_
             refine w_aload_n dX7_in_87 rfl ?_
             refine w_iload_n dX7_in_88 rfl ?_
             refine cv_X7_220 rfl dX7_in_89 (Nat.le_of_ble_eq_true rfl) (Nat.le_of_ble_eq_true rfl) (Wp.mono (cm_firstOf ρ g (by omega) (by omega)) (fun z_ τ_ hq_ => ?_))
             obtain ⟨hf_, hs_⟩ := hq_
             rw [e60, e76] at hf_
             subst τ_
             refine w_iret dX7_in_92 rfl ?_
             first
             | exact ⟨fun _ => ⟨Or.inr (Or.inr (Or.inr (Or.inl ⟨rfl, hf_⟩))), fun k hk => by rw [hfr9 k hk, hρ]⟩, fun nok => absurd nok (by omega)⟩
             | exact ⟨fun _ => ⟨Or.inr (Or.inr (Or.inr (Or.inl ⟨rfl, hf_⟩))), fun k hk => by rw [hρ]⟩, fun nok => absurd nok (by omega)⟩
           · refine w_tswO (tgt := 93) dX7_in_36 (by omega) (by omega) (by decide) ?_
             refine w_aload_n dX7_in_93 rfl ?_
             refine w_iload_n dX7_in_94 rfl ?_
             refine cv_X7_223 rfl dX7_in_95 (Nat.le_of_ble_eq_true rfl) (Nat.le_of_ble_eq_true rfl) (Wp.mono (cm_shelvesOf ρ g (by omega) (by omega)) (fun z_ τ_ hq_ => ?_))
             obtain ⟨hz_, hs_⟩ := hq_
             rw [e60, e62, e76] at hz_
             subst z_
             subst τ_
             refine w_iret dX7_in_98 rfl ?_
             first
             | exact ⟨fun _ => ⟨Or.inr (Or.inr (Or.inr (Or.inr (⟨rfl, rfl⟩)))), fun k hk => by rw [hfr9 k hk, hρ]⟩, fun nok => absurd nok (by omega)⟩
             | exact ⟨fun _ => ⟨Or.inr (Or.inr (Or.inr (Or.inr (⟨rfl, rfl⟩)))), fun k hk => by rw [hρ]⟩, fun nok => absurd nok (by omega)⟩)
      · refine w_iconst dX7_in_33 ?_
        refine w_iret dX7_in_34 rfl ?_
        first
        | exact absurd c_30 (by decide)
        | exact ⟨fun ok => absurd ok (by omega), fun _ => ⟨rfl, rfl⟩⟩

set_option maxRecDepth 100000 in
set_option maxHeartbeats 4000000 in
theorem cm_of (σ : St) (b w : Int) (hI : InvW σ) (hs : InR b) (hw : InR w) : Wp mX7_of 3 (fun z τ => ((0 ≤ b ∧ b < σ 7 6 ∧ 0 ≤ w ∧ w ≤ 6) → ((w = 0 ∧ z = σ 60 b) ∨ (w = 1 ∧ z = σ 61 b) ∨ (w = 2 ∧ z = ndM σ b) ∨ (w = 3 ∧ z = σ 62 b) ∨ (w = 4 ∧ z = sumW (σ 62) (σ 61) (σ 62 b) b) ∨ (w = 5 ∧ z = σ 63 b) ∨ (w = 6 ∧ z = if σ 7 21 = 0 then -1 else σ 74 b)) ∧ ∀ k, (k < 65 ∨ 69 < k) → τ k = put σ 7 0 0 k) ∧ (¬ (0 ≤ b ∧ b < σ 7 6 ∧ 0 ≤ w ∧ w ≤ 6) → z = 0 ∧ τ = put σ 7 0 1)) 0 [some (.inr 7), some (.inl b), some (.inl w)] [] σ := by
  refine Wp.rg (fun hR => ?_)
  have hns := hI.ns
  have hng := hI.ng
  have hnb := hI.nb
  refine w_aload_n dX7_of_0 rfl ?_
  refine w_aload_n dX7_of_1 rfl ?_
  refine w_iload_n dX7_of_2 rfl ?_
  refine cv_X7_161 rfl dX7_of_3 (Nat.le_of_ble_eq_true rfl) (Nat.le_of_ble_eq_true rfl) (Wp.mono (cm_isBook _ b hs hnb) (fun z_ τ_ hq_ => ?_))
  obtain ⟨hw3, hs_⟩ := hq_
  subst τ_
  refine w_if_eq (tgt := 23) dX7_of_6 (by decide) (by omega) (fun c_6 => ?_) (fun c_6 => ?_)
  · refine w_iconst dX7_of_23 ?_
    refine pf_X7_68 rfl (by omega) dX7_of_24 ?_
    refine w_aload_n dX7_of_27 rfl ?_
    refine gf_X7_68 rfl dX7_of_28 ?_
    first | rw [show put σ 7 0 0 7 0 = 0 by simp [put_eq]] | rw [show put σ 7 0 1 7 0 = 1 by simp [put_eq]]
    refine w_if_le (tgt := 36) dX7_of_31 (by decide) (by omega) (fun c_31 => ?_) (fun c_31 => ?_)
    · first
      | exact absurd c_31 (by decide)
      | (obtain ⟨ρ, hρ⟩ : ∃ ρ, ρ = put σ 7 0 0 := ⟨_, rfl⟩
         rw [← hρ]
         have hfr : frM σ ρ := by rw [hρ]; exact frM.raised σ 0
         have hIρ := hI.fr hfr
         have e57 := hfr.1 57 (by decide) (by omega)
         have e58 := hfr.1 58 (by decide) (by omega)
         have e59 := hfr.1 59 (by decide) (by omega)
         have e60 := hfr.1 60 (by decide) (by omega)
         have e61 := hfr.1 61 (by decide) (by omega)
         have e62 := hfr.1 62 (by decide) (by omega)
         have e63 := hfr.1 63 (by decide) (by omega)
         have e74 := hfr.1 74 (by decide) (by omega)
         have e76 := hfr.2 6 (by decide)
         have e71 := hfr.2 1 (by decide)
         have e721 := hfr.2 21 (by decide)
         have end_ := hfr.nd
         refine Wp.rg (fun hR2 => ?_)
         refine w_iload_n dX7_of_36 rfl ?_
         rcases (show w = 0 ∨ w = 1 ∨ w = 2 ∨ w = 3 ∨ w = 4 ∨ w = 5 ∨ w = 6 by omega) with rfl | rfl | rfl | rfl | rfl | rfl | rfl
         · refine w_tswI (off := 39) (tgt := 76) dX7_of_37 (by omega) (by omega) (by omega) (by decide) (by decide) ?_
           refine w_aload_n dX7_of_76 rfl ?_
           refine gf_X7_19 rfl dX7_of_77 ?_
           refine w_iload_n dX7_of_80 rfl ?_
           refine w_iald rfl (by omega) dX7_of_81 ?_
           refine w_iret dX7_of_82 rfl ?_
           first
           | exact ⟨fun _ => ⟨Or.inl ⟨rfl, by rw [e60]⟩, fun k hk => by rw [hfr9 k hk, hρ]⟩, fun nok => absurd nok (by omega)⟩
           | exact ⟨fun _ => ⟨Or.inl ⟨rfl, by rw [e60]⟩, fun k hk => by rw [hρ]⟩, fun nok => absurd nok (by omega)⟩
         · refine w_tswI (off := 46) (tgt := 83) dX7_of_37 (by omega) (by omega) (by omega) (by decide) (by decide) ?_
           refine w_aload_n dX7_of_83 rfl ?_
           refine gf_X7_22 rfl dX7_of_84 ?_
           refine w_iload_n dX7_of_87 rfl ?_
           refine w_iald rfl (by omega) dX7_of_88 ?_
           refine w_iret dX7_of_89 rfl ?_
           first
           | exact ⟨fun _ => ⟨Or.inr (Or.inl ⟨rfl, by rw [e61]⟩), fun k hk => by rw [hfr9 k hk, hρ]⟩, fun nok => absurd nok (by omega)⟩
           | exact ⟨fun _ => ⟨Or.inr (Or.inl ⟨rfl, by rw [e61]⟩), fun k hk => by rw [hρ]⟩, fun nok => absurd nok (by omega)⟩
         · refine w_tswI (off := 53) (tgt := 90) dX7_of_37 (by omega) (by omega) (by omega) (by decide) (by decide) ?_
           refine w_aload_n dX7_of_90 rfl ?_
           refine w_iload_n dX7_of_91 rfl ?_
           refine cv_X7_226 rfl dX7_of_92 (Nat.le_of_ble_eq_true rfl) (Nat.le_of_ble_eq_true rfl) (Wp.mono (cm_needOf ρ b hIρ (by omega)) (fun z_ τ_ hq_ => ?_))
           obtain ⟨hz_, hfr9⟩ := hq_
           rw [end_] at hz_
           subst z_
           refine w_iret dX7_of_95 rfl ?_
           first
           | exact ⟨fun _ => ⟨Or.inr (Or.inr (Or.inl ⟨rfl, rfl⟩)), fun k hk => by rw [hfr9 k hk, hρ]⟩, fun nok => absurd nok (by omega)⟩
           | exact ⟨fun _ => ⟨Or.inr (Or.inr (Or.inl ⟨rfl, rfl⟩)), fun k hk => by rw [hρ]⟩, fun nok => absurd nok (by omega)⟩
         · refine w_tswI (off := 59) (tgt := 96) dX7_of_37 (by omega) (by omega) (by omega) (by decide) (by decide) ?_
           refine w_aload_n dX7_of_96 rfl ?_
           refine gf_X7_25 rfl dX7_of_97 ?_
           refine w_iload_n dX7_of_100 rfl ?_
           refine w_iald rfl (by omega) dX7_of_101 ?_
           refine w_iret dX7_of_102 rfl ?_
           first
           | exact ⟨fun _ => ⟨Or.inr (Or.inr (Or.inr (Or.inl ⟨rfl, by rw [e62]⟩))), fun k hk => by rw [hfr9 k hk, hρ]⟩, fun nok => absurd nok (by omega)⟩
           | exact ⟨fun _ => ⟨Or.inr (Or.inr (Or.inr (Or.inl ⟨rfl, by rw [e62]⟩))), fun k hk => by rw [hρ]⟩, fun nok => absurd nok (by omega)⟩
         · refine w_tswI (off := 66) (tgt := 103) dX7_of_37 (by omega) (by omega) (by omega) (by decide) (by decide) ?_
           refine w_aload_n dX7_of_103 rfl ?_
           refine w_iload_n dX7_of_104 rfl ?_
           refine cv_X7_229 rfl dX7_of_105 (Nat.le_of_ble_eq_true rfl) (Nat.le_of_ble_eq_true rfl) (Wp.mono (cm_ahead ρ b (by omega)) (fun z_ τ_ hq_ => ?_))
           obtain ⟨hz_, hs_⟩ := hq_
           rw [e62, e61] at hz_
           subst z_
           subst τ_
           refine w_iret dX7_of_108 rfl ?_
           first
           | exact ⟨fun _ => ⟨Or.inr (Or.inr (Or.inr (Or.inr (Or.inl ⟨rfl, rfl⟩)))), fun k hk => by rw [hfr9 k hk, hρ]⟩, fun nok => absurd nok (by omega)⟩
           | exact ⟨fun _ => ⟨Or.inr (Or.inr (Or.inr (Or.inr (Or.inl ⟨rfl, rfl⟩)))), fun k hk => by rw [hρ]⟩, fun nok => absurd nok (by omega)⟩
         · refine w_tswI (off := 72) (tgt := 109) dX7_of_37 (by omega) (by omega) (by omega) (by decide) (by decide) ?_
           refine w_aload_n dX7_of_109 rfl ?_
           refine gf_X7_28 rfl dX7_of_110 ?_
           refine w_iload_n dX7_of_113 rfl ?_
           refine w_iald rfl (by omega) dX7_of_114 ?_
           refine w_iret dX7_of_115 rfl ?_
           first
           | exact ⟨fun _ => ⟨Or.inr (Or.inr (Or.inr (Or.inr (Or.inr (Or.inl ⟨rfl, by rw [e63]⟩))))), fun k hk => by rw [hfr9 k hk, hρ]⟩, fun nok => absurd nok (by omega)⟩
           | exact ⟨fun _ => ⟨Or.inr (Or.inr (Or.inr (Or.inr (Or.inr (Or.inl ⟨rfl, by rw [e63]⟩))))), fun k hk => by rw [hρ]⟩, fun nok => absurd nok (by omega)⟩
         · refine w_tswO (tgt := 116) dX7_of_37 (by omega) (by omega) (by decide) ?_
           refine w_aload_n dX7_of_116 rfl ?_
           refine gf_X7_164 rfl dX7_of_117 ?_
           refine w_if_eq (tgt := 132) dX7_of_120 (by decide) (hR2 _ _) (fun c_120 => ?_) (fun c_120 => ?_)
           · refine w_iconst dX7_of_132 ?_
             refine w_iret dX7_of_133 rfl ?_
             first
             | exact ⟨fun _ => ⟨Or.inr (Or.inr (Or.inr (Or.inr (Or.inr (Or.inr (⟨rfl, by rw [e721] at c_120; first | rw [if_pos c_120] | rw [if_neg c_120, e74]⟩)))))), fun k hk => by rw [hfr9 k hk, hρ]⟩, fun nok => absurd nok (by omega)⟩
             | exact ⟨fun _ => ⟨Or.inr (Or.inr (Or.inr (Or.inr (Or.inr (Or.inr (⟨rfl, by rw [e721] at c_120; first | rw [if_pos c_120] | rw [if_neg c_120, e74]⟩)))))), fun k hk => by rw [hρ]⟩, fun nok => absurd nok (by omega)⟩
           · refine w_aload_n dX7_of_123 rfl ?_
             refine gf_X7_65 rfl dX7_of_124 ?_
             refine w_iload_n dX7_of_127 rfl ?_
             refine w_iald rfl (by omega) dX7_of_128 ?_
             refine w_goto (tgt := 133) dX7_of_129 (by decide) ?_
             refine w_iret dX7_of_133 rfl ?_
             first
             | exact ⟨fun _ => ⟨Or.inr (Or.inr (Or.inr (Or.inr (Or.inr (Or.inr (⟨rfl, by rw [e721] at c_120; first | rw [if_pos c_120] | rw [if_neg c_120, e74]⟩)))))), fun k hk => by rw [hfr9 k hk, hρ]⟩, fun nok => absurd nok (by omega)⟩
             | exact ⟨fun _ => ⟨Or.inr (Or.inr (Or.inr (Or.inr (Or.inr (Or.inr (⟨rfl, by rw [e721] at c_120; first | rw [if_pos c_120] | rw [if_neg c_120, e74]⟩)))))), fun k hk => by rw [hρ]⟩, fun nok => absurd nok (by omega)⟩)
    · refine w_iconst dX7_of_34 ?_
      refine w_iret dX7_of_35 rfl ?_
      first
      | exact absurd c_31 (by decide)
      | exact ⟨fun ok => absurd ok (by omega), fun _ => ⟨rfl, rfl⟩⟩
  · refine w_iload_n dX7_of_9 rfl ?_
    refine w_iconst dX7_of_10 ?_
    refine w_bipush dX7_of_11 (by decide) ?_
    refine cv_X7_74 rfl dX7_of_13 (Nat.le_of_ble_eq_true rfl) (Nat.le_of_ble_eq_true rfl) (Wp.mono (cm_isIn _ w 0 6 hw (by omega) (by omega)) (fun z_ τ_ hq_ => ?_))
    obtain ⟨hw13, hs_⟩ := hq_
    subst τ_
    refine w_if_eq (tgt := 23) dX7_of_16 (by decide) (by omega) (fun c_16 => ?_) (fun c_16 => ?_)
    · refine w_iconst dX7_of_23 ?_
      refine pf_X7_68 rfl (by omega) dX7_of_24 ?_
      refine w_aload_n dX7_of_27 rfl ?_
      refine gf_X7_68 rfl dX7_of_28 ?_
      first | rw [show put σ 7 0 0 7 0 = 0 by simp [put_eq]] | rw [show put σ 7 0 1 7 0 = 1 by simp [put_eq]]
      refine w_if_le (tgt := 36) dX7_of_31 (by decide) (by omega) (fun c_31 => ?_) (fun c_31 => ?_)
      · first
        | exact absurd c_31 (by decide)
        | (obtain ⟨ρ, hρ⟩ : ∃ ρ, ρ = put σ 7 0 0 := ⟨_, rfl⟩
           rw [← hρ]
           have hfr : frM σ ρ := by rw [hρ]; exact frM.raised σ 0
           have hIρ := hI.fr hfr
           have e57 := hfr.1 57 (by decide) (by omega)
           have e58 := hfr.1 58 (by decide) (by omega)
           have e59 := hfr.1 59 (by decide) (by omega)
           have e60 := hfr.1 60 (by decide) (by omega)
           have e61 := hfr.1 61 (by decide) (by omega)
           have e62 := hfr.1 62 (by decide) (by omega)
           have e63 := hfr.1 63 (by decide) (by omega)
           have e74 := hfr.1 74 (by decide) (by omega)
           have e76 := hfr.2 6 (by decide)
           have e71 := hfr.2 1 (by decide)
           have e721 := hfr.2 21 (by decide)
           have end_ := hfr.nd
           refine Wp.rg (fun hR2 => ?_)
           refine w_iload_n dX7_of_36 rfl ?_
           rcases (show w = 0 ∨ w = 1 ∨ w = 2 ∨ w = 3 ∨ w = 4 ∨ w = 5 ∨ w = 6 by omega) with rfl | rfl | rfl | rfl | rfl | rfl | rfl
           · refine w_tswI (off := 39) (tgt := 76) dX7_of_37 (by omega) (by omega) (by omega) (by decide) (by decide) ?_
             refine w_aload_n dX7_of_76 rfl ?_
             refine gf_X7_19 rfl dX7_of_77 ?_
             refine w_iload_n dX7_of_80 rfl ?_
             refine w_iald rfl (by omega) dX7_of_81 ?_
             refine w_iret dX7_of_82 rfl ?_
             first
             | exact ⟨fun _ => ⟨Or.inl ⟨rfl, by rw [e60]⟩, fun k hk => by rw [hfr9 k hk, hρ]⟩, fun nok => absurd nok (by omega)⟩
             | exact ⟨fun _ => ⟨Or.inl ⟨rfl, by rw [e60]⟩, fun k hk => by rw [hρ]⟩, fun nok => absurd nok (by omega)⟩
           · refine w_tswI (off := 46) (tgt := 83) dX7_of_37 (by omega) (by omega) (by omega) (by decide) (by decide) ?_
             refine w_aload_n dX7_of_83 rfl ?_
             refine gf_X7_22 rfl dX7_of_84 ?_
             refine w_iload_n dX7_of_87 rfl ?_
             refine w_iald rfl (by omega) dX7_of_88 ?_
             refine w_iret dX7_of_89 rfl ?_
             first
             | exact ⟨fun _ => ⟨Or.inr (Or.inl ⟨rfl, by rw [e61]⟩), fun k hk => by rw [hfr9 k hk, hρ]⟩, fun nok => absurd nok (by omega)⟩
             | exact ⟨fun _ => ⟨Or.inr (Or.inl ⟨rfl, by rw [e61]⟩), fun k hk => by rw [hρ]⟩, fun nok => absurd nok (by omega)⟩
           · refine w_tswI (off := 53) (tgt := 90) dX7_of_37 (by omega) (by omega) (by omega) (by decide) (by decide) ?_
             refine w_aload_n dX7_of_90 rfl ?_
             refine w_iload_n dX7_of_91 rfl ?_
             refine cv_X7_226 rfl dX7_of_92 (Nat.le_of_ble_eq_true rfl) (Nat.le_of_ble_eq_true rfl) (Wp.mono (cm_needOf ρ b hIρ (by omega)) (fun z_ τ_ hq_ => ?_))
             obtain ⟨hz_, hfr9⟩ := hq_
             rw [end_] at hz_
             subst z_
             refine w_iret dX7_of_95 rfl ?_
             first
             | exact ⟨fun _ => ⟨Or.inr (Or.inr (Or.inl ⟨rfl, rfl⟩)), fun k hk => by rw [hfr9 k hk, hρ]⟩, fun nok => absurd nok (by omega)⟩
             | exact ⟨fun _ => ⟨Or.inr (Or.inr (Or.inl ⟨rfl, rfl⟩)), fun k hk => by rw [hρ]⟩, fun nok => absurd nok (by omega)⟩
           · refine w_tswI (off := 59) (tgt := 96) dX7_of_37 (by omega) (by omega) (by omega) (by decide) (by decide) ?_
             refine w_aload_n dX7_of_96 rfl ?_
             refine gf_X7_25 rfl dX7_of_97 ?_
             refine w_iload_n dX7_of_100 rfl ?_
             refine w_iald rfl (by omega) dX7_of_101 ?_
             refine w_iret dX7_of_102 rfl ?_
             first
             | exact ⟨fun _ => ⟨Or.inr (Or.inr (Or.inr (Or.inl ⟨rfl, by rw [e62]⟩))), fun k hk => by rw [hfr9 k hk, hρ]⟩, fun nok => absurd nok (by omega)⟩
             | exact ⟨fun _ => ⟨Or.inr (Or.inr (Or.inr (Or.inl ⟨rfl, by rw [e62]⟩))), fun k hk => by rw [hρ]⟩, fun nok => absurd nok (by omega)⟩
           · refine w_tswI (off := 66) (tgt := 103) dX7_of_37 (by omega) (by omega) (by omega) (by decide) (by decide) ?_
             refine w_aload_n dX7_of_103 rfl ?_
             refine w_iload_n dX7_of_104 rfl ?_
             refine cv_X7_229 rfl dX7_of_105 (Nat.le_of_ble_eq_true rfl) (Nat.le_of_ble_eq_true rfl) (Wp.mono (cm_ahead ρ b (by omega)) (fun z_ τ_ hq_ => ?_))
             obtain ⟨hz_, hs_⟩ := hq_
             rw [e62, e61] at hz_
             subst z_
             subst τ_
             refine w_iret dX7_of_108 rfl ?_
             first
             | exact ⟨fun _ => ⟨Or.inr (Or.inr (Or.inr (Or.inr (Or.inl ⟨rfl, rfl⟩)))), fun k hk => by rw [hfr9 k hk, hρ]⟩, fun nok => absurd nok (by omega)⟩
             | exact ⟨fun _ => ⟨Or.inr (Or.inr (Or.inr (Or.inr (Or.inl ⟨rfl, rfl⟩)))), fun k hk => by rw [hρ]⟩, fun nok => absurd nok (by omega)⟩
           · refine w_tswI (off := 72) (tgt := 109) dX7_of_37 (by omega) (by omega) (by omega) (by decide) (by decide) ?_
             refine w_aload_n dX7_of_109 rfl ?_
             refine gf_X7_28 rfl dX7_of_110 ?_
             refine w_iload_n dX7_of_113 rfl ?_
             refine w_iald rfl (by omega) dX7_of_114 ?_
             refine w_iret dX7_of_115 rfl ?_
             first
             | exact ⟨fun _ => ⟨Or.inr (Or.inr (Or.inr (Or.inr (Or.inr (Or.inl ⟨rfl, by rw [e63]⟩))))), fun k hk => by rw [hfr9 k hk, hρ]⟩, fun nok => absurd nok (by omega)⟩
             | exact ⟨fun _ => ⟨Or.inr (Or.inr (Or.inr (Or.inr (Or.inr (Or.inl ⟨rfl, by rw [e63]⟩))))), fun k hk => by rw [hρ]⟩, fun nok => absurd nok (by omega)⟩
           · refine w_tswO (tgt := 116) dX7_of_37 (by omega) (by omega) (by decide) ?_
             refine w_aload_n dX7_of_116 rfl ?_
             refine gf_X7_164 rfl dX7_of_117 ?_
             refine w_if_eq (tgt := 132) dX7_of_120 (by decide) (hR2 _ _) (fun c_120 => ?_) (fun c_120 => ?_)
             · refine w_iconst dX7_of_132 ?_
               refine w_iret dX7_of_133 rfl ?_
               first
               | exact ⟨fun _ => ⟨Or.inr (Or.inr (Or.inr (Or.inr (Or.inr (Or.inr (⟨rfl, by rw [e721] at c_120; first | rw [if_pos c_120] | rw [if_neg c_120, e74]⟩)))))), fun k hk => by rw [hfr9 k hk, hρ]⟩, fun nok => absurd nok (by omega)⟩
               | exact ⟨fun _ => ⟨Or.inr (Or.inr (Or.inr (Or.inr (Or.inr (Or.inr (⟨rfl, by rw [e721] at c_120; first | rw [if_pos c_120] | rw [if_neg c_120, e74]⟩)))))), fun k hk => by rw [hρ]⟩, fun nok => absurd nok (by omega)⟩
             · refine w_aload_n dX7_of_123 rfl ?_
               refine gf_X7_65 rfl dX7_of_124 ?_
               refine w_iload_n dX7_of_127 rfl ?_
               refine w_iald rfl (by omega) dX7_of_128 ?_
               refine w_goto (tgt := 133) dX7_of_129 (by decide) ?_
               refine w_iret dX7_of_133 rfl ?_
               first
               | exact ⟨fun _ => ⟨Or.inr (Or.inr (Or.inr (Or.inr (Or.inr (Or.inr (⟨rfl, by rw [e721] at c_120; first | rw [if_pos c_120] | rw [if_neg c_120, e74]⟩)))))), fun k hk => by rw [hfr9 k hk, hρ]⟩, fun nok => absurd nok (by omega)⟩
               | exact ⟨fun _ => ⟨Or.inr (Or.inr (Or.inr (Or.inr (Or.inr (Or.inr (⟨rfl, by rw [e721] at c_120; first | rw [if_pos c_120] | rw [if_neg c_120, e74]⟩)))))), fun k hk => by rw [hρ]⟩, fun nok => absurd nok (by omega)⟩)
      · refine w_iconst dX7_of_34 ?_
        refine w_iret dX7_of_35 rfl ?_
        first
        | exact absurd c_31 (by decide)
        | exact ⟨fun ok => absurd ok (by omega), fun _ => ⟨rfl, rfl⟩⟩
    · refine w_iconst dX7_of_19 ?_
      refine w_goto (tgt := 24) dX7_of_20 (by decide) ?_
      refine pf_X7_68 rfl (by omega) dX7_of_24 ?_
      refine w_aload_n dX7_of_27 rfl ?_
      refine gf_X7_68 rfl dX7_of_28 ?_
      first | rw [show put σ 7 0 0 7 0 = 0 by simp [put_eq]] | rw [show put σ 7 0 1 7 0 = 1 by simp [put_eq]]
      refine w_if_le (tgt := 36) dX7_of_31 (by decide) (by omega) (fun c_31 => ?_) (fun c_31 => ?_)
      · first
        | exact absurd c_31 (by decide)
        | (obtain ⟨ρ, hρ⟩ : ∃ ρ, ρ = put σ 7 0 0 := ⟨_, rfl⟩
           rw [← hρ]
           have hfr : frM σ ρ := by rw [hρ]; exact frM.raised σ 0
           have hIρ := hI.fr hfr
           have e57 := hfr.1 57 (by decide) (by omega)
           have e58 := hfr.1 58 (by decide) (by omega)
           have e59 := hfr.1 59 (by decide) (by omega)
           have e60 := hfr.1 60 (by decide) (by omega)
           have e61 := hfr.1 61 (by decide) (by omega)
           have e62 := hfr.1 62 (by decide) (by omega)
           have e63 := hfr.1 63 (by decide) (by omega)
           have e74 := hfr.1 74 (by decide) (by omega)
           have e76 := hfr.2 6 (by decide)
           have e71 := hfr.2 1 (by decide)
           have e721 := hfr.2 21 (by decide)
           have end_ := hfr.nd
           refine Wp.rg (fun hR2 => ?_)
           refine w_iload_n dX7_of_36 rfl ?_
           rcases (show w = 0 ∨ w = 1 ∨ w = 2 ∨ w = 3 ∨ w = 4 ∨ w = 5 ∨ w = 6 by omega) with rfl | rfl | rfl | rfl | rfl | rfl | rfl
           · refine w_tswI (off := 39) (tgt := 76) dX7_of_37 (by omega) (by omega) (by omega) (by decide) (by decide) ?_
             refine w_aload_n dX7_of_76 rfl ?_
             refine gf_X7_19 rfl dX7_of_77 ?_
             refine w_iload_n dX7_of_80 rfl ?_
             refine w_iald rfl (by omega) dX7_of_81 ?_
             refine w_iret dX7_of_82 rfl ?_
             first
             | exact ⟨fun _ => ⟨Or.inl ⟨rfl, by rw [e60]⟩, fun k hk => by rw [hfr9 k hk, hρ]⟩, fun nok => absurd nok (by omega)⟩
             | exact ⟨fun _ => ⟨Or.inl ⟨rfl, by rw [e60]⟩, fun k hk => by rw [hρ]⟩, fun nok => absurd nok (by omega)⟩
           · refine w_tswI (off := 46) (tgt := 83) dX7_of_37 (by omega) (by omega) (by omega) (by decide) (by decide) ?_
             refine w_aload_n dX7_of_83 rfl ?_
             refine gf_X7_22 rfl dX7_of_84 ?_
             refine w_iload_n dX7_of_87 rfl ?_
             refine w_iald rfl (by omega) dX7_of_88 ?_
             refine w_iret dX7_of_89 rfl ?_
             first
             | exact ⟨fun _ => ⟨Or.inr (Or.inl ⟨rfl, by rw [e61]⟩), fun k hk => by rw [hfr9 k hk, hρ]⟩, fun nok => absurd nok (by omega)⟩
             | exact ⟨fun _ => ⟨Or.inr (Or.inl ⟨rfl, by rw [e61]⟩), fun k hk => by rw [hρ]⟩, fun nok => absurd nok (by omega)⟩
           · refine w_tswI (off := 53) (tgt := 90) dX7_of_37 (by omega) (by omega) (by omega) (by decide) (by decide) ?_
             refine w_aload_n dX7_of_90 rfl ?_
             refine w_iload_n dX7_of_91 rfl ?_
             refine cv_X7_226 rfl dX7_of_92 (Nat.le_of_ble_eq_true rfl) (Nat.le_of_ble_eq_true rfl) (Wp.mono (cm_needOf ρ b hIρ (by omega)) (fun z_ τ_ hq_ => ?_))
             obtain ⟨hz_, hfr9⟩ := hq_
             rw [end_] at hz_
             subst z_
             refine w_iret dX7_of_95 rfl ?_
             first
             | exact ⟨fun _ => ⟨Or.inr (Or.inr (Or.inl ⟨rfl, rfl⟩)), fun k hk => by rw [hfr9 k hk, hρ]⟩, fun nok => absurd nok (by omega)⟩
             | exact ⟨fun _ => ⟨Or.inr (Or.inr (Or.inl ⟨rfl, rfl⟩)), fun k hk => by rw [hρ]⟩, fun nok => absurd nok (by omega)⟩
           · refine w_tswI (off := 59) (tgt := 96) dX7_of_37 (by omega) (by omega) (by omega) (by decide) (by decide) ?_
             refine w_aload_n dX7_of_96 rfl ?_
             refine gf_X7_25 rfl dX7_of_97 ?_
             refine w_iload_n dX7_of_100 rfl ?_
             refine w_iald rfl (by omega) dX7_of_101 ?_
             refine w_iret dX7_of_102 rfl ?_
             first
             | exact ⟨fun _ => ⟨Or.inr (Or.inr (Or.inr (Or.inl ⟨rfl, by rw [e62]⟩))), fun k hk => by rw [hfr9 k hk, hρ]⟩, fun nok => absurd nok (by omega)⟩
             | exact ⟨fun _ => ⟨Or.inr (Or.inr (Or.inr (Or.inl ⟨rfl, by rw [e62]⟩))), fun k hk => by rw [hρ]⟩, fun nok => absurd nok (by omega)⟩
           · refine w_tswI (off := 66) (tgt := 103) dX7_of_37 (by omega) (by omega) (by omega) (by decide) (by decide) ?_
             refine w_aload_n dX7_of_103 rfl ?_
             refine w_iload_n dX7_of_104 rfl ?_
             refine cv_X7_229 rfl dX7_of_105 (Nat.le_of_ble_eq_true rfl) (Nat.le_of_ble_eq_true rfl) (Wp.mono (cm_ahead ρ b (by omega)) (fun z_ τ_ hq_ => ?_))
             obtain ⟨hz_, hs_⟩ := hq_
             rw [e62, e61] at hz_
             subst z_
             subst τ_
             refine w_iret dX7_of_108 rfl ?_
             first
             | exact ⟨fun _ => ⟨Or.inr (Or.inr (Or.inr (Or.inr (Or.inl ⟨rfl, rfl⟩)))), fun k hk => by rw [hfr9 k hk, hρ]⟩, fun nok => absurd nok (by omega)⟩
             | exact ⟨fun _ => ⟨Or.inr (Or.inr (Or.inr (Or.inr (Or.inl ⟨rfl, rfl⟩)))), fun k hk => by rw [hρ]⟩, fun nok => absurd nok (by omega)⟩
           · refine w_tswI (off := 72) (tgt := 109) dX7_of_37 (by omega) (by omega) (by omega) (by decide) (by decide) ?_
             refine w_aload_n dX7_of_109 rfl ?_
             refine gf_X7_28 rfl dX7_of_110 ?_
             refine w_iload_n dX7_of_113 rfl ?_
             refine w_iald rfl (by omega) dX7_of_114 ?_
             refine w_iret dX7_of_115 rfl ?_
             first
             | exact ⟨fun _ => ⟨Or.inr (Or.inr (Or.inr (Or.inr (Or.inr (Or.inl ⟨rfl, by rw [e63]⟩))))), fun k hk => by rw [hfr9 k hk, hρ]⟩, fun nok => absurd nok (by omega)⟩
             | exact ⟨fun _ => ⟨Or.inr (Or.inr (Or.inr (Or.inr (Or.inr (Or.inl ⟨rfl, by rw [e63]⟩))))), fun k hk => by rw [hρ]⟩, fun nok => absurd nok (by omega)⟩
           · refine w_tswO (tgt := 116) dX7_of_37 (by omega) (by omega) (by decide) ?_
             refine w_aload_n dX7_of_116 rfl ?_
             refine gf_X7_164 rfl dX7_of_117 ?_
             refine w_if_eq (tgt := 132) dX7_of_120 (by decide) (hR2 _ _) (fun c_120 => ?_) (fun c_120 => ?_)
             · refine w_iconst dX7_of_132 ?_
               refine w_iret dX7_of_133 rfl ?_
               first
               | exact ⟨fun _ => ⟨Or.inr (Or.inr (Or.inr (Or.inr (Or.inr (Or.inr (⟨rfl, by rw [e721] at c_120; first | rw [if_pos c_120] | rw [if_neg c_120, e74]⟩)))))), fun k hk => by rw [hfr9 k hk, hρ]⟩, fun nok => absurd nok (by omega)⟩
               | exact ⟨fun _ => ⟨Or.inr (Or.inr (Or.inr (Or.inr (Or.inr (Or.inr (⟨rfl, by rw [e721] at c_120; first | rw [if_pos c_120] | rw [if_neg c_120, e74]⟩)))))), fun k hk => by rw [hρ]⟩, fun nok => absurd nok (by omega)⟩
             · refine w_aload_n dX7_of_123 rfl ?_
               refine gf_X7_65 rfl dX7_of_124 ?_
               refine w_iload_n dX7_of_127 rfl ?_
               refine w_iald rfl (by omega) dX7_of_128 ?_
               refine w_goto (tgt := 133) dX7_of_129 (by decide) ?_
               refine w_iret dX7_of_133 rfl ?_
               first
               | exact ⟨fun _ => ⟨Or.inr (Or.inr (Or.inr (Or.inr (Or.inr (Or.inr (⟨rfl, by rw [e721] at c_120; first | rw [if_pos c_120] | rw [if_neg c_120, e74]⟩)))))), fun k hk => by rw [hfr9 k hk, hρ]⟩, fun nok => absurd nok (by omega)⟩
               | exact ⟨fun _ => ⟨Or.inr (Or.inr (Or.inr (Or.inr (Or.inr (Or.inr (⟨rfl, by rw [e721] at c_120; first | rw [if_pos c_120] | rw [if_neg c_120, e74]⟩)))))), fun k hk => by rw [hρ]⟩, fun nok => absurd nok (by omega)⟩)
      · refine w_iconst dX7_of_34 ?_
        refine w_iret dX7_of_35 rfl ?_
        first
        | exact absurd c_31 (by decide)
        | exact ⟨fun ok => absurd ok (by omega), fun _ => ⟨rfl, rfl⟩⟩

