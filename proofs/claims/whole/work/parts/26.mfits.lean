/-- what a question leaves as it was -/
def frM (σ τ : St) : Prop := (∀ k, k ≠ 7 → (k < 65 ∨ 69 < k) → τ k = σ k) ∧ ∀ j, j ≠ 0 → τ 7 j = σ 7 j
theorem frM.rf (σ : St) : frM σ σ := ⟨fun _ _ _ => rfl, fun _ _ => rfl⟩
theorem frM.raised (σ : St) (x : Int) : frM σ (put σ 7 0 x) := ⟨fun k k7 _ => put_ne k7, fun j hj => by simp [put_eq, hj]⟩
theorem frM.trans {σ τ υ : St} (h : frM σ τ) (k : frM τ υ) : frM σ υ := ⟨fun x x7 xr => by rw [k.1 x x7 xr]; exact h.1 x x7 xr, fun j hj => by rw [k.2 j hj]; exact h.2 j hj⟩
theorem frM.of {σ τ : St} (h : ∀ k, (k < 65 ∨ 69 < k) → τ k = σ k) : frM σ τ := ⟨fun k _ kr => h k kr, fun j _ => by rw [h 7 (by omega)]⟩
theorem frM.nd {σ τ : St} (h : frM σ τ) : ndM τ = ndM σ := by
  funext b
  unfold ndM
  rw [h.1 59 (by decide) (by omega), h.1 60 (by decide) (by omega), h.1 61 (by decide) (by omega), h.2 6 (by decide)]
theorem frM.sp {σ τ : St} (h : frM σ τ) (y : Int) : spM τ y = spM σ y := by
  funext b
  unfold spM
  rw [h.nd, h.1 61 (by decide) (by omega)]
theorem frM.cp {σ τ : St} (h : frM σ τ) (y : Int) : cpM τ y = cpM σ y := by
  unfold cpM
  rw [h.sp, h.1 57 (by decide) (by omega), h.1 58 (by decide) (by omega), h.1 61 (by decide) (by omega), h.1 62 (by decide) (by omega)]
theorem InvW.fr {σ τ : St} (h : InvW σ) (f : frM σ τ) : InvW τ := by
  unfold InvW
  rw [f.2 1 (by decide), f.2 4 (by decide), f.2 6 (by decide), f.1 57 (by decide) (by omega), f.1 58 (by decide) (by omega), f.1 59 (by decide) (by omega), f.1 60 (by decide) (by omega), f.1 61 (by decide) (by omega), f.1 62 (by decide) (by omega)]
  exact h

set_option maxRecDepth 100000 in
set_option maxHeartbeats 4000000 in
theorem cm_fits (σ : St) (y sp kd : Int) (hI : InvW σ) (hyy : 0 ≤ y ∧ y ≤ 999) (hsp : InR sp) (hkd : (sp = 0 ∧ kd = 0) ∨ (sp ≠ 0 ∧ kd = 1)) : Wp mX7_fits 2 (fun z τ => (∃ q, IsFill (σ 57) (σ 58) (spM σ y) kd (σ 7 1) (σ 7 6) q ∧ z = if q (σ 7 1) = σ 7 6 then 1 else 0) ∧ frM σ τ) 0 [some (.inr 7), some (.inl y), some (.inl sp), none, none, none] [] σ := by
  refine Wp.rg (fun hR => ?_)
  refine w_aload_n dX7_fits_0 rfl ?_
  refine cv_X7_91 rfl dX7_fits_1 (Nat.le_of_ble_eq_true rfl) (Nat.le_of_ble_eq_true rfl) (Wp.mono (cm_needs σ hI) (fun z_ τ_ hq_ => ?_))
  obtain ⟨υ, hυ⟩ : ∃ υ, υ = τ_ := ⟨_, rfl⟩
  rw [← hυ] at hq_ ⊢
  clear hυ
  obtain ⟨f1, f2⟩ := hq_
  have hns := hI.ns
  have hnb := hI.nb
  have e7 : υ 7 = σ 7 := f2 7 (by decide) (by decide)
  have e57 : υ 57 = σ 57 := f2 57 (by decide) (by decide)
  have e58 : υ 58 = σ 58 := f2 58 (by decide) (by decide)
  have e61 : υ 61 = σ 61 := f2 61 (by decide) (by decide)
  have e76 : υ 7 6 = σ 7 6 := by rw [e7]
  have e71 : υ 7 1 = σ 7 1 := by rw [e7]
  have hfr : frM σ υ := frM.of (fun k hk => f2 k (by omega) (by omega))
  refine Wp.rg (fun hR2 => ?_)
  refine w_iconst dX7_fits_4 ?_
  refine w_istore_n dX7_fits_5 (Nat.le_of_ble_eq_true rfl) ?_
  refine w_iconst dX7_fits_6 ?_
  refine w_istore dX7_fits_7 (Nat.le_of_ble_eq_true rfl) ?_
  refine up_to (σ 7 1) (fun i => 0 ≤ i → ∀ (f : Int) (x5 : Option PV), (∃ q, IsFill (σ 57) (σ 58) (spM σ y) kd i (σ 7 6) q ∧ q i = f) → Wp mX7_fits 2 (fun z τ => (∃ q, IsFill (σ 57) (σ 58) (spM σ y) kd (σ 7 1) (σ 7 6) q ∧ z = if q (σ 7 1) = σ 7 6 then 1 else 0) ∧ frM σ τ) 9 [some (.inr 7), some (.inl y), some (.inl sp), some (.inl f), some (.inl i), x5] [] υ) (fun i hi ih h0 f x5 hinv => ?_) (0) (by omega) (by omega) 0 _ ⟨fun _ => 0, ⟨rfl, fun s s0 s1 => by omega⟩, rfl⟩
  obtain ⟨q, g1, g2⟩ := hinv
  have gb := g1.bd hI.nb.1 i h0 (Int.le_refl i)
  rw [g2] at gb
  refine w_iload dX7_fits_9 rfl ?_
  refine w_aload_n dX7_fits_11 rfl ?_
  refine gf_X7_71 rfl dX7_fits_12 ?_
  refine w_icmp_ge (tgt := 116) dX7_fits_15 (by decide) (by omega) (by omega) (fun c_15 => ?_) (fun c_15 => ?_)
  · refine w_iload_n dX7_fits_116 rfl ?_
    refine w_aload_n dX7_fits_117 rfl ?_
    refine gf_X7_81 rfl dX7_fits_118 ?_
    refine w_icmp_ne (tgt := 128) dX7_fits_121 (by decide) (by omega) (by omega) (fun c_121 => ?_) (fun c_121 => ?_)
    · refine w_iconst dX7_fits_128 ?_
      refine w_zret dX7_fits_129 rfl (by omega) ?_
      refine ⟨⟨q, by rw [show σ 7 1 = i by omega]; exact g1, ?_⟩, hfr⟩
      rw [show σ 7 1 = i by omega, g2]
      first | rw [if_pos (by omega)] | rw [if_neg (by omega)]
    · refine w_iconst dX7_fits_124 ?_
      refine w_goto (tgt := 129) dX7_fits_125 (by decide) ?_
      refine w_zret dX7_fits_129 rfl (by omega) ?_
      refine ⟨⟨q, by rw [show σ 7 1 = i by omega]; exact g1, ?_⟩, hfr⟩
      rw [show σ 7 1 = i by omega, g2]
      first | rw [if_pos (by omega)] | rw [if_neg (by omega)]
  · have hsi := hI.sh i h0 (by omega)
    have KEY56 : ∀ lim : Int, 0 ≤ lim → lim ≤ 200 → (lim = if σ 58 i ≤ kd then σ 57 i else 0) → Wp mX7_fits 2 (fun z τ => (∃ q, IsFill (σ 57) (σ 58) (spM σ y) kd (σ 7 1) (σ 7 6) q ∧ z = if q (σ 7 1) = σ 7 6 then 1 else 0) ∧ frM σ τ) 56 [some (.inr 7), some (.inl y), some (.inl sp), some (.inl f), some (.inl i), some (.inl lim)] [] υ := by
      intro lim hl0 hl1 hlim
      refine up_to (σ 7 6) (fun b => 0 ≤ b → f ≤ b → ∀ a, (a = lim - sumF (spM σ y) f (b - f) ∧ 0 ≤ a ∧ a ≤ 200) → Wp mX7_fits 2 (fun z τ => (∃ q, IsFill (σ 57) (σ 58) (spM σ y) kd (σ 7 1) (σ 7 6) q ∧ z = if q (σ 7 1) = σ 7 6 then 1 else 0) ∧ frM σ τ) 56 [some (.inr 7), some (.inl y), some (.inl sp), some (.inl b), some (.inl i), some (.inl a)] [] υ) (fun b hi2 ih2 h02 hfb a hinv2 => ?_) f (by omega) (by omega) (by omega) lim ⟨by rw [Int.sub_self, sumF_0]; omega, by omega, by omega⟩
      refine w_iload_n dX7_fits_56 rfl ?_
      refine w_aload_n dX7_fits_57 rfl ?_
      refine gf_X7_81 rfl dX7_fits_58 ?_
      refine w_icmp_ge (tgt := 110) dX7_fits_61 (by decide) (by omega) (by omega) (fun c_61 => ?_) (fun c_61 => ?_)
      · refine w_iinc dX7_fits_110 (Nat.le_of_ble_eq_true rfl) rfl ?_
        refine w_goto (tgt := 9) dX7_fits_113 (by decide) ?_
        refine ih (by omega) (by omega) _ _ ⟨upF q (i + 1) b, ⟨by unfold upF; rw [if_neg (by omega)]; exact g1.1, fun s s0 s1 => ?_⟩, by unfold upF; rw [if_pos rfl]⟩
        unfold upF
        by_cases e : s = i
        · subst e
          rw [if_neg (by omega), if_pos rfl, g2]
          have hday : IsDay (spM σ y) f (σ 7 6) lim (b - f) := by
            refine ⟨by omega, by omega, by omega, ?_⟩
            rw [sumF_s _ _ (by omega), show f + (b - f) = b by omega]
            omega
          refine ⟨fun hk => ?_, fun hk => ?_⟩
          · rw [if_pos hk] at hlim; rw [hlim] at hday; exact hday
          · rw [if_neg (by omega)] at hlim
            have hd3 := hday.2.2.1
            rw [hlim] at hd3
            by_cases z0 : b - f = 0
            · omega
            · have hmo := sumF_mono (w := spM σ y) (f := f) (n := σ 7 6) (fun k k1 k2 => by have := hI.sp hyy (b := k) (by omega) k2; omega) (a := 0 + 1) (b := b - f) (by omega) (by omega) (by omega)
              rw [sumF_s _ _ (by omega), sumF_0, Int.add_zero] at hmo
              have := hI.sp hyy (b := f) (by omega) (by omega)
              omega
        · rw [if_neg (by omega), if_neg (by omega)]
          exact g1.2 s s0 (by omega)
      · have hs1 := hI.sp hyy h02 (by omega)
        have hs2 : υ 61 b + y * υ 65 b = spM σ y b := by rw [e61, f1 b h02 (by omega)]; rfl
        refine w_aload_n dX7_fits_64 rfl ?_
        refine gf_X7_22 rfl dX7_fits_65 ?_
        refine w_iload_n dX7_fits_68 rfl ?_
        refine w_iald rfl (by omega) dX7_fits_69 ?_
        refine w_iload_n dX7_fits_70 rfl ?_
        refine w_aload_n dX7_fits_71 rfl ?_
        refine gf_X7_38 rfl dX7_fits_72 ?_
        refine w_iload_n dX7_fits_75 rfl ?_
        refine w_iald rfl (by omega) dX7_fits_76 ?_
        refine w_imul dX7_fits_77 ?_
        refine w_iadd dX7_fits_78 ?_
        rw [hs2]
        refine w_iload dX7_fits_79 rfl ?_
        refine w_icmp_gt (tgt := 110) dX7_fits_81 (by decide) (by omega) (by omega) (fun c_81 => ?_) (fun c_81 => ?_)
        · refine w_iinc dX7_fits_110 (Nat.le_of_ble_eq_true rfl) rfl ?_
          refine w_goto (tgt := 9) dX7_fits_113 (by decide) ?_
          refine ih (by omega) (by omega) _ _ ⟨upF q (i + 1) b, ⟨by unfold upF; rw [if_neg (by omega)]; exact g1.1, fun s s0 s1 => ?_⟩, by unfold upF; rw [if_pos rfl]⟩
          unfold upF
          by_cases e : s = i
          · subst e
            rw [if_neg (by omega), if_pos rfl, g2]
            have hday : IsDay (spM σ y) f (σ 7 6) lim (b - f) := by
              refine ⟨by omega, by omega, by omega, ?_⟩
              rw [sumF_s _ _ (by omega), show f + (b - f) = b by omega]
              omega
            refine ⟨fun hk => ?_, fun hk => ?_⟩
            · rw [if_pos hk] at hlim; rw [hlim] at hday; exact hday
            · rw [if_neg (by omega)] at hlim
              have hd3 := hday.2.2.1
              rw [hlim] at hd3
              by_cases z0 : b - f = 0
              · omega
              · have hmo := sumF_mono (w := spM σ y) (f := f) (n := σ 7 6) (fun k k1 k2 => by have := hI.sp hyy (b := k) (by omega) k2; omega) (a := 0 + 1) (b := b - f) (by omega) (by omega) (by omega)
                rw [sumF_s _ _ (by omega), sumF_0, Int.add_zero] at hmo
                have := hI.sp hyy (b := f) (by omega) (by omega)
                omega
          · rw [if_neg (by omega), if_neg (by omega)]
            exact g1.2 s s0 (by omega)
        · refine w_iload dX7_fits_84 rfl ?_
          refine w_aload_n dX7_fits_86 rfl ?_
          refine gf_X7_22 rfl dX7_fits_87 ?_
          refine w_iload_n dX7_fits_90 rfl ?_
          refine w_iald rfl (by omega) dX7_fits_91 ?_
          refine w_iload_n dX7_fits_92 rfl ?_
          refine w_aload_n dX7_fits_93 rfl ?_
          refine gf_X7_38 rfl dX7_fits_94 ?_
          refine w_iload_n dX7_fits_97 rfl ?_
          refine w_iald rfl (by omega) dX7_fits_98 ?_
          refine w_imul dX7_fits_99 ?_
          refine w_iadd dX7_fits_100 ?_
          rw [hs2]
          refine w_isub dX7_fits_101 ?_
          refine w_istore dX7_fits_102 (Nat.le_of_ble_eq_true rfl) ?_
          refine w_iinc dX7_fits_104 (Nat.le_of_ble_eq_true rfl) rfl ?_
          refine w_goto (tgt := 56) dX7_fits_107 (by decide) ?_
          refine ih2 (by omega) (by omega) (by omega) _ ⟨?_, by omega, by omega⟩
          rw [show b + 1 - f = (b - f) + 1 by omega, sumF_s _ _ (by omega), show f + (b - f) = b by omega]; omega
    refine w_aload_n dX7_fits_18 rfl ?_
    refine gf_X7_13 rfl dX7_fits_19 ?_
    refine w_iload dX7_fits_22 rfl ?_
    refine w_iald rfl (by omega) dX7_fits_24 ?_
    refine w_if_eq (tgt := 43) dX7_fits_25 (by decide) (hR2 _ _) (fun c_25 => ?_) (fun c_25 => ?_)
    · refine w_aload_n dX7_fits_43 rfl ?_
      refine gf_X7_7 rfl dX7_fits_44 ?_
      refine w_iload dX7_fits_47 rfl ?_
      refine w_iald rfl (by omega) dX7_fits_49 ?_
      refine w_goto (tgt := 54) dX7_fits_50 (by decide) ?_
      refine w_istore dX7_fits_54 (Nat.le_of_ble_eq_true rfl) ?_
      rw [e58] at *
      first
      | (rw [e57]
         refine KEY56 _ (by omega) (by omega) ?_
         rw [if_pos (by omega)])
      | (refine KEY56 _ (by omega) (by omega) ?_
         rw [if_neg (by omega)])
    · refine w_iload_n dX7_fits_28 rfl ?_
      refine w_if_eq (tgt := 53) dX7_fits_29 (by decide) hsp (fun c_29 => ?_) (fun c_29 => ?_)
      · refine w_iconst dX7_fits_53 ?_
        refine w_istore dX7_fits_54 (Nat.le_of_ble_eq_true rfl) ?_
        rw [e58] at *
        first
        | (rw [e57]
           refine KEY56 _ (by omega) (by omega) ?_
           rw [if_pos (by omega)])
        | (refine KEY56 _ (by omega) (by omega) ?_
           rw [if_neg (by omega)])
      · refine w_aload_n dX7_fits_32 rfl ?_
        refine gf_X7_13 rfl dX7_fits_33 ?_
        refine w_iload dX7_fits_36 rfl ?_
        refine w_iald rfl (by omega) dX7_fits_38 ?_
        refine w_iconst dX7_fits_39 ?_
        refine w_icmp_ne (tgt := 53) dX7_fits_40 (by decide) (hR2 _ _) (by omega) (fun c_40 => ?_) (fun c_40 => ?_)
        · refine w_iconst dX7_fits_53 ?_
          refine w_istore dX7_fits_54 (Nat.le_of_ble_eq_true rfl) ?_
          rw [e58] at *
          first
          | (rw [e57]
             refine KEY56 _ (by omega) (by omega) ?_
             rw [if_pos (by omega)])
          | (refine KEY56 _ (by omega) (by omega) ?_
             rw [if_neg (by omega)])
        · refine w_aload_n dX7_fits_43 rfl ?_
          refine gf_X7_7 rfl dX7_fits_44 ?_
          refine w_iload dX7_fits_47 rfl ?_
          refine w_iald rfl (by omega) dX7_fits_49 ?_
          refine w_goto (tgt := 54) dX7_fits_50 (by decide) ?_
          refine w_istore dX7_fits_54 (Nat.le_of_ble_eq_true rfl) ?_
          rw [e58] at *
          first
          | (rw [e57]
             refine KEY56 _ (by omega) (by omega) ?_
             rw [if_pos (by omega)])
          | (refine KEY56 _ (by omega) (by omega) ?_
             rw [if_neg (by omega)])

def FitM (σ : St) (kd y : Int) : Prop := ∃ q, IsFill (σ 57) (σ 58) (spM σ y) kd (σ 7 1) (σ 7 6) q ∧ q (σ 7 1) = σ 7 6
theorem cm_fit (σ τ : St) (y sp kd : Int) (hI : InvW σ) (hf : frM σ τ) (hyy : 0 ≤ y ∧ y ≤ 999) (hsp : InR sp) (hkd : (sp = 0 ∧ kd = 0) ∨ (sp ≠ 0 ∧ kd = 1)) : Wp mX7_fits 2 (fun z υ => ((z = 1 ∧ FitM σ kd y) ∨ (z = 0 ∧ ¬ FitM σ kd y)) ∧ frM σ υ) 0 [some (.inr 7), some (.inl y), some (.inl sp), none, none, none] [] τ := by
  refine Wp.mono (cm_fits τ y sp kd (hI.fr hf) hyy hsp hkd) (fun z υ h => ?_)
  obtain ⟨⟨q, h1, h2⟩, h3⟩ := h
  rw [hf.1 57 (by decide) (by omega), hf.1 58 (by decide) (by omega), hf.sp, hf.2 1 (by decide), hf.2 6 (by decide)] at h1
  rw [hf.2 1 (by decide), hf.2 6 (by decide)] at h2
  refine ⟨?_, hf.trans h3⟩
  by_cases e : q (σ 7 1) = σ 7 6
  · rw [if_pos e] at h2
    exact Or.inl ⟨h2, q, h1, e⟩
  · rw [if_neg e] at h2
    refine Or.inr ⟨h2, fun ⟨q2, k1, k2⟩ => e ?_⟩
    have := IsFill.uniq hI.nb.1 (fun s _ _ => ⟨rfl, rfl⟩) (fun b b0 b1 => ⟨rfl, by have := hI.sp hyy b0 b1; omega⟩) h1 k1 (σ 7 1) hI.ns.1 (Int.le_refl _)
    omega

set_option maxRecDepth 100000 in
set_option maxHeartbeats 4000000 in
theorem cm_best (σ : St) (op kd : Int) (hI : InvW σ) (ho : InR op) (hkd : (op = 0 ∧ kd = 1) ∨ (op ≠ 0 ∧ kd = 0)) : Wp mX7_best 3 (fun z τ => ((z = -1 ∧ ∀ y, 0 ≤ y → y ≤ 999 → ¬ FitM σ kd y) ∨ (0 ≤ z ∧ z ≤ 999 ∧ FitM σ kd z ∧ ∀ y, z < y → y ≤ 999 → ¬ FitM σ kd y)) ∧ frM σ τ) 0 [some (.inr 7), some (.inl op), none] [] σ := by
  refine Wp.rg (fun hR => ?_)
  refine w_aload_n dX7_best_0 rfl ?_
  refine w_iconst dX7_best_1 ?_
  refine pf_X7_68 rfl (by omega) dX7_best_2 ?_
  refine w_sipush dX7_best_5 (by decide) ?_
  refine w_istore_n dX7_best_8 (Nat.le_of_ble_eq_true rfl) ?_
  refine down_to (-1) (fun i => i ≤ 999 → ∀ (τ : St), ((∀ y, i < y → y ≤ 999 → ¬ FitM σ kd y) ∧ frM σ τ) → Wp mX7_best 3 (fun z τ => ((z = -1 ∧ ∀ y, 0 ≤ y → y ≤ 999 → ¬ FitM σ kd y) ∨ (0 ≤ z ∧ z ≤ 999 ∧ FitM σ kd z ∧ ∀ y, z < y → y ≤ 999 → ¬ FitM σ kd y)) ∧ frM σ τ) 9 [some (.inr 7), some (.inl op), some (.inl i)] [] τ) (fun i hi ih h0 τ hinv => ?_) (999) (by omega) (by omega) _ ⟨fun y y0 y1 => by omega, frM.raised σ 0⟩
  obtain ⟨hq, hfr⟩ := hinv
  refine w_iload_n dX7_best_9 rfl ?_
  refine w_if_lt (tgt := 36) dX7_best_10 (by decide) (by omega) (fun c_10 => ?_) (fun c_10 => ?_)
  · refine w_iload_n dX7_best_36 rfl ?_
    refine w_iret dX7_best_37 rfl ?_
    first
    | exact ⟨Or.inl ⟨by omega, fun y y0 y1 => hq y (by omega) y1⟩, hfr⟩
    | (rcases hr with hr | hr
       · exact ⟨Or.inr ⟨by omega, by omega, hr.2, hq⟩, hfr2⟩
       · exact absurd c_27 (by omega))
  · refine w_aload_n dX7_best_13 rfl ?_
    refine w_iload_n dX7_best_14 rfl ?_
    refine w_iload_n dX7_best_15 rfl ?_
    refine w_if_ne (tgt := 23) dX7_best_16 (by decide) ho (fun c_16 => ?_) (fun c_16 => ?_)
    · refine w_iconst dX7_best_23 ?_
      refine cv_X7_127 rfl dX7_best_24 (Nat.le_of_ble_eq_true rfl) (Nat.le_of_ble_eq_true rfl) (Wp.mono (cm_fit σ τ i _ kd hI hfr (by omega) (by omega) (by omega)) (fun z_ τ_ hq_ => ?_))
      obtain ⟨hr, hfr2⟩ := hq_
      have hz01 : z_ = 0 ∨ z_ = 1 := by
        rcases hr with hr | hr
        · exact Or.inr hr.1
        · exact Or.inl hr.1
      refine w_if_ne (tgt := 36) dX7_best_27 (by decide) (by omega) (fun c_27 => ?_) (fun c_27 => ?_)
      · refine w_iload_n dX7_best_36 rfl ?_
        refine w_iret dX7_best_37 rfl ?_
        first
        | exact ⟨Or.inl ⟨by omega, fun y y0 y1 => hq y (by omega) y1⟩, hfr⟩
        | (rcases hr with hr | hr
           · exact ⟨Or.inr ⟨by omega, by omega, hr.2, hq⟩, hfr2⟩
           · exact absurd c_27 (by omega))
      · refine w_iinc dX7_best_30 (Nat.le_of_ble_eq_true rfl) rfl ?_
        refine w_goto (tgt := 9) dX7_best_33 (by decide) ?_
        rcases hr with hr | hr
        · exact absurd c_27 (by omega)
        · refine ih (by omega) (by omega) _ ⟨fun y y0 y1 => ?_, hfr2⟩
          by_cases e : y = i
          · subst e
            exact hr.2
          · exact hq y (by omega) y1
    · refine w_iconst dX7_best_19 ?_
      refine w_goto (tgt := 24) dX7_best_20 (by decide) ?_
      refine cv_X7_127 rfl dX7_best_24 (Nat.le_of_ble_eq_true rfl) (Nat.le_of_ble_eq_true rfl) (Wp.mono (cm_fit σ τ i _ kd hI hfr (by omega) (by omega) (by omega)) (fun z_ τ_ hq_ => ?_))
      obtain ⟨hr, hfr2⟩ := hq_
      have hz01 : z_ = 0 ∨ z_ = 1 := by
        rcases hr with hr | hr
        · exact Or.inr hr.1
        · exact Or.inl hr.1
      refine w_if_ne (tgt := 36) dX7_best_27 (by decide) (by omega) (fun c_27 => ?_) (fun c_27 => ?_)
      · refine w_iload_n dX7_best_36 rfl ?_
        refine w_iret dX7_best_37 rfl ?_
        first
        | exact ⟨Or.inl ⟨by omega, fun y y0 y1 => hq y (by omega) y1⟩, hfr⟩
        | (rcases hr with hr | hr
           · exact ⟨Or.inr ⟨by omega, by omega, hr.2, hq⟩, hfr2⟩
           · exact absurd c_27 (by omega))
      · refine w_iinc dX7_best_30 (Nat.le_of_ble_eq_true rfl) rfl ?_
        refine w_goto (tgt := 9) dX7_best_33 (by decide) ?_
        rcases hr with hr | hr
        · exact absurd c_27 (by omega)
        · refine ih (by omega) (by omega) _ ⟨fun y y0 y1 => ?_, hfr2⟩
          by_cases e : y = i
          · subst e
            exact hr.2
          · exact hq y (by omega) y1

