theorem InvC.fr {σ τ : St} (h : InvC σ) (f : frC σ τ) : InvC τ := by
  have e0 := f 0 (by decide) (by omega)
  have e2 := f 2 (by decide) (by omega)
  have e3 := f 3 (by decide) (by omega)
  have e4 := f 4 (by decide) (by omega)
  have e5 := f 5 (by decide) (by omega)
  have e6 := f 6 (by decide) (by omega)
  have e8 := f 8 (by decide) (by omega)
  have e9 := f 9 (by decide) (by omega)
  have e10 := f 10 (by decide) (by omega)
  have e11 := f 11 (by decide) (by omega)
  have e48 := f 48 (by decide) (by omega)
  have e49 := f 49 (by decide) (by omega)
  have e51 := f 51 (by decide) (by omega)
  have e52 := f 52 (by decide) (by omega)
  have e54 := f 54 (by decide) (by omega)
  have e55 := f 55 (by decide) (by omega)
  have e56 := f 56 (by decide) (by omega)
  unfold InvC
  rw [e0, e2, e4, e5, e6, e8, e9, e10, e11, e48, e51, e52, e54, e55, e56]
  obtain ⟨a1, a2, a3, a4, a5, a6, a7, a8, a9, es, he⟩ := h
  exact ⟨a1, a2, a3, a4, a5, a6, a7, a8, a9, es, he.keep e3 e49⟩
def lsF (len shf wid nd : Int → Int) (n ns : Int) : Int := foI (fun s a => if 0 < cntW shf s n then (if yrF len shf wid nd s n < a then yrF len shf wid nd s n else a) else a) 999 ns
theorem InvC.yr {σ : St} (hI : InvC σ) {s : Int} (hs : 0 ≤ s ∧ s < σ 5 2) : -1000000 ≤ yrF (σ 55) (σ 11) (σ 9) (σ 10) s (σ 0 6) ∧ yrF (σ 55) (σ 11) (σ 9) (σ 10) s (σ 0 6) ≤ 999 := by
  have hsb := hI.sh s hs.1 hs.2
  have hnb := hI.nb
  have hw := sumW_bd (σ 11) (σ 9) s (σ 0 6) 0 40 (by omega) (by omega) (fun b b0 b1 _ => by have := hI.bk b b0 b1; omega) (σ 0 6) hnb.1 (by omega)
  unfold yrF
  by_cases q : 0 < sumW (σ 11) (σ 10) s (σ 0 6)
  · rw [if_pos q]
    have := tdiv_bd q (a := σ 55 s - sumW (σ 11) (σ 9) s (σ 0 6)) (by omega)
    split <;> omega
  · rw [if_neg q]; omega
theorem cntW_bd (row : Int → Int) (v : Int) : ∀ k : Nat, 0 ≤ cntW row v k ∧ cntW row v k ≤ k := by
  intro k
  induction k with
  | zero => exact ⟨Int.le_refl 0, Int.le_refl 0⟩
  | succ k ih =>
    have e : cntW row v ((k + 1 : Nat) : Int) = if row k = v then cntW row v k + 1 else cntW row v k := by
      rw [show ((k + 1 : Nat) : Int) = (k : Int) + 1 by omega]
      exact foI_s _ _ (by omega)
    rw [e]
    split <;> omega

set_option maxRecDepth 100000 in
set_option maxHeartbeats 4000000 in
theorem ct_X6_lasts (σ : St) (hI : InvC σ) : Wp mX6_lasts 4 (fun z τ => z = lsF (σ 55) (σ 11) (σ 9) (σ 10) (σ 0 6) (σ 5 2) ∧ τ = σ) 0 [some (.inr 6), none, none] [] σ := by
  refine Wp.rg (fun hR => ?_)
  refine w_sipush dX6_lasts_0 (by decide) ?_
  refine w_istore_n dX6_lasts_3 (Nat.le_of_ble_eq_true rfl) ?_
  refine w_iconst dX6_lasts_4 ?_
  refine w_istore_n dX6_lasts_5 (Nat.le_of_ble_eq_true rfl) ?_
  refine up_to (σ 5 2) (fun i => 0 ≤ i → ∀ a, (a = lsF (σ 55) (σ 11) (σ 9) (σ 10) (σ 0 6) i ∧ -1000000 ≤ a ∧ a ≤ 999) → Wp mX6_lasts 4 (fun z τ => z = lsF (σ 55) (σ 11) (σ 9) (σ 10) (σ 0 6) (σ 5 2) ∧ τ = σ) 6 [some (.inr 6), some (.inl a), some (.inl i)] [] σ) (fun i hi ih h0 a hinv => ?_) (0) (by have := hI.ns; omega) (by omega) 999 ⟨rfl, by omega, by omega⟩
  refine w_iload_n dX6_lasts_6 rfl ?_
  refine w_aload_n dX6_lasts_7 rfl ?_
  refine gf_X6_10 rfl dX6_lasts_8 ?_
  refine gf_X6_59 rfl dX6_lasts_11 ?_
  refine w_icmp_ge (tgt := 44) dX6_lasts_14 (by decide) (by have := hI.ns; omega) (by have := hI.ns; omega) (fun c_14 => ?_) (fun c_14 => ?_)
  · refine w_iload_n dX6_lasts_44 rfl ?_
    refine w_iret dX6_lasts_45 rfl ?_
    exact ⟨by rw [hinv.1, show i = σ 5 2 by omega], rfl⟩
  · have hns := hI.ns
    have hnb := hI.nb
    have hcb := cntW_bd (σ 11) i (σ 0 6).toNat
    rw [show (((σ 0 6).toNat : Nat) : Int) = σ 0 6 by omega] at hcb
    have hyr := hI.yr ⟨h0, c_14⟩
    refine w_aload_n dX6_lasts_17 rfl ?_
    refine gf_X6_26 rfl dX6_lasts_18 ?_
    refine w_iload_n dX6_lasts_21 rfl ?_
    refine cv_X6_186 rfl dX6_lasts_22 (Nat.le_of_ble_eq_true rfl) (Nat.le_of_ble_eq_true rfl) (Wp.mono (ct_X0_countOn σ i hI.nb (by omega)) (fun z_ τ_ hq_ => ?_))
    obtain ⟨hz_, hs_⟩ := hq_
    subst z_
    subst τ_
    refine w_if_le (tgt := 38) dX6_lasts_25 (by decide) (by omega) (fun c_25 => ?_) (fun c_25 => ?_)
    · refine w_iinc dX6_lasts_38 (Nat.le_of_ble_eq_true rfl) rfl ?_
      refine w_goto (tgt := 6) dX6_lasts_41 (by decide) ?_
      first
      | (refine ih (by omega) (by omega) _ ⟨?_, by split <;> omega, by split <;> omega⟩
         have hinv := hinv.1
         unfold lsF at hinv ⊢
         rw [foI_s _ _ h0, ← hinv, if_pos c_25])
      | (refine ih (by omega) (by omega) _ ⟨?_, by omega, by omega⟩
         have hinv := hinv.1
         unfold lsF at hinv ⊢
         rw [foI_s _ _ h0, ← hinv, if_neg (by omega)])
    · refine w_iload_n dX6_lasts_28 rfl ?_
      refine w_aload_n dX6_lasts_29 rfl ?_
      refine w_iload_n dX6_lasts_30 rfl ?_
      refine cv_X6_180 rfl dX6_lasts_31 (Nat.le_of_ble_eq_true rfl) (Nat.le_of_ble_eq_true rfl) (Wp.mono (ct_X6_yearsOn σ i hI (by omega)) (fun z_ τ_ hq_ => ?_))
      obtain ⟨hz_, hs_⟩ := hq_
      subst z_
      subst τ_
      refine w_min dX6_lasts_34 tw_496 tw_413 tw_69 tw_414 (Nat.le_of_ble_eq_true rfl) (Nat.le_of_ble_eq_true rfl) (by omega) (by omega) ?_
      refine w_istore_n dX6_lasts_37 (Nat.le_of_ble_eq_true rfl) ?_
      refine w_iinc dX6_lasts_38 (Nat.le_of_ble_eq_true rfl) rfl ?_
      refine w_goto (tgt := 6) dX6_lasts_41 (by decide) ?_
      first
      | (refine ih (by omega) (by omega) _ ⟨?_, by split <;> omega, by split <;> omega⟩
         have hinv := hinv.1
         unfold lsF at hinv ⊢
         rw [foI_s _ _ h0, ← hinv, if_pos c_25])
      | (refine ih (by omega) (by omega) _ ⟨?_, by omega, by omega⟩
         have hinv := hinv.1
         unfold lsF at hinv ⊢
         rw [foI_s _ _ h0, ← hinv, if_neg (by omega)])

set_option maxRecDepth 100000 in
set_option maxHeartbeats 4000000 in
theorem ct_X6_tight (σ : St) (hI : InvC σ) : Wp mX6_tight 2 (fun z τ => (∃ q, IsFill (σ 55) (σ 56) (σ 9) 0 (σ 5 2) (σ 0 6) q ∧ ((∃ f, q (σ 5 2) = σ 0 6 ∧ 0 ≤ f ∧ f ≤ σ 5 2 ∧ q f = σ 0 6 ∧ (∀ s, 0 ≤ s → s < f → q s < σ 0 6) ∧ z = if 0 < f then f - 1 else -1) ∨ (q (σ 5 2) < σ 0 6 ∧ z = -1))) ∧ frC σ τ) 0 [some (.inr 6), none] [] σ := by
  refine Wp.rg (fun hR => ?_)
  refine w_aload_n dX6_tight_0 rfl ?_
  refine gf_X6_33 rfl dX6_tight_1 ?_
  refine w_aload_n dX6_tight_4 rfl ?_
  refine gf_X6_10 rfl dX6_tight_5 ?_
  refine w_aload_n dX6_tight_8 rfl ?_
  refine gf_X6_26 rfl dX6_tight_9 ?_
  refine w_iconst dX6_tight_12 ?_
  refine cv_X6_95 rfl dX6_tight_13 (Nat.le_of_ble_eq_true rfl) (Nat.le_of_ble_eq_true rfl) (Wp.mono (ct_X1_load σ 0 hI.ns hI.nb (by omega) (fun b b0 b1 => by have := hI.bk b b0 b1; omega) (fun b b0 b1 => by have := hI.bk b b0 b1; omega)) (fun z_ τ_ hq_ => ?_))
  obtain ⟨f1, f2, f3, f4, f5, f6⟩ := hq_
  refine w_aload_n dX6_tight_16 rfl ?_
  refine gf_X6_33 rfl dX6_tight_17 ?_
  refine w_iconst dX6_tight_20 ?_
  refine cv_X6_235 rfl dX6_tight_21 (Nat.le_of_ble_eq_true rfl) (Nat.le_of_ble_eq_true rfl) (Wp.mono (ct_X1_shelvesFilled _ 0 (by omega) (by rw [f1]; exact hI.ns) (by rw [f2]; exact hI.nb) (fun s s0 s1 => by rw [f1] at s1; rw [(f4 s s0 s1).1]; have := hI.sh s s0 s1; omega) (fun b b0 b1 => by rw [f2] at b1; rw [(f5 b b0 b1).2.1, Int.zero_mul]; have := hI.bk b b0 b1; omega)) (fun z_ τ_ hq_ => ?_))
  obtain ⟨⟨q, g1, g2⟩, hs_⟩ := hq_
  subst τ_
  rw [f1, f2] at g1 g2
  have hns := hI.ns
  have g3 := g1.move (len2 := σ 55) (kind2 := σ 56) (span2 := σ 9) hI.nb.1 f4 (fun b b0 b1 => by rw [(f5 b b0 b1).2.1, Int.zero_mul, Int.add_zero])
  refine w_istore_n dX6_tight_24 (Nat.le_of_ble_eq_true rfl) ?_
  refine w_iload_n dX6_tight_25 rfl ?_
  refine w_if_le (tgt := 35) dX6_tight_26 (by decide) (by omega) (fun c_26 => ?_) (fun c_26 => ?_)
  · refine w_iconst dX6_tight_35 ?_
    refine w_iret dX6_tight_36 rfl ?_
    refine ⟨⟨q, g3, ?_⟩, fun k k1 k2 => f6 k k1 (by omega) (by omega) (by omega) (by omega) (by omega)⟩
    rcases g2 with ⟨a1, a2, a3, a4, a5⟩ | ⟨a1, a2⟩
    · refine Or.inl ⟨_, a1, a2, a3, a4, a5, ?_⟩
      first | rw [if_pos c_26] | rw [if_neg (Int.not_lt.mpr c_26)]
    · exact Or.inr ⟨a1, by omega⟩
  · refine w_iload_n dX6_tight_29 rfl ?_
    refine w_iconst dX6_tight_30 ?_
    refine w_isub dX6_tight_31 ?_
    refine w_goto (tgt := 36) dX6_tight_32 (by decide) ?_
    refine w_iret dX6_tight_36 rfl ?_
    refine ⟨⟨q, g3, ?_⟩, fun k k1 k2 => f6 k k1 (by omega) (by omega) (by omega) (by omega) (by omega)⟩
    rcases g2 with ⟨a1, a2, a3, a4, a5⟩ | ⟨a1, a2⟩
    · refine Or.inl ⟨_, a1, a2, a3, a4, a5, ?_⟩
      first | rw [if_pos c_26] | rw [if_neg (Int.not_lt.mpr c_26)]
    · exact Or.inr ⟨a1, by omega⟩

set_option maxRecDepth 100000 in
set_option maxHeartbeats 4000000 in
theorem ct_X6_planned (σ : St) (k w : Int) (hI : InvC σ) (hk : InR k) (hw : InR w) : Wp mX6_planned 1 (fun z τ => ((0 ≤ k ∧ k < σ 4 5) → z = (if w = 0 then σ 51 k else if w = 1 then σ 53 k else if w = 2 then σ 54 k else if w = 3 then (if σ 53 k < σ 54 k then 1 else 2) else if w = 4 then (dyF (σ 52) 0 (σ 6 6) (k + 1 - 0)).1 - 1 else if w = 5 then trF (σ 53) (σ 54) 0 (k + 1 - 0) - 1 else if w = 6 then cntW (σ 53) (σ 54 k) k else -1) ∧ τ = σ) ∧ (¬ (0 ≤ k ∧ k < σ 4 5) → z = -1 ∧ τ = σ)) 0 [some (.inr 6), some (.inl k), some (.inl w)] [] σ := by
  refine Wp.rg (fun hR => ?_)
  refine w_iload_n dX6_planned_0 rfl ?_
  refine w_if_lt (tgt := 15) dX6_planned_1 (by decide) (by omega) (fun c_1 => ?_) (fun c_1 => ?_)
  · refine w_iconst dX6_planned_15 ?_
    refine w_iret dX6_planned_16 rfl ?_
    exact ⟨fun ok => absurd ok (by omega), fun _ => ⟨rfl, rfl⟩⟩
  · refine w_iload_n dX6_planned_4 rfl ?_
    refine w_aload_n dX6_planned_5 rfl ?_
    refine gf_X6_40 rfl dX6_planned_6 ?_
    refine gf_X6_145 rfl dX6_planned_9 ?_
    refine w_icmp_lt (tgt := 17) dX6_planned_12 (by decide) hk (hR _ _) (fun c_12 => ?_) (fun c_12 => ?_)
    · refine w_iload_n dX6_planned_17 rfl ?_
      have hpl := hI.pl
      by_cases hsw : w < 0 ∨ 6 < w
      · refine w_tswO (tgt := 140) dX6_planned_18 hw hsw (by decide) ?_
        refine w_iconst dX6_planned_140 ?_
        refine w_iret dX6_planned_141 rfl ?_
        refine ⟨fun _ => ⟨?_, rfl⟩, fun nok => absurd nok (by omega)⟩
        rw [if_neg (by omega), if_neg (by omega), if_neg (by omega), if_neg (by omega), if_neg (by omega), if_neg (by omega), if_neg (by omega)]
      · rcases (show w = 0 ∨ w = 1 ∨ w = 2 ∨ w = 3 ∨ w = 4 ∨ w = 5 ∨ w = 6 by omega) with rfl | rfl | rfl | rfl | rfl | rfl | rfl
        · refine w_tswI (off := 42) (tgt := 60) dX6_planned_18 (by omega) (by omega) (by omega) (by decide) (by decide) ?_
          refine w_aload_n dX6_planned_60 rfl ?_
          refine gf_X6_40 rfl dX6_planned_61 ?_
          refine gf_X6_248 rfl dX6_planned_64 ?_
          refine w_iload_n dX6_planned_67 rfl ?_
          refine w_iald rfl (by omega) dX6_planned_68 ?_
          refine w_iret dX6_planned_69 rfl ?_
          exact ⟨fun _ => ⟨by simp, rfl⟩, fun nok => absurd nok (by omega)⟩
        · refine w_tswI (off := 52) (tgt := 70) dX6_planned_18 (by omega) (by omega) (by omega) (by decide) (by decide) ?_
          refine w_aload_n dX6_planned_70 rfl ?_
          refine gf_X6_40 rfl dX6_planned_71 ?_
          refine gf_X6_251 rfl dX6_planned_74 ?_
          refine w_iload_n dX6_planned_77 rfl ?_
          refine w_iald rfl (by omega) dX6_planned_78 ?_
          refine w_iret dX6_planned_79 rfl ?_
          exact ⟨fun _ => ⟨by simp, rfl⟩, fun nok => absurd nok (by omega)⟩
        · refine w_tswI (off := 62) (tgt := 80) dX6_planned_18 (by omega) (by omega) (by omega) (by decide) (by decide) ?_
          refine w_aload_n dX6_planned_80 rfl ?_
          refine gf_X6_40 rfl dX6_planned_81 ?_
          refine gf_X6_254 rfl dX6_planned_84 ?_
          refine w_iload_n dX6_planned_87 rfl ?_
          refine w_iald rfl (by omega) dX6_planned_88 ?_
          refine w_iret dX6_planned_89 rfl ?_
          exact ⟨fun _ => ⟨by simp, rfl⟩, fun nok => absurd nok (by omega)⟩
        · refine w_tswI (off := 72) (tgt := 90) dX6_planned_18 (by omega) (by omega) (by omega) (by decide) (by decide) ?_
          refine w_aload_n dX6_planned_90 rfl ?_
          refine gf_X6_40 rfl dX6_planned_91 ?_
          refine w_iload_n dX6_planned_94 rfl ?_
          refine cv_X6_257 rfl dX6_planned_95 (Nat.le_of_ble_eq_true rfl) (Nat.le_of_ble_eq_true rfl) (Wp.mono (ct_X4_direction σ k (by omega)) (fun z_ τ_ hq_ => ?_))
          obtain ⟨hz_, hs_⟩ := hq_
          subst z_
          subst τ_
          refine w_iret dX6_planned_98 rfl ?_
          exact ⟨fun _ => ⟨by simp, rfl⟩, fun nok => absurd nok (by omega)⟩
        · refine w_tswI (off := 81) (tgt := 99) dX6_planned_18 (by omega) (by omega) (by omega) (by decide) (by decide) ?_
          refine w_aload_n dX6_planned_99 rfl ?_
          refine gf_X6_40 rfl dX6_planned_100 ?_
          refine w_iconst dX6_planned_103 ?_
          refine w_iload_n dX6_planned_104 rfl ?_
          refine w_iconst dX6_planned_105 ?_
          refine w_iadd dX6_planned_106 ?_
          refine w_aload_n dX6_planned_107 rfl ?_
          refine gf_X6_51 rfl dX6_planned_108 ?_
          refine cv_X6_260 rfl dX6_planned_111 (Nat.le_of_ble_eq_true rfl) (Nat.le_of_ble_eq_true rfl) (Wp.mono (ct_X4_days σ 0 (k + 1) (σ 6 6) (by omega) (fun j j0 j1 => hI.pw j j0 (by omega)) (hR _ _)) (fun z_ τ_ hq_ => ?_))
          obtain ⟨hz_, hs_⟩ := hq_
          subst z_
          subst τ_
          refine w_iconst dX6_planned_114 ?_
          refine w_isub dX6_planned_115 ?_
          refine w_iret dX6_planned_116 rfl ?_
          exact ⟨fun _ => ⟨by simp, rfl⟩, fun nok => absurd nok (by omega)⟩
        · refine w_tswI (off := 99) (tgt := 117) dX6_planned_18 (by omega) (by omega) (by omega) (by decide) (by decide) ?_
          refine w_aload_n dX6_planned_117 rfl ?_
          refine gf_X6_40 rfl dX6_planned_118 ?_
          refine w_iconst dX6_planned_121 ?_
          refine w_iload_n dX6_planned_122 rfl ?_
          refine w_iconst dX6_planned_123 ?_
          refine w_iadd dX6_planned_124 ?_
          refine cv_X6_264 rfl dX6_planned_125 (Nat.le_of_ble_eq_true rfl) (Nat.le_of_ble_eq_true rfl) (Wp.mono (ct_X4_trips σ 0 (k + 1) (by omega)) (fun z_ τ_ hq_ => ?_))
          obtain ⟨hz_, hs_⟩ := hq_
          subst z_
          subst τ_
          refine w_iconst dX6_planned_128 ?_
          refine w_isub dX6_planned_129 ?_
          refine w_iret dX6_planned_130 rfl ?_
          exact ⟨fun _ => ⟨by simp, rfl⟩, fun nok => absurd nok (by omega)⟩
        · refine w_tswI (off := 113) (tgt := 131) dX6_planned_18 (by omega) (by omega) (by omega) (by decide) (by decide) ?_
          refine w_aload_n dX6_planned_131 rfl ?_
          refine gf_X6_40 rfl dX6_planned_132 ?_
          refine w_iload_n dX6_planned_135 rfl ?_
          refine cv_X6_267 rfl dX6_planned_136 (Nat.le_of_ble_eq_true rfl) (Nat.le_of_ble_eq_true rfl) (Wp.mono (ct_X4_takenAheadOf σ k (by omega)) (fun z_ τ_ hq_ => ?_))
          obtain ⟨hz_, hs_⟩ := hq_
          subst z_
          subst τ_
          refine w_iret dX6_planned_139 rfl ?_
          exact ⟨fun _ => ⟨by simp, rfl⟩, fun nok => absurd nok (by omega)⟩
    · refine w_iconst dX6_planned_15 ?_
      refine w_iret dX6_planned_16 rfl ?_
      exact ⟨fun ok => absurd ok (by omega), fun _ => ⟨rfl, rfl⟩⟩

set_option maxRecDepth 100000 in
set_option maxHeartbeats 4000000 in
theorem ct_X6_left (σ : St) (w : Int) (hI : InvC σ) (hw : InR w) : Wp mX6_left 2 (fun z τ => (σ 4 6 < σ 4 5 → z = (if w = 0 then σ 4 5 - σ 4 6 else if w = 1 then sumF (σ 52) (σ 4 6) (σ 4 5 - σ 4 6) else if w = 2 then (dyF (σ 52) (σ 4 6) (σ 6 6) (σ 4 5 - σ 4 6)).1 else if w = 3 then trF (σ 53) (σ 54) (σ 4 6) (σ 4 5 - σ 4 6) else if w = 4 then rgF (σ 53) (σ 54) (σ 4 6) (σ 4 5 - σ 4 6) else -1) ∧ τ = σ) ∧ (¬ σ 4 6 < σ 4 5 → z = -1 ∧ τ = σ)) 0 [some (.inr 6), some (.inl w)] [] σ := by
  refine Wp.rg (fun hR => ?_)
  refine w_aload_n dX6_left_0 rfl ?_
  refine gf_X6_40 rfl dX6_left_1 ?_
  refine cv_X6_151 rfl dX6_left_4 (Nat.le_of_ble_eq_true rfl) (Nat.le_of_ble_eq_true rfl) (Wp.mono (ct_exi σ) (fun z_ τ_ hq_ => ?_))
  obtain ⟨hw4, hs_⟩ := hq_
  subst τ_
  refine w_if_ne (tgt := 12) dX6_left_7 (by decide) (by omega) (fun c_7 => ?_) (fun c_7 => ?_)
  · refine w_iload_n dX6_left_12 rfl ?_
    have hpl := hI.pl
    by_cases hsw : w < 0 ∨ 4 < w
    · refine w_tswO (tgt := 128) dX6_left_13 hw hsw (by decide) ?_
      refine w_iconst dX6_left_128 ?_
      refine w_iret dX6_left_129 rfl ?_
      refine ⟨fun _ => ⟨?_, rfl⟩, fun nok => absurd nok (by omega)⟩
      rw [if_neg (by omega), if_neg (by omega), if_neg (by omega), if_neg (by omega), if_neg (by omega)]
    · rcases (show w = 0 ∨ w = 1 ∨ w = 2 ∨ w = 3 ∨ w = 4 by omega) with rfl | rfl | rfl | rfl | rfl
      · refine w_tswI (off := 35) (tgt := 48) dX6_left_13 (by omega) (by omega) (by omega) (by decide) (by decide) ?_
        refine w_aload_n dX6_left_48 rfl ?_
        refine gf_X6_40 rfl dX6_left_49 ?_
        refine gf_X6_145 rfl dX6_left_52 ?_
        refine w_aload_n dX6_left_55 rfl ?_
        refine gf_X6_40 rfl dX6_left_56 ?_
        refine gf_X6_148 rfl dX6_left_59 ?_
        refine w_isub dX6_left_62 ?_
        refine w_iret dX6_left_63 rfl ?_
        exact ⟨fun _ => ⟨by simp, rfl⟩, fun nok => absurd nok (by omega)⟩
      · refine w_tswI (off := 51) (tgt := 64) dX6_left_13 (by omega) (by omega) (by omega) (by decide) (by decide) ?_
        refine w_aload_n dX6_left_64 rfl ?_
        refine gf_X6_40 rfl dX6_left_65 ?_
        refine cv_X6_270 rfl dX6_left_68 (Nat.le_of_ble_eq_true rfl) (Nat.le_of_ble_eq_true rfl) (Wp.mono (ct_X4_widthsLeft σ (by omega)) (fun z_ τ_ hq_ => ?_))
        obtain ⟨hz_, hs_⟩ := hq_
        subst z_
        subst τ_
        refine w_iret dX6_left_71 rfl ?_
        exact ⟨fun _ => ⟨by simp, rfl⟩, fun nok => absurd nok (by omega)⟩
      · refine w_tswI (off := 59) (tgt := 72) dX6_left_13 (by omega) (by omega) (by omega) (by decide) (by decide) ?_
        refine w_aload_n dX6_left_72 rfl ?_
        refine gf_X6_40 rfl dX6_left_73 ?_
        refine w_aload_n dX6_left_76 rfl ?_
        refine gf_X6_40 rfl dX6_left_77 ?_
        refine gf_X6_148 rfl dX6_left_80 ?_
        refine w_aload_n dX6_left_83 rfl ?_
        refine gf_X6_40 rfl dX6_left_84 ?_
        refine gf_X6_145 rfl dX6_left_87 ?_
        refine w_aload_n dX6_left_90 rfl ?_
        refine gf_X6_51 rfl dX6_left_91 ?_
        refine cv_X6_260 rfl dX6_left_94 (Nat.le_of_ble_eq_true rfl) (Nat.le_of_ble_eq_true rfl) (Wp.mono (ct_X4_days σ (σ 4 6) (σ 4 5) (σ 6 6) (by omega) (fun j j0 j1 => hI.pw j (by omega) j1) (hR _ _)) (fun z_ τ_ hq_ => ?_))
        obtain ⟨hz_, hs_⟩ := hq_
        subst z_
        subst τ_
        refine w_iret dX6_left_97 rfl ?_
        exact ⟨fun _ => ⟨by simp, rfl⟩, fun nok => absurd nok (by omega)⟩
      · refine w_tswI (off := 85) (tgt := 98) dX6_left_13 (by omega) (by omega) (by omega) (by decide) (by decide) ?_
        refine w_aload_n dX6_left_98 rfl ?_
        refine gf_X6_40 rfl dX6_left_99 ?_
        refine w_aload_n dX6_left_102 rfl ?_
        refine gf_X6_40 rfl dX6_left_103 ?_
        refine gf_X6_148 rfl dX6_left_106 ?_
        refine w_aload_n dX6_left_109 rfl ?_
        refine gf_X6_40 rfl dX6_left_110 ?_
        refine gf_X6_145 rfl dX6_left_113 ?_
        refine cv_X6_264 rfl dX6_left_116 (Nat.le_of_ble_eq_true rfl) (Nat.le_of_ble_eq_true rfl) (Wp.mono (ct_X4_trips σ (σ 4 6) (σ 4 5) (by omega)) (fun z_ τ_ hq_ => ?_))
        obtain ⟨hz_, hs_⟩ := hq_
        subst z_
        subst τ_
        refine w_iret dX6_left_119 rfl ?_
        exact ⟨fun _ => ⟨by simp, rfl⟩, fun nok => absurd nok (by omega)⟩
      · refine w_tswI (off := 107) (tgt := 120) dX6_left_13 (by omega) (by omega) (by omega) (by decide) (by decide) ?_
        refine w_aload_n dX6_left_120 rfl ?_
        refine gf_X6_40 rfl dX6_left_121 ?_
        refine cv_X6_273 rfl dX6_left_124 (Nat.le_of_ble_eq_true rfl) (Nat.le_of_ble_eq_true rfl) (Wp.mono (ct_X4_rightsLeft σ (by omega)) (fun z_ τ_ hq_ => ?_))
        obtain ⟨hz_, hs_⟩ := hq_
        subst z_
        subst τ_
        refine w_iret dX6_left_127 rfl ?_
        exact ⟨fun _ => ⟨by simp, rfl⟩, fun nok => absurd nok (by omega)⟩
  · refine w_iconst dX6_left_10 ?_
    refine w_iret dX6_left_11 rfl ?_
    exact ⟨fun ok => absurd ok (by omega), fun _ => ⟨rfl, rfl⟩⟩

set_option maxRecDepth 100000 in
set_option maxHeartbeats 4000000 in
theorem ct_X6_on (σ : St) (s w : Int) (hI : InvC σ) (hs : 0 ≤ s ∧ s < σ 5 2) (hw : 0 ≤ w ∧ w ≤ 7) : Wp mX6_on 4 (fun z τ => ((w = 0 ∧ z = σ 55 s) ∨ (w = 1 ∧ z = σ 56 s) ∨ (w = 2 ∧ z = sumW (σ 11) (σ 9) s (σ 0 6)) ∨ (w = 3 ∧ z = σ 55 s - sumW (σ 11) (σ 9) s (σ 0 6)) ∨ (w = 4 ∧ z = sumW (σ 11) (σ 10) s (σ 0 6)) ∨ (w = 5 ∧ z = yrF (σ 55) (σ 11) (σ 9) (σ 10) s (σ 0 6)) ∨ (w = 6 ∧ IsFst (σ 11) s (σ 0 6) z) ∨ (w = 7 ∧ z = cntW (σ 11) s (σ 0 6))) ∧ τ = σ) 0 [some (.inr 6), some (.inl s), some (.inl w)] [] σ := by
  refine Wp.rg (fun hR => ?_)
  refine w_aload_n dX6_on_0 rfl ?_
  refine w_iload_n dX6_on_1 rfl ?_
  refine cv_X6_69 rfl dX6_on_2 (Nat.le_of_ble_eq_true rfl) (Nat.le_of_ble_eq_true rfl) (Wp.mono (ct_hasS _ s (by have := hI.ns; omega)) (fun z_ τ_ hq_ => ?_))
  obtain ⟨hw2, hs_⟩ := hq_
  subst τ_
  refine w_if_ne (tgt := 18) dX6_on_5 (by decide) (by omega) (fun c_5 => ?_) (fun c_5 => ?_)
  · have hns := hI.ns
    have hng := hI.ng
    have hnb := hI.nb
    refine w_iload_n dX6_on_18 rfl ?_
    rcases (show w = 0 ∨ w = 1 ∨ w = 2 ∨ w = 3 ∨ w = 4 ∨ w = 5 ∨ w = 6 ∨ w = 7 by omega) with rfl | rfl | rfl | rfl | rfl | rfl | rfl | rfl
    · refine w_tswI (off := 45) (tgt := 64) dX6_on_19 (by omega) (by omega) (by omega) (by decide) (by decide) ?_
      refine w_aload_n dX6_on_64 rfl ?_
      refine gf_X6_10 rfl dX6_on_65 ?_
      refine gf_X6_168 rfl dX6_on_68 ?_
      refine w_iload_n dX6_on_71 rfl ?_
      refine w_iald rfl (by omega) dX6_on_72 ?_
      refine w_iret dX6_on_73 rfl ?_
      exact ⟨Or.inl ⟨rfl, rfl⟩, rfl⟩
    · refine w_tswI (off := 55) (tgt := 74) dX6_on_19 (by omega) (by omega) (by omega) (by decide) (by decide) ?_
      refine w_aload_n dX6_on_74 rfl ?_
      refine gf_X6_10 rfl dX6_on_75 ?_
      refine gf_X6_73 rfl dX6_on_78 ?_
      refine w_iload_n dX6_on_81 rfl ?_
      refine w_iald rfl (by omega) dX6_on_82 ?_
      refine w_iret dX6_on_83 rfl ?_
      exact ⟨Or.inr (Or.inl ⟨rfl, rfl⟩), rfl⟩
    · refine w_tswI (off := 65) (tgt := 84) dX6_on_19 (by omega) (by omega) (by omega) (by decide) (by decide) ?_
      refine w_aload_n dX6_on_84 rfl ?_
      refine gf_X6_26 rfl dX6_on_85 ?_
      refine w_iload_n dX6_on_88 rfl ?_
      refine cv_X6_171 rfl dX6_on_89 (Nat.le_of_ble_eq_true rfl) (Nat.le_of_ble_eq_true rfl) (Wp.mono (ct_X0_loadOn σ s hI.nb (by omega)) (fun z_ τ_ hq_ => ?_))
      obtain ⟨hz_, hs_⟩ := hq_
      subst z_
      subst τ_
      refine w_iret dX6_on_92 rfl ?_
      exact ⟨Or.inr (Or.inr (Or.inl ⟨rfl, rfl⟩)), rfl⟩
    · refine w_tswI (off := 74) (tgt := 93) dX6_on_19 (by omega) (by omega) (by omega) (by decide) (by decide) ?_
      refine w_aload_n dX6_on_93 rfl ?_
      refine w_iload_n dX6_on_94 rfl ?_
      refine cv_X6_174 rfl dX6_on_95 (Nat.le_of_ble_eq_true rfl) (Nat.le_of_ble_eq_true rfl) (Wp.mono (ct_X6_roomOn σ s hI (by omega)) (fun z_ τ_ hq_ => ?_))
      obtain ⟨hz_, hs_⟩ := hq_
      subst z_
      subst τ_
      refine w_iret dX6_on_98 rfl ?_
      exact ⟨Or.inr (Or.inr (Or.inr (Or.inl ⟨rfl, rfl⟩))), rfl⟩
    · refine w_tswI (off := 80) (tgt := 99) dX6_on_19 (by omega) (by omega) (by omega) (by decide) (by decide) ?_
      refine w_aload_n dX6_on_99 rfl ?_
      refine gf_X6_26 rfl dX6_on_100 ?_
      refine w_iload_n dX6_on_103 rfl ?_
      refine cv_X6_177 rfl dX6_on_104 (Nat.le_of_ble_eq_true rfl) (Nat.le_of_ble_eq_true rfl) (Wp.mono (ct_X0_rateOn σ s hI.nb (by omega)) (fun z_ τ_ hq_ => ?_))
      obtain ⟨hz_, hs_⟩ := hq_
      subst z_
      subst τ_
      refine w_iret dX6_on_107 rfl ?_
      exact ⟨Or.inr (Or.inr (Or.inr (Or.inr (Or.inl ⟨rfl, rfl⟩)))), rfl⟩
    · refine w_tswI (off := 89) (tgt := 108) dX6_on_19 (by omega) (by omega) (by omega) (by decide) (by decide) ?_
      refine w_aload_n dX6_on_108 rfl ?_
      refine w_iload_n dX6_on_109 rfl ?_
      refine cv_X6_180 rfl dX6_on_110 (Nat.le_of_ble_eq_true rfl) (Nat.le_of_ble_eq_true rfl) (Wp.mono (ct_X6_yearsOn σ s hI (by omega)) (fun z_ τ_ hq_ => ?_))
      obtain ⟨hz_, hs_⟩ := hq_
      subst z_
      subst τ_
      refine w_iret dX6_on_113 rfl ?_
      exact ⟨Or.inr (Or.inr (Or.inr (Or.inr (Or.inr (Or.inl ⟨rfl, rfl⟩))))), rfl⟩
    · refine w_tswI (off := 95) (tgt := 114) dX6_on_19 (by omega) (by omega) (by omega) (by decide) (by decide) ?_
      refine w_aload_n dX6_on_114 rfl ?_
      refine gf_X6_26 rfl dX6_on_115 ?_
      refine w_iload_n dX6_on_118 rfl ?_
      refine cv_X6_183 rfl dX6_on_119 (Nat.le_of_ble_eq_true rfl) (Nat.le_of_ble_eq_true rfl) (Wp.mono (ct_X0_firstOn σ s hI.nb (by omega)) (fun z_ τ_ hq_ => ?_))
      obtain ⟨hf_, hs_⟩ := hq_
      subst τ_
      refine w_iret dX6_on_122 rfl ?_
      exact ⟨Or.inr (Or.inr (Or.inr (Or.inr (Or.inr (Or.inr (Or.inl ⟨rfl, hf_⟩)))))), rfl⟩
    · refine w_tswI (off := 104) (tgt := 123) dX6_on_19 (by omega) (by omega) (by omega) (by decide) (by decide) ?_
      refine w_aload_n dX6_on_123 rfl ?_
      refine gf_X6_26 rfl dX6_on_124 ?_
      refine w_iload_n dX6_on_127 rfl ?_
      refine cv_X6_186 rfl dX6_on_128 (Nat.le_of_ble_eq_true rfl) (Nat.le_of_ble_eq_true rfl) (Wp.mono (ct_X0_countOn σ s hI.nb (by omega)) (fun z_ τ_ hq_ => ?_))
      obtain ⟨hz_, hs_⟩ := hq_
      subst z_
      subst τ_
      refine w_iret dX6_on_131 rfl ?_
      exact ⟨Or.inr (Or.inr (Or.inr (Or.inr (Or.inr (Or.inr (Or.inr (⟨rfl, rfl⟩))))))), rfl⟩
  · exact absurd c_5 (by omega)

set_option maxRecDepth 100000 in
set_option maxHeartbeats 4000000 in
theorem ct_X6_in (σ : St) (g w : Int) (hI : InvC σ) (hs : 0 ≤ g ∧ g < σ 2 1) (hw : 0 ≤ w ∧ w ≤ 4) : Wp mX6_in 2 (fun z τ => ((w = 0 ∧ z = σ 48 g) ∨ (w = 1 ∧ z = cntW (σ 8) g (σ 0 6)) ∨ (w = 2 ∧ z = sumW (σ 8) (σ 9) g (σ 0 6)) ∨ (w = 3 ∧ IsFst (σ 8) g (σ 0 6) z) ∨ (w = 4 ∧ z = (shlF (σ 8) (σ 11) g (σ 0 6)).1)) ∧ τ = σ) 0 [some (.inr 6), some (.inl g), some (.inl w)] [] σ := by
  refine Wp.rg (fun hR => ?_)
  refine w_aload_n dX6_in_0 rfl ?_
  refine w_iload_n dX6_in_1 rfl ?_
  refine cv_X6_81 rfl dX6_in_2 (Nat.le_of_ble_eq_true rfl) (Nat.le_of_ble_eq_true rfl) (Wp.mono (ct_hasG _ g (by have := hI.ng; omega)) (fun z_ τ_ hq_ => ?_))
  obtain ⟨hw2, hs_⟩ := hq_
  subst τ_
  refine w_if_ne (tgt := 18) dX6_in_5 (by decide) (by omega) (fun c_5 => ?_) (fun c_5 => ?_)
  · have hns := hI.ns
    have hng := hI.ng
    have hnb := hI.nb
    refine w_iload_n dX6_in_18 rfl ?_
    rcases (show w = 0 ∨ w = 1 ∨ w = 2 ∨ w = 3 ∨ w = 4 by omega) with rfl | rfl | rfl | rfl | rfl
    · refine w_tswI (off := 33) (tgt := 52) dX6_in_19 (by omega) (by omega) (by omega) (by decide) (by decide) ?_
      refine w_aload_n dX6_in_52 rfl ?_
      refine gf_X6_19 rfl dX6_in_53 ?_
      refine gf_X6_84 rfl dX6_in_56 ?_
      refine w_iload_n dX6_in_59 rfl ?_
      refine w_iald rfl (by omega) dX6_in_60 ?_
      refine w_iret dX6_in_61 rfl ?_
      exact ⟨Or.inl ⟨rfl, rfl⟩, rfl⟩
    · refine w_tswI (off := 43) (tgt := 62) dX6_in_19 (by omega) (by omega) (by omega) (by decide) (by decide) ?_
      refine w_aload_n dX6_in_62 rfl ?_
      refine gf_X6_26 rfl dX6_in_63 ?_
      refine w_iload_n dX6_in_66 rfl ?_
      refine cv_X6_193 rfl dX6_in_67 (Nat.le_of_ble_eq_true rfl) (Nat.le_of_ble_eq_true rfl) (Wp.mono (ct_X0_countIn σ g hI.nb (by omega)) (fun z_ τ_ hq_ => ?_))
      obtain ⟨hz_, hs_⟩ := hq_
      subst z_
      subst τ_
      refine w_iret dX6_in_70 rfl ?_
      exact ⟨Or.inr (Or.inl ⟨rfl, rfl⟩), rfl⟩
    · refine w_tswI (off := 52) (tgt := 71) dX6_in_19 (by omega) (by omega) (by omega) (by decide) (by decide) ?_
      refine w_aload_n dX6_in_71 rfl ?_
      refine gf_X6_26 rfl dX6_in_72 ?_
      refine w_iload_n dX6_in_75 rfl ?_
      refine cv_X6_196 rfl dX6_in_76 (Nat.le_of_ble_eq_true rfl) (Nat.le_of_ble_eq_true rfl) (Wp.mono (ct_X0_widthsIn σ g hI.nb (by omega)) (fun z_ τ_ hq_ => ?_))
      obtain ⟨hz_, hs_⟩ := hq_
      subst z_
      subst τ_
      refine w_iret dX6_in_79 rfl ?_
      exact ⟨Or.inr (Or.inr (Or.inl ⟨rfl, rfl⟩)), rfl⟩
    · refine w_tswI (off := 61) (tgt := 80) dX6_in_19 (by omega) (by omega) (by omega) (by decide) (by decide) ?_
      refine w_aload_n dX6_in_80 rfl ?_
      refine gf_X6_26 rfl dX6_in_81 ?_
      refine w_iload_n dX6_in_84 rfl ?_
      refine cv_X6_199 rfl dX6_in_85 (Nat.le_of_ble_eq_true rfl) (Nat.le_of_ble_eq_true rfl) (Wp.mono (ct_X0_firstIn σ g hI.nb (by omega)) (fun z_ τ_ hq_ => ?_))
      obtain ⟨hf_, hs_⟩ := hq_
      subst τ_
      refine w_iret dX6_in_88 rfl ?_
      exact ⟨Or.inr (Or.inr (Or.inr (Or.inl ⟨rfl, hf_⟩))), rfl⟩
    · refine w_tswI (off := 70) (tgt := 89) dX6_in_19 (by omega) (by omega) (by omega) (by decide) (by decide) ?_
      refine w_aload_n dX6_in_89 rfl ?_
      refine gf_X6_26 rfl dX6_in_90 ?_
      refine w_iload_n dX6_in_93 rfl ?_
      refine cv_X6_202 rfl dX6_in_94 (Nat.le_of_ble_eq_true rfl) (Nat.le_of_ble_eq_true rfl) (Wp.mono (ct_X0_shelvesOf σ g hI.nb (by omega)) (fun z_ τ_ hq_ => ?_))
      obtain ⟨hz_, hs_⟩ := hq_
      subst z_
      subst τ_
      refine w_iret dX6_in_97 rfl ?_
      exact ⟨Or.inr (Or.inr (Or.inr (Or.inr (⟨rfl, rfl⟩)))), rfl⟩
  · exact absurd c_5 (by omega)

set_option maxRecDepth 100000 in
set_option maxHeartbeats 4000000 in
theorem ct_X6_of (σ : St) (b w : Int) (hI : InvC σ) (hs : 0 ≤ b ∧ b < σ 0 6) (hw : 0 ≤ w ∧ w ≤ 6) : Wp mX6_of 1 (fun z τ => ((w = 0 ∧ z = σ 8 b) ∨ (w = 1 ∧ z = σ 9 b) ∨ (w = 2 ∧ z = σ 10 b) ∨ (w = 3 ∧ z = σ 11 b) ∨ (w = 4 ∧ z = sumW (σ 11) (σ 9) (σ 11 b) b) ∨ (w = 5 ∧ z = σ 12 b) ∨ (w = 6 ∧ ((σ 4 6 < σ 4 5 ∧ z = σ 50 b) ∨ (σ 4 5 ≤ σ 4 6 ∧ z = -1)))) ∧ τ = σ) 0 [some (.inr 6), some (.inl b), some (.inl w)] [] σ := by
  refine Wp.rg (fun hR => ?_)
  refine w_aload_n dX6_of_0 rfl ?_
  refine w_iload_n dX6_of_1 rfl ?_
  refine cv_X6_123 rfl dX6_of_2 (Nat.le_of_ble_eq_true rfl) (Nat.le_of_ble_eq_true rfl) (Wp.mono (ct_hasB _ b (by have := hI.nb; omega)) (fun z_ τ_ hq_ => ?_))
  obtain ⟨hw2, hs_⟩ := hq_
  subst τ_
  refine w_if_ne (tgt := 18) dX6_of_5 (by decide) (by omega) (fun c_5 => ?_) (fun c_5 => ?_)
  · have hns := hI.ns
    have hng := hI.ng
    have hnb := hI.nb
    refine w_iload_n dX6_of_18 rfl ?_
    rcases (show w = 0 ∨ w = 1 ∨ w = 2 ∨ w = 3 ∨ w = 4 ∨ w = 5 ∨ w = 6 by omega) with rfl | rfl | rfl | rfl | rfl | rfl | rfl
    · refine w_tswI (off := 41) (tgt := 60) dX6_of_19 (by omega) (by omega) (by omega) (by decide) (by decide) ?_
      refine w_aload_n dX6_of_60 rfl ?_
      refine gf_X6_26 rfl dX6_of_61 ?_
      refine gf_X6_129 rfl dX6_of_64 ?_
      refine w_iload_n dX6_of_67 rfl ?_
      refine w_iald rfl (by omega) dX6_of_68 ?_
      refine w_iret dX6_of_69 rfl ?_
      exact ⟨Or.inl ⟨rfl, rfl⟩, rfl⟩
    · refine w_tswI (off := 51) (tgt := 70) dX6_of_19 (by omega) (by omega) (by omega) (by decide) (by decide) ?_
      refine w_aload_n dX6_of_70 rfl ?_
      refine gf_X6_26 rfl dX6_of_71 ?_
      refine gf_X6_132 rfl dX6_of_74 ?_
      refine w_iload_n dX6_of_77 rfl ?_
      refine w_iald rfl (by omega) dX6_of_78 ?_
      refine w_iret dX6_of_79 rfl ?_
      exact ⟨Or.inr (Or.inl ⟨rfl, rfl⟩), rfl⟩
    · refine w_tswI (off := 61) (tgt := 80) dX6_of_19 (by omega) (by omega) (by omega) (by decide) (by decide) ?_
      refine w_aload_n dX6_of_80 rfl ?_
      refine gf_X6_26 rfl dX6_of_81 ?_
      refine gf_X6_207 rfl dX6_of_84 ?_
      refine w_iload_n dX6_of_87 rfl ?_
      refine w_iald rfl (by omega) dX6_of_88 ?_
      refine w_iret dX6_of_89 rfl ?_
      exact ⟨Or.inr (Or.inr (Or.inl ⟨rfl, rfl⟩)), rfl⟩
    · refine w_tswI (off := 71) (tgt := 90) dX6_of_19 (by omega) (by omega) (by omega) (by decide) (by decide) ?_
      refine w_aload_n dX6_of_90 rfl ?_
      refine gf_X6_26 rfl dX6_of_91 ?_
      refine gf_X6_126 rfl dX6_of_94 ?_
      refine w_iload_n dX6_of_97 rfl ?_
      refine w_iald rfl (by omega) dX6_of_98 ?_
      refine w_iret dX6_of_99 rfl ?_
      exact ⟨Or.inr (Or.inr (Or.inr (Or.inl ⟨rfl, rfl⟩))), rfl⟩
    · refine w_tswI (off := 81) (tgt := 100) dX6_of_19 (by omega) (by omega) (by omega) (by decide) (by decide) ?_
      refine w_aload_n dX6_of_100 rfl ?_
      refine gf_X6_26 rfl dX6_of_101 ?_
      refine w_iload_n dX6_of_104 rfl ?_
      refine cv_X6_210 rfl dX6_of_105 (Nat.le_of_ble_eq_true rfl) (Nat.le_of_ble_eq_true rfl) (Wp.mono (ct_X0_widthsAheadOf σ b (by omega)) (fun z_ τ_ hq_ => ?_))
      obtain ⟨hz_, hs_⟩ := hq_
      subst z_
      subst τ_
      refine w_iret dX6_of_108 rfl ?_
      exact ⟨Or.inr (Or.inr (Or.inr (Or.inr (Or.inl ⟨rfl, rfl⟩)))), rfl⟩
    · refine w_tswI (off := 90) (tgt := 109) dX6_of_19 (by omega) (by omega) (by omega) (by decide) (by decide) ?_
      refine w_aload_n dX6_of_109 rfl ?_
      refine gf_X6_26 rfl dX6_of_110 ?_
      refine gf_X6_213 rfl dX6_of_113 ?_
      refine w_iload_n dX6_of_116 rfl ?_
      refine w_iald rfl (by omega) dX6_of_117 ?_
      refine w_iret dX6_of_118 rfl ?_
      exact ⟨Or.inr (Or.inr (Or.inr (Or.inr (Or.inr (Or.inl ⟨rfl, rfl⟩))))), rfl⟩
    · refine w_tswI (off := 100) (tgt := 119) dX6_of_19 (by omega) (by omega) (by omega) (by decide) (by decide) ?_
      refine w_aload_n dX6_of_119 rfl ?_
      refine gf_X6_40 rfl dX6_of_120 ?_
      refine cv_X6_151 rfl dX6_of_123 (Nat.le_of_ble_eq_true rfl) (Nat.le_of_ble_eq_true rfl) (Wp.mono (ct_exi σ) (fun z_ τ_ hq_ => ?_))
      obtain ⟨hw123, hs_⟩ := hq_
      subst τ_
      refine w_if_eq (tgt := 141) dX6_of_126 (by decide) (by omega) (fun c_126 => ?_) (fun c_126 => ?_)
      · refine w_iconst dX6_of_141 ?_
        refine w_iret dX6_of_142 rfl ?_
        exact ⟨Or.inr (Or.inr (Or.inr (Or.inr (Or.inr (Or.inr (⟨rfl, by first | exact Or.inl ⟨by omega, rfl⟩ | exact Or.inr ⟨by omega, rfl⟩⟩)))))), rfl⟩
      · refine w_aload_n dX6_of_129 rfl ?_
        refine gf_X6_40 rfl dX6_of_130 ?_
        refine gf_X6_216 rfl dX6_of_133 ?_
        refine w_iload_n dX6_of_136 rfl ?_
        refine w_iald rfl (by omega) dX6_of_137 ?_
        refine w_goto (tgt := 142) dX6_of_138 (by decide) ?_
        refine w_iret dX6_of_142 rfl ?_
        exact ⟨Or.inr (Or.inr (Or.inr (Or.inr (Or.inr (Or.inr (⟨rfl, by first | exact Or.inl ⟨by omega, rfl⟩ | exact Or.inr ⟨by omega, rfl⟩⟩)))))), rfl⟩
  · exact absurd c_5 (by omega)

