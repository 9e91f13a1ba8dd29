def InvM (σ : St) : Prop := InvW σ ∧ (∀ b, 0 ≤ b → b < σ 7 6 → 0 ≤ σ 62 b) ∧ (40 ≤ σ 7 12 ∧ σ 7 12 ≤ 400) ∧ (σ 7 21 = 0 ∨ σ 7 21 = 1) ∧ (σ 7 21 = 1 → (0 ≤ σ 7 24 ∧ σ 7 24 < σ 7 23 ∧ σ 7 23 ≤ 60) ∧ ∀ k, 0 ≤ k → k < σ 7 23 → 0 ≤ σ 71 k ∧ σ 71 k < σ 7 6) ∧ ∃ es, RepM σ es
theorem InvM.w {σ : St} (h : InvM σ) : InvW σ := h.1
theorem InvM.pf {σ : St} (h : InvM σ) : σ 7 21 = 0 ∨ σ 7 21 = 1 := h.2.2.2.1
theorem InvM.lm {σ : St} (h : InvM σ) : 40 ≤ σ 7 12 ∧ σ 7 12 ≤ 400 := h.2.2.1
theorem InvM.pl {σ : St} (h : InvM σ) (hp : σ 7 21 = 1) : (0 ≤ σ 7 24 ∧ σ 7 24 < σ 7 23 ∧ σ 7 23 ≤ 60) ∧ ∀ k, 0 ≤ k → k < σ 7 23 → 0 ≤ σ 71 k ∧ σ 71 k < σ 7 6 := h.2.2.2.2.1 hp
theorem InvM.lg {σ : St} (h : InvM σ) : ∃ es, RepM σ es := h.2.2.2.2.2
theorem sumW_congr {row amt row2 amt2 : Int → Int} {v n : Int} (h : ∀ b, 0 ≤ b → b < n → row b = row2 b ∧ amt b = amt2 b) : sumW row amt v n = sumW row2 amt2 v n := by
  unfold sumW
  apply foI_congr
  intro i x h0 h1
  rw [(h i h0 h1).1, (h i h0 h1).2]

set_option maxRecDepth 100000 in
set_option maxHeartbeats 4000000 in
theorem cm_needOf (σ : St) (b : Int) (hI : InvW σ) (hb : 0 ≤ b ∧ b < σ 7 6) : Wp mX7_needOf 2 (fun z τ => z = ndM σ b ∧ (∀ k, (k < 65 ∨ 69 < k) → τ k = σ k)) 0 [some (.inr 7), some (.inl b)] [] σ := by
  refine Wp.rg (fun hR => ?_)
  refine w_aload_n dX7_needOf_0 rfl ?_
  refine cv_X7_91 rfl dX7_needOf_1 (Nat.le_of_ble_eq_true rfl) (Nat.le_of_ble_eq_true rfl) (Wp.mono (cm_needs σ hI) (fun z_ τ_ hq_ => ?_))
  obtain ⟨υ, hυ⟩ : ∃ υ, υ = τ_ := ⟨_, rfl⟩
  rw [← hυ] at hq_ ⊢
  clear hυ
  obtain ⟨f1, f2⟩ := hq_
  have e76 : υ 7 6 = σ 7 6 := by rw [f2 7 (by decide) (by decide)]
  have e62 : υ 62 = σ 62 := f2 62 (by decide) (by decide)
  have hnb := hI.nb
  have hfr : ∀ k, (k < 65 ∨ 69 < k) → υ k = σ k := fun k hk => f2 k (by omega) (by omega)
  refine Wp.rg (fun hR2 => ?_)
  refine w_aload_n dX7_needOf_4 rfl ?_
  refine gf_X7_38 rfl dX7_needOf_5 ?_
  refine w_iload_n dX7_needOf_8 rfl ?_
  refine w_iald rfl (by omega) dX7_needOf_9 ?_
  refine w_iret dX7_needOf_10 rfl ?_
  exact ⟨f1 b hb.1 hb.2, hfr⟩

set_option maxRecDepth 100000 in
set_option maxHeartbeats 4000000 in
theorem cm_rateOf (σ : St) (s : Int) (hI : InvW σ) (hs : InR s) : Wp mX7_rateOf 2 (fun z τ => z = sumW (σ 62) (ndM σ) s (σ 7 6) ∧ (∀ k, (k < 65 ∨ 69 < k) → τ k = σ k)) 0 [some (.inr 7), some (.inl s), none, none] [] σ := by
  refine Wp.rg (fun hR => ?_)
  refine w_aload_n dX7_rateOf_0 rfl ?_
  refine cv_X7_91 rfl dX7_rateOf_1 (Nat.le_of_ble_eq_true rfl) (Nat.le_of_ble_eq_true rfl) (Wp.mono (cm_needs σ hI) (fun z_ τ_ hq_ => ?_))
  obtain ⟨υ, hυ⟩ : ∃ υ, υ = τ_ := ⟨_, rfl⟩
  rw [← hυ] at hq_ ⊢
  clear hυ
  obtain ⟨f1, f2⟩ := hq_
  have e76 : υ 7 6 = σ 7 6 := by rw [f2 7 (by decide) (by decide)]
  have e62 : υ 62 = σ 62 := f2 62 (by decide) (by decide)
  have hnb := hI.nb
  have hfr : ∀ k, (k < 65 ∨ 69 < k) → υ k = σ k := fun k hk => f2 k (by omega) (by omega)
  refine Wp.rg (fun hR2 => ?_)
  refine w_iconst dX7_rateOf_4 ?_
  refine w_istore_n dX7_rateOf_5 (Nat.le_of_ble_eq_true rfl) ?_
  refine w_iconst dX7_rateOf_6 ?_
  refine w_istore_n dX7_rateOf_7 (Nat.le_of_ble_eq_true rfl) ?_
  refine up_to (σ 7 6) (fun i => 0 ≤ i → ∀ a, a = sumW (σ 62) (ndM σ) s i → Wp mX7_rateOf 2 (fun z τ => z = sumW (σ 62) (ndM σ) s (σ 7 6) ∧ (∀ k, (k < 65 ∨ 69 < k) → τ k = σ k)) 8 [some (.inr 7), some (.inl s), some (.inl a), some (.inl i)] [] υ) (fun i hi ih h0 a hinv => ?_) (0) (by omega) (by omega) 0 rfl
  refine w_iload_n dX7_rateOf_8 rfl ?_
  refine w_aload_n dX7_rateOf_9 rfl ?_
  refine gf_X7_81 rfl dX7_rateOf_10 ?_
  refine w_icmp_ge (tgt := 45) dX7_rateOf_13 (by decide) (by omega) (by omega) (fun c_13 => ?_) (fun c_13 => ?_)
  · refine w_iload_n dX7_rateOf_45 rfl ?_
    refine w_iret dX7_rateOf_46 rfl ?_
    exact ⟨by rw [hinv, show i = σ 7 6 by omega], hfr⟩
  · refine w_iload_n dX7_rateOf_16 rfl ?_
    refine w_aload_n dX7_rateOf_17 rfl ?_
    refine gf_X7_25 rfl dX7_rateOf_18 ?_
    refine w_iload_n dX7_rateOf_21 rfl ?_
    refine w_iald rfl (by omega) dX7_rateOf_22 ?_
    refine w_iload_n dX7_rateOf_23 rfl ?_
    refine w_icmp_ne (tgt := 36) dX7_rateOf_24 (by decide) (hR2 _ _) hs (fun c_24 => ?_) (fun c_24 => ?_)
    · refine w_iconst dX7_rateOf_36 ?_
      refine w_iadd dX7_rateOf_37 ?_
      refine w_istore_n dX7_rateOf_38 (Nat.le_of_ble_eq_true rfl) ?_
      refine w_iinc dX7_rateOf_39 (Nat.le_of_ble_eq_true rfl) rfl ?_
      refine w_goto (tgt := 8) dX7_rateOf_42 (by decide) ?_
      rw [e62] at c_24
      refine ih (by omega) (by omega) _ ?_
      rw [sumW_s _ _ _ h0]
      first
      | (rw [if_pos c_24, ← hinv, f1 i h0 (by omega)])
      | (rw [if_neg c_24, ← hinv, Int.add_zero])
    · refine w_aload_n dX7_rateOf_27 rfl ?_
      refine gf_X7_38 rfl dX7_rateOf_28 ?_
      refine w_iload_n dX7_rateOf_31 rfl ?_
      refine w_iald rfl (by omega) dX7_rateOf_32 ?_
      refine w_goto (tgt := 37) dX7_rateOf_33 (by decide) ?_
      refine w_iadd dX7_rateOf_37 ?_
      refine w_istore_n dX7_rateOf_38 (Nat.le_of_ble_eq_true rfl) ?_
      refine w_iinc dX7_rateOf_39 (Nat.le_of_ble_eq_true rfl) rfl ?_
      refine w_goto (tgt := 8) dX7_rateOf_42 (by decide) ?_
      rw [e62] at c_24
      refine ih (by omega) (by omega) _ ?_
      rw [sumW_s _ _ _ h0]
      first
      | (rw [if_pos c_24, ← hinv, f1 i h0 (by omega)])
      | (rw [if_neg c_24, ← hinv, Int.add_zero])

set_option maxRecDepth 100000 in
set_option maxHeartbeats 4000000 in
theorem cm_lastsOf (σ : St) (s : Int) (hI : InvW σ) (hs : 0 ≤ s ∧ s < σ 7 1) : Wp mX7_lastsOf 3 (fun z τ => z = yrF (σ 57) (σ 62) (σ 61) (ndM σ) s (σ 7 6) ∧ (∀ k, (k < 65 ∨ 69 < k) → τ k = σ k)) 0 [some (.inr 7), some (.inl s), none, none] [] σ := by
  refine Wp.rg (fun hR => ?_)
  refine w_aload_n dX7_lastsOf_0 rfl ?_
  refine w_iload_n dX7_lastsOf_1 rfl ?_
  refine cv_X7_94 rfl dX7_lastsOf_2 (Nat.le_of_ble_eq_true rfl) (Nat.le_of_ble_eq_true rfl) (Wp.mono (cm_rateOf σ s hI (by have := hI.ns; omega)) (fun z_ τ_ hq_ => ?_))
  obtain ⟨υ, hυ⟩ : ∃ υ, υ = τ_ := ⟨_, rfl⟩
  rw [← hυ] at hq_ ⊢
  clear hυ
  obtain ⟨hz_, hfr⟩ := hq_
  subst z_
  have e62 := hfr 62 (by omega)
  have e61 := hfr 61 (by omega)
  have e57 := hfr 57 (by omega)
  have e76 : υ 7 6 = σ 7 6 := by rw [hfr 7 (by omega)]
  have hnb := hI.nb
  have hns := hI.ns
  have hsb := hI.sh s hs.1 hs.2
  have hw := sumW_bd (σ 62) (σ 61) s (σ 7 6) 0 40 (by omega) (by omega) (fun b b0 b1 _ => by have := hI.bk b b0 b1; omega) (σ 7 6) hnb.1 (by omega)
  have hr := sumW_bd (σ 62) (ndM σ) s (σ 7 6) 0 1000 (by omega) (by omega) (fun b b0 b1 _ => hI.nd b0 b1) (σ 7 6) hnb.1 (by omega)
  refine w_istore_n dX7_lastsOf_5 (Nat.le_of_ble_eq_true rfl) ?_
  refine w_iload_n dX7_lastsOf_6 rfl ?_
  refine w_if_ne (tgt := 16) dX7_lastsOf_7 (by decide) (by omega) (fun c_7 => ?_) (fun c_7 => ?_)
  · refine w_aload_n dX7_lastsOf_16 rfl ?_
    refine gf_X7_7 rfl dX7_lastsOf_17 ?_
    refine w_iload_n dX7_lastsOf_20 rfl ?_
    refine w_iald rfl (by omega) dX7_lastsOf_21 ?_
    refine w_aload_n dX7_lastsOf_22 rfl ?_
    refine w_iload_n dX7_lastsOf_23 rfl ?_
    refine cv_X7_97 rfl dX7_lastsOf_24 (Nat.le_of_ble_eq_true rfl) (Nat.le_of_ble_eq_true rfl) (Wp.mono (cm_loadOf υ s (by rw [e76]; exact hnb) (by omega)) (fun z_ τ_ hq_ => ?_))
    obtain ⟨hz_, hs_⟩ := hq_
    rw [e62, e61, e76] at hz_
    subst z_
    subst τ_
    rw [e57]
    refine w_isub dX7_lastsOf_27 ?_
    refine w_iload_n dX7_lastsOf_28 rfl ?_
    refine w_idiv dX7_lastsOf_29 (by omega) (by omega) (by omega) ?_
    refine w_istore_n dX7_lastsOf_30 (Nat.le_of_ble_eq_true rfl) ?_
    refine w_iload_n dX7_lastsOf_31 rfl ?_
    refine w_sipush dX7_lastsOf_32 (by decide) ?_
    refine w_icmp_le (tgt := 44) dX7_lastsOf_35 (by decide) (by first | omega | (have := tdiv_bd (show 0 < sumW (σ 62) (ndM σ) s (σ 7 6) by omega) (a := σ 57 s - sumW (σ 62) (σ 61) s (σ 7 6)) (by omega); omega)) (by omega) (fun c_35 => ?_) (fun c_35 => ?_)
    · refine w_iload_n dX7_lastsOf_44 rfl ?_
      refine w_iret dX7_lastsOf_45 rfl ?_
      refine ⟨?_, hfr⟩
      unfold yrF
      by_cases q : 0 < sumW (σ 62) (ndM σ) s (σ 7 6)
      · rw [if_pos q]
        split <;> omega
      · rw [if_neg q]
        all_goals omega
    · refine w_sipush dX7_lastsOf_38 (by decide) ?_
      refine w_goto (tgt := 45) dX7_lastsOf_41 (by decide) ?_
      refine w_iret dX7_lastsOf_45 rfl ?_
      refine ⟨?_, hfr⟩
      unfold yrF
      by_cases q : 0 < sumW (σ 62) (ndM σ) s (σ 7 6)
      · rw [if_pos q]
        split <;> omega
      · rw [if_neg q]
        all_goals omega
  · refine w_sipush dX7_lastsOf_10 (by decide) ?_
    refine w_goto (tgt := 30) dX7_lastsOf_13 (by decide) ?_
    refine w_istore_n dX7_lastsOf_30 (Nat.le_of_ble_eq_true rfl) ?_
    refine w_iload_n dX7_lastsOf_31 rfl ?_
    refine w_sipush dX7_lastsOf_32 (by decide) ?_
    refine w_icmp_le (tgt := 44) dX7_lastsOf_35 (by decide) (by first | omega | (have := tdiv_bd (show 0 < sumW (σ 62) (ndM σ) s (σ 7 6) by omega) (a := σ 57 s - sumW (σ 62) (σ 61) s (σ 7 6)) (by omega); omega)) (by omega) (fun c_35 => ?_) (fun c_35 => ?_)
    · refine w_iload_n dX7_lastsOf_44 rfl ?_
      refine w_iret dX7_lastsOf_45 rfl ?_
      refine ⟨?_, hfr⟩
      unfold yrF
      by_cases q : 0 < sumW (σ 62) (ndM σ) s (σ 7 6)
      · rw [if_pos q]
        split <;> omega
      · rw [if_neg q]
        all_goals omega
    · refine w_sipush dX7_lastsOf_38 (by decide) ?_
      refine w_goto (tgt := 45) dX7_lastsOf_41 (by decide) ?_
      refine w_iret dX7_lastsOf_45 rfl ?_
      refine ⟨?_, hfr⟩
      unfold yrF
      by_cases q : 0 < sumW (σ 62) (ndM σ) s (σ 7 6)
      · rw [if_pos q]
        split <;> omega
      · rw [if_neg q]
        all_goals omega

theorem c0_log {P : Int → St → Prop} {a1 : PV} {a2 : PV} (σ : St) (h : Wp mX7_log 1 P 5 [some (.inr 7), some a1, some a2] [] (put σ 7 0 0)) : Wp mX7_log 1 P 0 [some (.inr 7), some a1, some a2] [] σ := by
  refine w_aload_n dX7_log_0 rfl ?_
  refine w_iconst dX7_log_1 ?_
  refine pf_X7_68 rfl (by omega) dX7_log_2 ?_
  exact h
theorem c0_cut {P : Int → St → Prop} {a1 : PV} {a2 : PV} (σ : St) (h : Wp mX7_cut 3 P 5 [some (.inr 7), some a1, some a2] [] (put σ 7 0 0)) : Wp mX7_cut 3 P 0 [some (.inr 7), some a1, some a2] [] σ := by
  refine w_aload_n dX7_cut_0 rfl ?_
  refine w_iconst dX7_cut_1 ?_
  refine pf_X7_68 rfl (by omega) dX7_cut_2 ?_
  exact h
theorem c0_price {P : Int → St → Prop} {a1 : PV} {a2 : PV} (σ : St) (h : Wp mX7_price 3 P 5 [some (.inr 7), some a1, some a2] [] (put σ 7 0 0)) : Wp mX7_price 3 P 0 [some (.inr 7), some a1, some a2] [] σ := by
  refine w_aload_n dX7_price_0 rfl ?_
  refine w_iconst dX7_price_1 ?_
  refine pf_X7_68 rfl (by omega) dX7_price_2 ?_
  exact h
theorem c0_best {P : Int → St → Prop} {a1 : PV} (σ : St) (h : Wp mX7_best 3 P 5 [some (.inr 7), some a1, none] [] (put σ 7 0 0)) : Wp mX7_best 3 P 0 [some (.inr 7), some a1, none] [] σ := by
  refine w_aload_n dX7_best_0 rfl ?_
  refine w_iconst dX7_best_1 ?_
  refine pf_X7_68 rfl (by omega) dX7_best_2 ?_
  exact h
theorem c0_tight {P : Int → St → Prop} (σ : St) (h : Wp mX7_tight 0 P 5 [some (.inr 7), none, none, none, none] [] (put σ 7 0 0)) : Wp mX7_tight 0 P 0 [some (.inr 7), none, none, none, none] [] σ := by
  refine w_aload_n dX7_tight_0 rfl ?_
  refine w_iconst dX7_tight_1 ?_
  refine pf_X7_68 rfl (by omega) dX7_tight_2 ?_
  exact h
theorem c0_book {P : Int → St → Prop} {a1 : PV} {a2 : PV} (σ : St) (h : Wp mX7_book 3 P 5 [some (.inr 7), some a1, some a2, none, none, none] [] (put σ 7 0 0)) : Wp mX7_book 3 P 0 [some (.inr 7), some a1, some a2, none, none, none] [] σ := by
  refine w_aload_n dX7_book_0 rfl ?_
  refine w_iconst dX7_book_1 ?_
  refine pf_X7_68 rfl (by omega) dX7_book_2 ?_
  exact h
theorem c0_gone {P : Int → St → Prop} {a1 : PV} (σ : St) (h : Wp mX7_gone 2 P 5 [some (.inr 7), some a1, none] [] (put σ 7 0 0)) : Wp mX7_gone 2 P 0 [some (.inr 7), some a1, none] [] σ := by
  refine w_aload_n dX7_gone_0 rfl ?_
  refine w_iconst dX7_gone_1 ?_
  refine pf_X7_68 rfl (by omega) dX7_gone_2 ?_
  exact h
theorem c0_more {P : Int → St → Prop} {a1 : PV} {a2 : PV} (σ : St) (h : Wp mX7_more 3 P 5 [some (.inr 7), some a1, some a2, none, none, none, none] [] (put σ 7 0 0)) : Wp mX7_more 3 P 0 [some (.inr 7), some a1, some a2, none, none, none, none] [] σ := by
  refine w_aload_n dX7_more_0 rfl ?_
  refine w_iconst dX7_more_1 ?_
  refine pf_X7_68 rfl (by omega) dX7_more_2 ?_
  exact h
theorem c0_plan {P : Int → St → Prop} {a1 : PV} (σ : St) (h : Wp mX7_plan 3 P 5 [some (.inr 7), some a1, none] [] (put σ 7 0 0)) : Wp mX7_plan 3 P 0 [some (.inr 7), some a1, none] [] σ := by
  refine w_aload_n dX7_plan_0 rfl ?_
  refine w_iconst dX7_plan_1 ?_
  refine pf_X7_68 rfl (by omega) dX7_plan_2 ?_
  exact h
theorem c0_drop {P : Int → St → Prop} (σ : St) (h : Wp mX7_drop 1 P 5 [some (.inr 7)] [] (put σ 7 0 0)) : Wp mX7_drop 1 P 0 [some (.inr 7)] [] σ := by
  refine w_aload_n dX7_drop_0 rfl ?_
  refine w_iconst dX7_drop_1 ?_
  refine pf_X7_68 rfl (by omega) dX7_drop_2 ?_
  exact h
theorem c0_move {P : Int → St → Prop} (σ : St) (h : Wp mX7_move 3 P 5 [some (.inr 7)] [] (put σ 7 0 0)) : Wp mX7_move 3 P 0 [some (.inr 7)] [] σ := by
  refine w_aload_n dX7_move_0 rfl ?_
  refine w_iconst dX7_move_1 ?_
  refine pf_X7_68 rfl (by omega) dX7_move_2 ?_
  exact h
theorem c0_day {P : Int → St → Prop} (σ : St) (h : Wp mX7_day 3 P 5 [some (.inr 7), none, none, none] [] (put σ 7 0 0)) : Wp mX7_day 3 P 0 [some (.inr 7), none, none, none] [] σ := by
  refine w_aload_n dX7_day_0 rfl ?_
  refine w_iconst dX7_day_1 ?_
  refine pf_X7_68 rfl (by omega) dX7_day_2 ?_
  exact h
theorem c0_planned {P : Int → St → Prop} {a1 : PV} {a2 : PV} (σ : St) (h : Wp mX7_planned 1 P 5 [some (.inr 7), some a1, some a2] [] (put σ 7 0 0)) : Wp mX7_planned 1 P 0 [some (.inr 7), some a1, some a2] [] σ := by
  refine w_aload_n dX7_planned_0 rfl ?_
  refine w_iconst dX7_planned_1 ?_
  refine pf_X7_68 rfl (by omega) dX7_planned_2 ?_
  exact h
theorem c0_left {P : Int → St → Prop} {a1 : PV} (σ : St) (h : Wp mX7_left 1 P 5 [some (.inr 7), some a1] [] (put σ 7 0 0)) : Wp mX7_left 1 P 0 [some (.inr 7), some a1] [] σ := by
  refine w_aload_n dX7_left_0 rfl ?_
  refine w_iconst dX7_left_1 ?_
  refine pf_X7_68 rfl (by omega) dX7_left_2 ?_
  exact h
theorem c0_enough {P : Int → St → Prop} {a1 : PV} (σ : St) (h : Wp mX7_enough 1 P 5 [some (.inr 7), some a1, none] [] (put σ 7 0 0)) : Wp mX7_enough 1 P 0 [some (.inr 7), some a1, none] [] σ := by
  refine w_aload_n dX7_enough_0 rfl ?_
  refine w_iconst dX7_enough_1 ?_
  refine pf_X7_68 rfl (by omega) dX7_enough_2 ?_
  exact h
theorem c0_shelf {P : Int → St → Prop} {a1 : PV} {a2 : PV} (σ : St) (h : Wp mX7_shelf 1 P 5 [some (.inr 7), some a1, some a2] [] (put σ 7 0 0)) : Wp mX7_shelf 1 P 0 [some (.inr 7), some a1, some a2] [] σ := by
  refine w_aload_n dX7_shelf_0 rfl ?_
  refine w_iconst dX7_shelf_1 ?_
  refine pf_X7_68 rfl (by omega) dX7_shelf_2 ?_
  exact h
theorem c0_turn {P : Int → St → Prop} {a1 : PV} {a2 : PV} (σ : St) (h : Wp mX7_turn 2 P 5 [some (.inr 7), some a1, some a2] [] (put σ 7 0 0)) : Wp mX7_turn 2 P 0 [some (.inr 7), some a1, some a2] [] σ := by
  refine w_aload_n dX7_turn_0 rfl ?_
  refine w_iconst dX7_turn_1 ?_
  refine pf_X7_68 rfl (by omega) dX7_turn_2 ?_
  exact h
theorem c0_group {P : Int → St → Prop} {a1 : PV} (σ : St) (h : Wp mX7_group 1 P 5 [some (.inr 7), some a1] [] (put σ 7 0 0)) : Wp mX7_group 1 P 0 [some (.inr 7), some a1] [] σ := by
  refine w_aload_n dX7_group_0 rfl ?_
  refine w_iconst dX7_group_1 ?_
  refine pf_X7_68 rfl (by omega) dX7_group_2 ?_
  exact h
theorem c0_grow {P : Int → St → Prop} {a1 : PV} {a2 : PV} (σ : St) (h : Wp mX7_grow 2 P 5 [some (.inr 7), some a1, some a2] [] (put σ 7 0 0)) : Wp mX7_grow 2 P 0 [some (.inr 7), some a1, some a2] [] σ := by
  refine w_aload_n dX7_grow_0 rfl ?_
  refine w_iconst dX7_grow_1 ?_
  refine pf_X7_68 rfl (by omega) dX7_grow_2 ?_
  exact h
theorem c0_limit {P : Int → St → Prop} {a1 : PV} (σ : St) (h : Wp mX7_limit 1 P 5 [some (.inr 7), some a1] [] (put σ 7 0 0)) : Wp mX7_limit 1 P 0 [some (.inr 7), some a1] [] σ := by
  refine w_aload_n dX7_limit_0 rfl ?_
  refine w_iconst dX7_limit_1 ?_
  refine pf_X7_68 rfl (by omega) dX7_limit_2 ?_
  exact h
theorem c0_count {P : Int → St → Prop} {a1 : PV} (σ : St) (h : Wp mX7_count 1 P 5 [some (.inr 7), some a1] [] (put σ 7 0 0)) : Wp mX7_count 1 P 0 [some (.inr 7), some a1] [] σ := by
  refine w_aload_n dX7_count_0 rfl ?_
  refine w_iconst dX7_count_1 ?_
  refine pf_X7_68 rfl (by omega) dX7_count_2 ?_
  exact h
theorem c0_lasts {P : Int → St → Prop} (σ : St) (h : Wp mX7_lasts 4 P 5 [some (.inr 7), none, none] [] (put σ 7 0 0)) : Wp mX7_lasts 4 P 0 [some (.inr 7), none, none] [] σ := by
  refine w_aload_n dX7_lasts_0 rfl ?_
  refine w_iconst dX7_lasts_1 ?_
  refine pf_X7_68 rfl (by omega) dX7_lasts_2 ?_
  exact h
set_option maxRecDepth 100000 in
set_option maxHeartbeats 4000000 in
theorem ct5_shelf (σ : St) (l k : Int) (hI : InvM σ) (hl : InR l) (hk : InR k) : Wp mX7_shelf 1 (fun z τ => ((10 ≤ l ∧ l ≤ 200 ∧ 0 ≤ k ∧ k ≤ 2 ∧ σ 7 1 < 12) → z = σ 7 1 ∧ τ = put (put (put (put σ 57 (σ 7 1) l) 58 (σ 7 1) k) 7 1 (σ 7 1 + 1)) 7 21 0) ∧ (¬ (10 ≤ l ∧ l ≤ 200 ∧ 0 ≤ k ∧ k ≤ 2 ∧ σ 7 1 < 12) → z = -1 ∧ τ = σ)) 5 [some (.inr 7), some (.inl l), some (.inl k)] [] σ := by
  refine Wp.rg (fun hR => ?_)
  have hns := hI.w.ns
  refine w_aload_n dX7_shelf_5 rfl ?_
  refine gf_X7_71 rfl dX7_shelf_6 ?_
  refine w_bipush dX7_shelf_9 (by decide) ?_
  refine w_icmp_eq (tgt := 35) dX7_shelf_11 (by decide) (by omega) (by omega) (fun c_11 => ?_) (fun c_11 => ?_)
  · refine w_iconst dX7_shelf_35 ?_
    refine w_iret dX7_shelf_36 rfl ?_
    exact ⟨fun ok => absurd ok (by omega), fun _ => ⟨rfl, rfl⟩⟩
  · refine w_iload_n dX7_shelf_14 rfl ?_
    refine w_bipush dX7_shelf_15 (by decide) ?_
    refine w_sipush dX7_shelf_17 (by decide) ?_
    refine cv_X7_74 rfl dX7_shelf_20 (Nat.le_of_ble_eq_true rfl) (Nat.le_of_ble_eq_true rfl) (Wp.mono (cm_isIn _ l 10 200 hl (by omega) (by omega)) (fun z_ τ_ hq_ => ?_))
    obtain ⟨hw20, hs_⟩ := hq_
    subst τ_
    refine w_if_eq (tgt := 35) dX7_shelf_23 (by decide) (by omega) (fun c_23 => ?_) (fun c_23 => ?_)
    · refine w_iconst dX7_shelf_35 ?_
      refine w_iret dX7_shelf_36 rfl ?_
      exact ⟨fun ok => absurd ok (by omega), fun _ => ⟨rfl, rfl⟩⟩
    · refine w_iload_n dX7_shelf_26 rfl ?_
      refine w_iconst dX7_shelf_27 ?_
      refine w_iconst dX7_shelf_28 ?_
      refine cv_X7_74 rfl dX7_shelf_29 (Nat.le_of_ble_eq_true rfl) (Nat.le_of_ble_eq_true rfl) (Wp.mono (cm_isIn _ k 0 2 hk (by omega) (by omega)) (fun z_ τ_ hq_ => ?_))
      obtain ⟨hw29, hs_⟩ := hq_
      subst τ_
      refine w_if_ne (tgt := 37) dX7_shelf_32 (by decide) (by omega) (fun c_32 => ?_) (fun c_32 => ?_)
      · refine w_aload_n dX7_shelf_37 rfl ?_
        refine gf_X7_7 rfl dX7_shelf_38 ?_
        refine w_aload_n dX7_shelf_41 rfl ?_
        refine gf_X7_71 rfl dX7_shelf_42 ?_
        refine w_iload_n dX7_shelf_45 rfl ?_
        refine w_iast rfl (by omega) hl dX7_shelf_46 ?_
        refine w_aload_n dX7_shelf_47 rfl ?_
        refine gf_X7_13 rfl dX7_shelf_48 ?_
        refine w_aload_n dX7_shelf_51 rfl ?_
        refine gf_X7_71 rfl dX7_shelf_52 ?_
        refine w_iload_n dX7_shelf_55 rfl ?_
        refine w_iast rfl (by simp only [put_eq]; simp; omega) hk dX7_shelf_56 ?_
        refine w_aload_n dX7_shelf_57 rfl ?_
        refine w_dup dX7_shelf_58 ?_
        refine gf_X7_71 rfl dX7_shelf_59 ?_
        refine w_iconst dX7_shelf_62 ?_
        refine w_iadd dX7_shelf_63 ?_
        refine pf_X7_71 rfl (by simp only [put_eq]; simp; omega) dX7_shelf_64 ?_
        refine w_aload_n dX7_shelf_67 rfl ?_
        refine cv_X7_151 rfl dX7_shelf_68 (Nat.le_of_ble_eq_true rfl) (Nat.le_of_ble_eq_true rfl) (Wp.mono (cm_ends _) (fun z_ τ_ hq_ => ?_))
        subst τ_
        refine w_aload_n dX7_shelf_71 rfl ?_
        refine gf_X7_71 rfl dX7_shelf_72 ?_
        refine w_iconst dX7_shelf_75 ?_
        refine w_isub dX7_shelf_76 ?_
        refine w_iret dX7_shelf_77 rfl ?_
        exact ⟨fun _ => ⟨by simp [put_eq], by simp [put_eq]⟩, fun nok => absurd nok (by omega)⟩
      · refine w_iconst dX7_shelf_35 ?_
        refine w_iret dX7_shelf_36 rfl ?_
        exact ⟨fun ok => absurd ok (by omega), fun _ => ⟨rfl, rfl⟩⟩

set_option maxRecDepth 100000 in
set_option maxHeartbeats 4000000 in
theorem ct5_turn (σ : St) (s k : Int) (hI : InvM σ) (hs : InR s) (hk : InR k) : Wp mX7_turn 2 (fun z τ => ((0 ≤ s ∧ s < σ 7 1 ∧ 0 ≤ k ∧ k ≤ 2 ∧ σ 58 s ≠ k) → z = 1 ∧ τ = put (put σ 58 s k) 7 21 0) ∧ (¬ (0 ≤ s ∧ s < σ 7 1 ∧ 0 ≤ k ∧ k ≤ 2 ∧ σ 58 s ≠ k) → z = 0 ∧ τ = σ)) 5 [some (.inr 7), some (.inl s), some (.inl k)] [] σ := by
  refine Wp.rg (fun hR => ?_)
  have hns := hI.w.ns
  refine w_aload_n dX7_turn_5 rfl ?_
  refine w_iload_n dX7_turn_6 rfl ?_
  refine cv_X7_117 rfl dX7_turn_7 (Nat.le_of_ble_eq_true rfl) (Nat.le_of_ble_eq_true rfl) (Wp.mono (cm_isShelf _ s hs hns) (fun z_ τ_ hq_ => ?_))
  obtain ⟨hw7, hs_⟩ := hq_
  subst τ_
  refine w_if_eq (tgt := 32) dX7_turn_10 (by decide) (by omega) (fun c_10 => ?_) (fun c_10 => ?_)
  · refine w_iconst dX7_turn_32 ?_
    refine w_zret dX7_turn_33 rfl (by omega) ?_
    exact ⟨fun ok => absurd ok (by omega), fun _ => ⟨rfl, rfl⟩⟩
  · refine w_iload_n dX7_turn_13 rfl ?_
    refine w_iconst dX7_turn_14 ?_
    refine w_iconst dX7_turn_15 ?_
    refine cv_X7_74 rfl dX7_turn_16 (Nat.le_of_ble_eq_true rfl) (Nat.le_of_ble_eq_true rfl) (Wp.mono (cm_isIn _ k 0 2 hk (by omega) (by omega)) (fun z_ τ_ hq_ => ?_))
    obtain ⟨hw16, hs_⟩ := hq_
    subst τ_
    refine w_if_eq (tgt := 32) dX7_turn_19 (by decide) (by omega) (fun c_19 => ?_) (fun c_19 => ?_)
    · refine w_iconst dX7_turn_32 ?_
      refine w_zret dX7_turn_33 rfl (by omega) ?_
      exact ⟨fun ok => absurd ok (by omega), fun _ => ⟨rfl, rfl⟩⟩
    · refine w_aload_n dX7_turn_22 rfl ?_
      refine gf_X7_13 rfl dX7_turn_23 ?_
      refine w_iload_n dX7_turn_26 rfl ?_
      refine w_iald rfl (by omega) dX7_turn_27 ?_
      refine w_iload_n dX7_turn_28 rfl ?_
      refine w_icmp_ne (tgt := 34) dX7_turn_29 (by decide) (hR _ _) hk (fun c_29 => ?_) (fun c_29 => ?_)
      · refine w_aload_n dX7_turn_34 rfl ?_
        refine gf_X7_13 rfl dX7_turn_35 ?_
        refine w_iload_n dX7_turn_38 rfl ?_
        refine w_iload_n dX7_turn_39 rfl ?_
        refine w_iast rfl (by omega) hk dX7_turn_40 ?_
        refine w_aload_n dX7_turn_41 rfl ?_
        refine cv_X7_151 rfl dX7_turn_42 (Nat.le_of_ble_eq_true rfl) (Nat.le_of_ble_eq_true rfl) (Wp.mono (cm_ends _) (fun z_ τ_ hq_ => ?_))
        subst τ_
        refine w_iconst dX7_turn_45 ?_
        refine w_zret dX7_turn_46 rfl (by omega) ?_
        exact ⟨fun _ => ⟨rfl, rfl⟩, fun nok => absurd nok (by omega)⟩
      · refine w_iconst dX7_turn_32 ?_
        refine w_zret dX7_turn_33 rfl (by omega) ?_
        exact ⟨fun ok => absurd ok (by omega), fun _ => ⟨rfl, rfl⟩⟩

set_option maxRecDepth 100000 in
set_option maxHeartbeats 4000000 in
theorem ct5_group (σ : St) (g : Int) (hI : InvM σ) (hg : InR g) : Wp mX7_group 1 (fun z τ => ((0 ≤ g ∧ g ≤ 99 ∧ σ 7 4 < 8) → z = σ 7 4 ∧ τ = put (put (put σ 59 (σ 7 4) g) 7 4 (σ 7 4 + 1)) 7 21 0) ∧ (¬ (0 ≤ g ∧ g ≤ 99 ∧ σ 7 4 < 8) → z = -1 ∧ τ = σ)) 5 [some (.inr 7), some (.inl g)] [] σ := by
  refine Wp.rg (fun hR => ?_)
  have hng := hI.w.ng
  refine w_aload_n dX7_group_5 rfl ?_
  refine gf_X7_78 rfl dX7_group_6 ?_
  refine w_bipush dX7_group_9 (by decide) ?_
  refine w_icmp_eq (tgt := 24) dX7_group_11 (by decide) (by omega) (by omega) (fun c_11 => ?_) (fun c_11 => ?_)
  · refine w_iconst dX7_group_24 ?_
    refine w_iret dX7_group_25 rfl ?_
    exact ⟨fun ok => absurd ok (by omega), fun _ => ⟨rfl, rfl⟩⟩
  · refine w_iload_n dX7_group_14 rfl ?_
    refine w_iconst dX7_group_15 ?_
    refine w_bipush dX7_group_16 (by decide) ?_
    refine cv_X7_74 rfl dX7_group_18 (Nat.le_of_ble_eq_true rfl) (Nat.le_of_ble_eq_true rfl) (Wp.mono (cm_isIn _ g 0 99 hg (by omega) (by omega)) (fun z_ τ_ hq_ => ?_))
    obtain ⟨hw18, hs_⟩ := hq_
    subst τ_
    refine w_if_ne (tgt := 26) dX7_group_21 (by decide) (by omega) (fun c_21 => ?_) (fun c_21 => ?_)
    · refine w_aload_n dX7_group_26 rfl ?_
      refine gf_X7_16 rfl dX7_group_27 ?_
      refine w_aload_n dX7_group_30 rfl ?_
      refine gf_X7_78 rfl dX7_group_31 ?_
      refine w_iload_n dX7_group_34 rfl ?_
      refine w_iast rfl (by omega) hg dX7_group_35 ?_
      refine w_aload_n dX7_group_36 rfl ?_
      refine w_dup dX7_group_37 ?_
      refine gf_X7_78 rfl dX7_group_38 ?_
      refine w_iconst dX7_group_41 ?_
      refine w_iadd dX7_group_42 ?_
      refine pf_X7_78 rfl (by simp only [put_eq]; simp; omega) dX7_group_43 ?_
      refine w_aload_n dX7_group_46 rfl ?_
      refine cv_X7_151 rfl dX7_group_47 (Nat.le_of_ble_eq_true rfl) (Nat.le_of_ble_eq_true rfl) (Wp.mono (cm_ends _) (fun z_ τ_ hq_ => ?_))
      subst τ_
      refine w_aload_n dX7_group_50 rfl ?_
      refine gf_X7_78 rfl dX7_group_51 ?_
      refine w_iconst dX7_group_54 ?_
      refine w_isub dX7_group_55 ?_
      refine w_iret dX7_group_56 rfl ?_
      exact ⟨fun _ => ⟨by simp [put_eq], by simp [put_eq]⟩, fun nok => absurd nok (by omega)⟩
    · refine w_iconst dX7_group_24 ?_
      refine w_iret dX7_group_25 rfl ?_
      exact ⟨fun ok => absurd ok (by omega), fun _ => ⟨rfl, rfl⟩⟩

set_option maxRecDepth 100000 in
set_option maxHeartbeats 4000000 in
theorem ct5_grow (σ : St) (g G : Int) (hI : InvM σ) (hg : InR g) (hG : InR G) : Wp mX7_grow 2 (fun z τ => ((0 ≤ g ∧ g < σ 7 4 ∧ 0 ≤ G ∧ G ≤ 99 ∧ σ 59 g ≠ G) → z = 1 ∧ τ = put (put σ 59 g G) 7 21 0) ∧ (¬ (0 ≤ g ∧ g < σ 7 4 ∧ 0 ≤ G ∧ G ≤ 99 ∧ σ 59 g ≠ G) → z = 0 ∧ τ = σ)) 5 [some (.inr 7), some (.inl g), some (.inl G)] [] σ := by
  refine Wp.rg (fun hR => ?_)
  have hng := hI.w.ng
  refine w_aload_n dX7_grow_5 rfl ?_
  refine w_iload_n dX7_grow_6 rfl ?_
  refine cv_X7_135 rfl dX7_grow_7 (Nat.le_of_ble_eq_true rfl) (Nat.le_of_ble_eq_true rfl) (Wp.mono (cm_isGroup _ g hg hng) (fun z_ τ_ hq_ => ?_))
  obtain ⟨hw7, hs_⟩ := hq_
  subst τ_
  refine w_if_eq (tgt := 33) dX7_grow_10 (by decide) (by omega) (fun c_10 => ?_) (fun c_10 => ?_)
  · refine w_iconst dX7_grow_33 ?_
    refine w_zret dX7_grow_34 rfl (by omega) ?_
    exact ⟨fun ok => absurd ok (by omega), fun _ => ⟨rfl, rfl⟩⟩
  · refine w_iload_n dX7_grow_13 rfl ?_
    refine w_iconst dX7_grow_14 ?_
    refine w_bipush dX7_grow_15 (by decide) ?_
    refine cv_X7_74 rfl dX7_grow_17 (Nat.le_of_ble_eq_true rfl) (Nat.le_of_ble_eq_true rfl) (Wp.mono (cm_isIn _ G 0 99 hG (by omega) (by omega)) (fun z_ τ_ hq_ => ?_))
    obtain ⟨hw17, hs_⟩ := hq_
    subst τ_
    refine w_if_eq (tgt := 33) dX7_grow_20 (by decide) (by omega) (fun c_20 => ?_) (fun c_20 => ?_)
    · refine w_iconst dX7_grow_33 ?_
      refine w_zret dX7_grow_34 rfl (by omega) ?_
      exact ⟨fun ok => absurd ok (by omega), fun _ => ⟨rfl, rfl⟩⟩
    · refine w_aload_n dX7_grow_23 rfl ?_
      refine gf_X7_16 rfl dX7_grow_24 ?_
      refine w_iload_n dX7_grow_27 rfl ?_
      refine w_iald rfl (by omega) dX7_grow_28 ?_
      refine w_iload_n dX7_grow_29 rfl ?_
      refine w_icmp_ne (tgt := 35) dX7_grow_30 (by decide) (hR _ _) hG (fun c_30 => ?_) (fun c_30 => ?_)
      · refine w_aload_n dX7_grow_35 rfl ?_
        refine gf_X7_16 rfl dX7_grow_36 ?_
        refine w_iload_n dX7_grow_39 rfl ?_
        refine w_iload_n dX7_grow_40 rfl ?_
        refine w_iast rfl (by omega) hG dX7_grow_41 ?_
        refine w_aload_n dX7_grow_42 rfl ?_
        refine cv_X7_151 rfl dX7_grow_43 (Nat.le_of_ble_eq_true rfl) (Nat.le_of_ble_eq_true rfl) (Wp.mono (cm_ends _) (fun z_ τ_ hq_ => ?_))
        subst τ_
        refine w_iconst dX7_grow_46 ?_
        refine w_zret dX7_grow_47 rfl (by omega) ?_
        exact ⟨fun _ => ⟨rfl, rfl⟩, fun nok => absurd nok (by omega)⟩
      · refine w_iconst dX7_grow_33 ?_
        refine w_zret dX7_grow_34 rfl (by omega) ?_
        exact ⟨fun ok => absurd ok (by omega), fun _ => ⟨rfl, rfl⟩⟩

set_option maxRecDepth 100000 in
set_option maxHeartbeats 4000000 in
theorem ct5_limit (σ : St) (v : Int) (hv : InR v) : Wp mX7_limit 1 (fun z τ => ((40 ≤ v ∧ v ≤ 400 ∧ v ≠ σ 7 12) → z = 1 ∧ τ = put σ 7 12 v) ∧ (¬ (40 ≤ v ∧ v ≤ 400 ∧ v ≠ σ 7 12) → z = 0 ∧ τ = σ)) 5 [some (.inr 7), some (.inl v)] [] σ := by
  refine Wp.rg (fun hR => ?_)
  refine w_iload_n dX7_limit_5 rfl ?_
  refine w_bipush dX7_limit_6 (by decide) ?_
  refine w_sipush dX7_limit_8 (by decide) ?_
  refine cv_X7_74 rfl dX7_limit_11 (Nat.le_of_ble_eq_true rfl) (Nat.le_of_ble_eq_true rfl) (Wp.mono (cm_isIn _ v 40 400 hv (by omega) (by omega)) (fun z_ τ_ hq_ => ?_))
  obtain ⟨hw11, hs_⟩ := hq_
  subst τ_
  refine w_if_eq (tgt := 25) dX7_limit_14 (by decide) (by omega) (fun c_14 => ?_) (fun c_14 => ?_)
  · refine w_iconst dX7_limit_25 ?_
    refine w_zret dX7_limit_26 rfl (by omega) ?_
    exact ⟨fun ok => absurd ok (by omega), fun _ => ⟨rfl, rfl⟩⟩
  · refine w_aload_n dX7_limit_17 rfl ?_
    refine gf_X7_31 rfl dX7_limit_18 ?_
    refine w_iload_n dX7_limit_21 rfl ?_
    refine w_icmp_ne (tgt := 27) dX7_limit_22 (by decide) (hR _ _) hv (fun c_22 => ?_) (fun c_22 => ?_)
    · refine w_aload_n dX7_limit_27 rfl ?_
      refine w_iload_n dX7_limit_28 rfl ?_
      refine pf_X7_31 rfl hv dX7_limit_29 ?_
      refine w_iconst dX7_limit_32 ?_
      refine w_zret dX7_limit_33 rfl (by omega) ?_
      exact ⟨fun _ => ⟨rfl, rfl⟩, fun nok => absurd nok (by omega)⟩
    · refine w_iconst dX7_limit_25 ?_
      refine w_zret dX7_limit_26 rfl (by omega) ?_
      exact ⟨fun ok => absurd ok (by omega), fun _ => ⟨rfl, rfl⟩⟩

set_option maxRecDepth 100000 in
set_option maxHeartbeats 4000000 in
theorem ct5_drop (σ : St) (hI : InvM σ) : Wp mX7_drop 1 (fun z τ => (σ 7 21 = 1 → z = σ 7 23 - σ 7 24 ∧ τ = put σ 7 21 0) ∧ (¬ σ 7 21 = 1 → z = -1 ∧ τ = σ)) 5 [some (.inr 7)] [] σ := by
  refine Wp.rg (fun hR => ?_)
  have hpf := hI.pf
  refine w_aload_n dX7_drop_5 rfl ?_
  refine gf_X7_164 rfl dX7_drop_6 ?_
  refine w_if_ne (tgt := 14) dX7_drop_9 (by decide) (by omega) (fun c_9 => ?_) (fun c_9 => ?_)
  · refine w_aload_n dX7_drop_14 rfl ?_
    refine cv_X7_151 rfl dX7_drop_15 (Nat.le_of_ble_eq_true rfl) (Nat.le_of_ble_eq_true rfl) (Wp.mono (cm_ends _) (fun z_ τ_ hq_ => ?_))
    subst τ_
    refine w_aload_n dX7_drop_18 rfl ?_
    refine gf_X7_171 rfl dX7_drop_19 ?_
    refine w_aload_n dX7_drop_22 rfl ?_
    refine gf_X7_174 rfl dX7_drop_23 ?_
    refine w_isub dX7_drop_26 ?_
    refine w_iret dX7_drop_27 rfl ?_
    exact ⟨fun _ => ⟨by simp [put_eq], rfl⟩, fun nok => absurd nok (by omega)⟩
  · refine w_iconst dX7_drop_12 ?_
    refine w_iret dX7_drop_13 rfl ?_
    exact ⟨fun ok => absurd ok (by omega), fun _ => ⟨rfl, rfl⟩⟩

set_option maxRecDepth 100000 in
set_option maxHeartbeats 4000000 in
theorem ct5_cut (σ : St) (y s : Int) (hI : InvM σ) (hy : InR y) (hs : InR s) : Wp mX7_cut 3 (fun z τ => frM σ τ ∧ (¬ (0 ≤ s ∧ s < σ 7 1 ∧ 0 ≤ y ∧ y ≤ 999) → z = -1) ∧ ((0 ≤ s ∧ s < σ 7 1 ∧ 0 ≤ y ∧ y ≤ 999) → ∃ L, TblL (cpM σ y) (σ 7 1) (σ 7 6) L ∧ ((1000000000 ≤ L 0 0 ∧ z = -1) ∨ (L 0 0 < 1000000000 ∧ ∃ tk, IsCut (cpM σ y) (σ 7 1) (σ 7 6) L tk ∧ z = tk s)))) 5 [some (.inr 7), some (.inl y), some (.inl s)] [] σ := by
  refine Wp.rg (fun hR => ?_)
  have hns := hI.w.ns
  refine w_aload_n dX7_cut_5 rfl ?_
  refine w_iload_n dX7_cut_6 rfl ?_
  refine cv_X7_117 rfl dX7_cut_7 (Nat.le_of_ble_eq_true rfl) (Nat.le_of_ble_eq_true rfl) (Wp.mono (cm_isShelf _ s hs hns) (fun z_ τ_ hq_ => ?_))
  obtain ⟨hw7, hs_⟩ := hq_
  subst τ_
  refine w_if_eq (tgt := 37) dX7_cut_10 (by decide) (by omega) (fun c_10 => ?_) (fun c_10 => ?_)
  · refine w_iconst dX7_cut_37 ?_
    refine w_iret dX7_cut_38 rfl ?_
    first
    | exact ⟨frM.rf σ, fun _ => rfl, fun q => absurd q (by omega)⟩
    | (refine ⟨hfr, fun q => absurd q (by omega), fun _ => ⟨L, g1, ?_⟩⟩
       rcases g3 with g3 | g3
       · first
         | exact Or.inr ⟨g3.2.1, _, g3.2.2, rfl⟩
         | exact absurd g3.1 (by omega)
       · first
         | exact Or.inl ⟨g3.2, rfl⟩
         | exact absurd g3.1 (by omega))
  · refine w_iload_n dX7_cut_13 rfl ?_
    refine cv_X7_121 rfl dX7_cut_14 (Nat.le_of_ble_eq_true rfl) (Nat.le_of_ble_eq_true rfl) (Wp.mono (cm_isYears _ y hy) (fun z_ τ_ hq_ => ?_))
    obtain ⟨hw14, hs_⟩ := hq_
    subst τ_
    refine w_if_eq (tgt := 37) dX7_cut_17 (by decide) (by omega) (fun c_17 => ?_) (fun c_17 => ?_)
    · refine w_iconst dX7_cut_37 ?_
      refine w_iret dX7_cut_38 rfl ?_
      first
      | exact ⟨frM.rf σ, fun _ => rfl, fun q => absurd q (by omega)⟩
      | (refine ⟨hfr, fun q => absurd q (by omega), fun _ => ⟨L, g1, ?_⟩⟩
         rcases g3 with g3 | g3
         · first
           | exact Or.inr ⟨g3.2.1, _, g3.2.2, rfl⟩
           | exact absurd g3.1 (by omega)
         · first
           | exact Or.inl ⟨g3.2, rfl⟩
           | exact absurd g3.1 (by omega))
    · refine w_aload_n dX7_cut_20 rfl ?_
      refine w_iload_n dX7_cut_21 rfl ?_
      refine cv_X7_124 rfl dX7_cut_22 (Nat.le_of_ble_eq_true rfl) (Nat.le_of_ble_eq_true rfl) (Wp.mono (cm_cuts σ y hI.w (by omega)) (fun z_ τ_ hq_ => ?_))
      obtain ⟨L, g1, g2, g3, g4⟩ := hq_
      have hz01 : z_ = 0 ∨ z_ = 1 := by omega
      have hfr : frM σ τ_ := frM.of g4
      refine w_if_eq (tgt := 37) dX7_cut_25 (by decide) (by omega) (fun c_25 => ?_) (fun c_25 => ?_)
      · refine w_iconst dX7_cut_37 ?_
        refine w_iret dX7_cut_38 rfl ?_
        first
        | exact ⟨frM.rf σ, fun _ => rfl, fun q => absurd q (by omega)⟩
        | (refine ⟨hfr, fun q => absurd q (by omega), fun _ => ⟨L, g1, ?_⟩⟩
           rcases g3 with g3 | g3
           · first
             | exact Or.inr ⟨g3.2.1, _, g3.2.2, rfl⟩
             | exact absurd g3.1 (by omega)
           · first
             | exact Or.inl ⟨g3.2, rfl⟩
             | exact absurd g3.1 (by omega))
      · refine w_aload_n dX7_cut_28 rfl ?_
        refine gf_X7_47 rfl dX7_cut_29 ?_
        refine w_iload_n dX7_cut_32 rfl ?_
        refine w_iald rfl (by omega) dX7_cut_33 ?_
        refine w_goto (tgt := 38) dX7_cut_34 (by decide) ?_
        refine w_iret dX7_cut_38 rfl ?_
        first
        | exact ⟨frM.rf σ, fun _ => rfl, fun q => absurd q (by omega)⟩
        | (refine ⟨hfr, fun q => absurd q (by omega), fun _ => ⟨L, g1, ?_⟩⟩
           rcases g3 with g3 | g3
           · first
             | exact Or.inr ⟨g3.2.1, _, g3.2.2, rfl⟩
             | exact absurd g3.1 (by omega)
           · first
             | exact Or.inl ⟨g3.2, rfl⟩
             | exact absurd g3.1 (by omega))

set_option maxRecDepth 100000 in
set_option maxHeartbeats 4000000 in
theorem ct5_price (σ : St) (y w : Int) (hI : InvM σ) (hy : InR y) (hw : InR w) : Wp mX7_price 3 (fun z τ => frM σ τ ∧ (¬ (0 ≤ w ∧ w ≤ 2 ∧ 0 ≤ y ∧ y ≤ 999) → z = -1) ∧ ((0 ≤ w ∧ w ≤ 2 ∧ 0 ≤ y ∧ y ≤ 999) → ∃ L, TblL (cpM σ y) (σ 7 1) (σ 7 6) L ∧ ((1000000000 ≤ L 0 0 ∧ z = -1) ∨ (L 0 0 < 1000000000 ∧ z = if w = 0 then L 0 0 / 1000000 else if w = 1 then L 0 0 % 1000000 / 100 else L 0 0 % 100)))) 5 [some (.inr 7), some (.inl y), some (.inl w)] [] σ := by
  refine Wp.rg (fun hR => ?_)
  have hns := hI.w.ns
  refine w_iload_n dX7_price_5 rfl ?_
  refine cv_X7_121 rfl dX7_price_6 (Nat.le_of_ble_eq_true rfl) (Nat.le_of_ble_eq_true rfl) (Wp.mono (cm_isYears _ y hy) (fun z_ τ_ hq_ => ?_))
  obtain ⟨hw6, hs_⟩ := hq_
  subst τ_
  refine w_if_eq (tgt := 29) dX7_price_9 (by decide) (by omega) (fun c_9 => ?_) (fun c_9 => ?_)
  · refine w_iconst dX7_price_29 ?_
    refine w_iret dX7_price_30 rfl ?_
    first
    | exact ⟨frM.rf σ, fun _ => rfl, fun q => absurd q (by omega)⟩
    | exact ⟨hfr, fun q => absurd q (by omega), fun _ => ⟨L, g1, Or.inl ⟨by omega, rfl⟩⟩⟩
  · refine w_iload_n dX7_price_12 rfl ?_
    refine w_iconst dX7_price_13 ?_
    refine w_iconst dX7_price_14 ?_
    refine cv_X7_74 rfl dX7_price_15 (Nat.le_of_ble_eq_true rfl) (Nat.le_of_ble_eq_true rfl) (Wp.mono (cm_isIn _ w 0 2 hw (by omega) (by omega)) (fun z_ τ_ hq_ => ?_))
    obtain ⟨hw15, hs_⟩ := hq_
    subst τ_
    refine w_if_eq (tgt := 29) dX7_price_18 (by decide) (by omega) (fun c_18 => ?_) (fun c_18 => ?_)
    · refine w_iconst dX7_price_29 ?_
      refine w_iret dX7_price_30 rfl ?_
      first
      | exact ⟨frM.rf σ, fun _ => rfl, fun q => absurd q (by omega)⟩
      | exact ⟨hfr, fun q => absurd q (by omega), fun _ => ⟨L, g1, Or.inl ⟨by omega, rfl⟩⟩⟩
    · refine w_aload_n dX7_price_21 rfl ?_
      refine w_iload_n dX7_price_22 rfl ?_
      refine cv_X7_124 rfl dX7_price_23 (Nat.le_of_ble_eq_true rfl) (Nat.le_of_ble_eq_true rfl) (Wp.mono (cm_cuts σ y hI.w (by omega)) (fun z_ τ_ hq_ => ?_))
      obtain ⟨L, g1, g2, g3, g4⟩ := hq_
      have hz01 : z_ = 0 ∨ z_ = 1 := by omega
      have hfr : frM σ τ_ := frM.of g4
      refine w_if_ne (tgt := 31) dX7_price_26 (by decide) (by omega) (fun c_26 => ?_) (fun c_26 => ?_)
      · have hpp : 0 ≤ τ_ 67 0 ∧ τ_ 67 0 ≤ 1000000000 := by
          rw [← g2]
          exact g1.bd (hI.w.cp (by omega)) 0 (by omega) hns.1 0 (by omega) hI.w.nb.1
        refine w_iload_n dX7_price_31 rfl ?_
        refine w_if_ne (tgt := 47) dX7_price_32 (by decide) (by omega) (fun c_32 => ?_) (fun c_32 => ?_)
        · refine w_iload_n dX7_price_47 rfl ?_
          refine w_iconst dX7_price_48 ?_
          refine w_icmp_ne (tgt := 67) dX7_price_49 (by decide) (by omega) (by omega) (fun c_49 => ?_) (fun c_49 => ?_)
          · refine w_aload_n dX7_price_67 rfl ?_
            refine gf_X7_44 rfl dX7_price_68 ?_
            refine w_iconst dX7_price_71 ?_
            refine w_iald rfl (by omega) dX7_price_72 ?_
            refine w_bipush dX7_price_73 (by decide) ?_
            refine w_iremN dX7_price_75 (by omega) (by omega) (by omega) (by omega) ?_
            refine w_iret dX7_price_76 rfl ?_
            refine ⟨hfr, fun q => absurd q (by omega), fun _ => ⟨L, g1, Or.inr ⟨by omega, ?_⟩⟩⟩
            rw [g2]
            first
            | rw [if_pos (by omega)]
            | rw [if_neg (by omega), if_pos (by omega)]
            | rw [if_neg (by omega), if_neg (by omega)]
          · refine w_aload_n dX7_price_52 rfl ?_
            refine gf_X7_44 rfl dX7_price_53 ?_
            refine w_iconst dX7_price_56 ?_
            refine w_iald rfl (by omega) dX7_price_57 ?_
            refine w_ldc (n := 1000000) dX7_price_58 tw_859 ?_
            refine w_iremN dX7_price_60 (by omega) (by omega) (by omega) (by omega) ?_
            refine w_bipush dX7_price_61 (by decide) ?_
            refine w_idivN dX7_price_63 (by omega) (by omega) (by omega) (by omega) ?_
            refine w_goto (tgt := 76) dX7_price_64 (by decide) ?_
            refine w_iret dX7_price_76 rfl ?_
            refine ⟨hfr, fun q => absurd q (by omega), fun _ => ⟨L, g1, Or.inr ⟨by omega, ?_⟩⟩⟩
            rw [g2]
            first
            | rw [if_pos (by omega)]
            | rw [if_neg (by omega), if_pos (by omega)]
            | rw [if_neg (by omega), if_neg (by omega)]
        · refine w_aload_n dX7_price_35 rfl ?_
          refine gf_X7_44 rfl dX7_price_36 ?_
          refine w_iconst dX7_price_39 ?_
          refine w_iald rfl (by omega) dX7_price_40 ?_
          refine w_ldc (n := 1000000) dX7_price_41 tw_859 ?_
          refine w_idivN dX7_price_43 (by omega) (by omega) (by omega) (by omega) ?_
          refine w_goto (tgt := 76) dX7_price_44 (by decide) ?_
          refine w_iret dX7_price_76 rfl ?_
          refine ⟨hfr, fun q => absurd q (by omega), fun _ => ⟨L, g1, Or.inr ⟨by omega, ?_⟩⟩⟩
          rw [g2]
          first
          | rw [if_pos (by omega)]
          | rw [if_neg (by omega), if_pos (by omega)]
          | rw [if_neg (by omega), if_neg (by omega)]
      · refine w_iconst dX7_price_29 ?_
        refine w_iret dX7_price_30 rfl ?_
        first
        | exact ⟨frM.rf σ, fun _ => rfl, fun q => absurd q (by omega)⟩
        | exact ⟨hfr, fun q => absurd q (by omega), fun _ => ⟨L, g1, Or.inl ⟨by omega, rfl⟩⟩⟩

