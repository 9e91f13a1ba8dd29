/-- one move of the reference's plan -/
def StM (σ τ : St) : Prop := (∀ es, RepM σ es → RepM τ (es ++ [(if σ 62 (σ 71 (σ 7 24)) < (σ 73 (σ 7 24)) then 1 else 2, (σ 71 (σ 7 24)), σ 61 (σ 71 (σ 7 24)), σ 62 (σ 71 (σ 7 24)), (σ 73 (σ 7 24)))])) ∧ τ 62 = upF (σ 62) (σ 71 (σ 7 24)) (σ 73 (σ 7 24)) ∧ τ 63 = upF (σ 63) (σ 71 (σ 7 24)) (wr (σ 63 (σ 71 (σ 7 24)) + 1)) ∧ τ 7 11 = wr (σ 7 11 + 1) ∧ τ 7 24 = σ 7 24 + 1 ∧ (τ 7 21 = if σ 7 24 + 1 = σ 7 23 then 0 else σ 7 21) ∧ (∀ j, j ≠ 11 → j ≠ 14 → j ≠ 21 → j ≠ 24 → τ 7 j = σ 7 j) ∧ ∀ k, k ≠ 7 → k ≠ 62 → k ≠ 63 → k ≠ 64 → τ k = σ k
def ItM : Nat → St → St → Prop
  | 0, σ, τ => τ = σ
  | k + 1, σ, τ => ∃ υ, ItM k σ υ ∧ StM υ τ

set_option maxRecDepth 100000 in
set_option maxHeartbeats 4000000 in
theorem cm_goesOn (σ : St) (hc : 0 ≤ σ 7 14 ∧ σ 7 14 ≤ 40) (hd : 0 ≤ σ 7 24 ∧ σ 7 24 < 60) (hb : 0 ≤ σ 71 (σ 7 24) ∧ σ 71 (σ 7 24) < 60) : Wp mX7_goesOn 2 (fun z τ => z = σ 71 (σ 7 24) ∧ StM σ τ) 0 [some (.inr 7), none] [] σ := by
  refine Wp.rg (fun hR => ?_)
  refine w_aload_n dX7_goesOn_0 rfl ?_
  refine gf_X7_56 rfl dX7_goesOn_1 ?_
  refine w_aload_n dX7_goesOn_4 rfl ?_
  refine gf_X7_174 rfl dX7_goesOn_5 ?_
  refine w_iald rfl (by omega) dX7_goesOn_8 ?_
  refine w_istore_n dX7_goesOn_9 (Nat.le_of_ble_eq_true rfl) ?_
  refine w_aload_n dX7_goesOn_10 rfl ?_
  refine w_iload_n dX7_goesOn_11 rfl ?_
  refine w_aload_n dX7_goesOn_12 rfl ?_
  refine gf_X7_62 rfl dX7_goesOn_13 ?_
  refine w_aload_n dX7_goesOn_16 rfl ?_
  refine gf_X7_174 rfl dX7_goesOn_17 ?_
  refine w_iald rfl (by omega) dX7_goesOn_20 ?_
  refine cv_X7_154 rfl dX7_goesOn_21 (Nat.le_of_ble_eq_true rfl) (Nat.le_of_ble_eq_true rfl) (Wp.mono (cm_moves σ _ _ hc hb (hR _ _)) (fun z_ τ_ hq_ => ?_))
  obtain ⟨υ, hυ⟩ : ∃ υ, υ = τ_ := ⟨_, rfl⟩
  rw [← hυ] at hq_ ⊢
  clear hυ
  obtain ⟨u1, u2, u3, u4, u5, u6⟩ := hq_
  have u24 := u5 24 (by decide) (by decide)
  have u23 := u5 23 (by decide) (by decide)
  refine Wp.rg (fun hR2 => ?_)
  refine w_aload_n dX7_goesOn_24 rfl ?_
  refine w_dup dX7_goesOn_25 ?_
  refine gf_X7_174 rfl dX7_goesOn_26 ?_
  refine w_iconst dX7_goesOn_29 ?_
  refine w_iadd dX7_goesOn_30 ?_
  refine pf_X7_174 rfl (by omega) dX7_goesOn_31 ?_
  refine w_aload_n dX7_goesOn_34 rfl ?_
  refine gf_X7_174 rfl dX7_goesOn_35 ?_
  refine w_aload_n dX7_goesOn_38 rfl ?_
  refine gf_X7_171 rfl dX7_goesOn_39 ?_
  rw [show put υ 7 24 (υ 7 24 + 1) 7 24 = υ 7 24 + 1 by simp [put_eq], show put υ 7 24 (υ 7 24 + 1) 7 23 = υ 7 23 by simp [put_eq]]
  refine w_icmp_ne (tgt := 49) dX7_goesOn_42 (by decide) (by omega) (hR2 _ _) (fun c_42 => ?_) (fun c_42 => ?_)
  · refine w_iload_n dX7_goesOn_49 rfl ?_
    refine w_iret dX7_goesOn_50 rfl ?_
    refine ⟨rfl, fun es he => (u1 es he).keep (by simp [put_eq]) (by simp only [put_ne (show (64 : Nat) ≠ 7 by decide)]), ?_, ?_, ?_, ?_, ?_, fun j j11 j14 j21 j24 => ?_, fun k k7 k62 k63 k64 => ?_⟩
    · simp only [put_ne (show (62 : Nat) ≠ 7 by decide)]; exact u2
    · simp only [put_ne (show (63 : Nat) ≠ 7 by decide)]; exact u3
    · simp [put_eq]; exact u4
    · simp [put_eq]; omega
    · rw [u24, u23] at c_42
      first
      | (rw [if_neg c_42]; simp [put_eq]; exact u5 21 (by decide) (by decide))
      | (rw [if_pos (by omega)]; simp [put_eq])
    · simp [put_eq, j21, j24]; exact u5 j j11 j14
    · simp only [put_ne k7]; exact u6 k k7 k62 k63 k64
  · refine w_aload_n dX7_goesOn_45 rfl ?_
    refine cv_X7_151 rfl dX7_goesOn_46 (Nat.le_of_ble_eq_true rfl) (Nat.le_of_ble_eq_true rfl) (Wp.mono (cm_ends _) (fun z_ τ_ hq_ => ?_))
    subst τ_
    refine w_iload_n dX7_goesOn_49 rfl ?_
    refine w_iret dX7_goesOn_50 rfl ?_
    refine ⟨rfl, fun es he => (u1 es he).keep (by simp [put_eq]) (by simp only [put_ne (show (64 : Nat) ≠ 7 by decide)]), ?_, ?_, ?_, ?_, ?_, fun j j11 j14 j21 j24 => ?_, fun k k7 k62 k63 k64 => ?_⟩
    · simp only [put_ne (show (62 : Nat) ≠ 7 by decide)]; exact u2
    · simp only [put_ne (show (63 : Nat) ≠ 7 by decide)]; exact u3
    · simp [put_eq]; exact u4
    · simp [put_eq]; omega
    · rw [u24, u23] at c_42
      first
      | (rw [if_neg c_42]; simp [put_eq]; exact u5 21 (by decide) (by decide))
      | (rw [if_pos (by omega)]; simp [put_eq])
    · simp [put_eq, j21, j24]; exact u5 j j11 j14
    · simp only [put_ne k7]; exact u6 k k7 k62 k63 k64

set_option maxRecDepth 100000 in
set_option maxHeartbeats 4000000 in
theorem ct5_move (σ : St) (hI : InvM σ) : Wp mX7_move 3 (fun z τ => (σ 7 21 = 1 → z = σ 71 (σ 7 24) ∧ StM σ τ) ∧ (¬ σ 7 21 = 1 → z = -1 ∧ τ = σ)) 5 [some (.inr 7)] [] σ := by
  refine Wp.rg (fun hR => ?_)
  have hpf := hI.pf
  refine w_aload_n dX7_move_5 rfl ?_
  refine gf_X7_164 rfl dX7_move_6 ?_
  refine w_if_eq (tgt := 19) dX7_move_9 (by decide) (by omega) (fun c_9 => ?_) (fun c_9 => ?_)
  · refine w_iconst dX7_move_19 ?_
    refine w_iret dX7_move_20 rfl ?_
    first
    | exact ⟨fun _ => hq_, fun nok => absurd nok (by omega)⟩
    | exact ⟨fun ok => absurd ok (by omega), fun _ => ⟨rfl, rfl⟩⟩
  · refine w_aload_n dX7_move_12 rfl ?_
    refine cv_X7_183 rfl dX7_move_13 (Nat.le_of_ble_eq_true rfl) (Nat.le_of_ble_eq_true rfl) (Wp.mono (cm_goesOn σ (by obtain ⟨es, he⟩ := hI.lg; exact he.cnt) (by have := hI.pl (by omega); omega) (by have h1 := hI.pl (by omega); have h2 := h1.2 (σ 7 24) (by omega) (by omega); have h3 := hI.w.nb; omega)) (fun z_ τ_ hq_ => ?_))
    refine w_goto (tgt := 20) dX7_move_16 (by decide) ?_
    refine w_iret dX7_move_20 rfl ?_
    first
    | exact ⟨fun _ => hq_, fun nok => absurd nok (by omega)⟩
    | exact ⟨fun ok => absurd ok (by omega), fun _ => ⟨rfl, rfl⟩⟩

set_option maxRecDepth 100000 in
set_option maxHeartbeats 4000000 in
theorem ct5_day (σ : St) (hI : InvM σ) : Wp mX7_day 3 (fun z τ => (σ 7 21 = 1 → IsDay (fun i => σ 61 (σ 71 i)) (σ 7 24) (σ 7 23) (σ 7 12) z ∧ ItM z.toNat σ τ) ∧ (¬ σ 7 21 = 1 → z = -1 ∧ τ = σ)) 5 [some (.inr 7), none, none, none] [] σ := by
  refine Wp.rg (fun hR => ?_)
  have hpf := hI.pf
  refine w_aload_n dX7_day_5 rfl ?_
  refine gf_X7_164 rfl dX7_day_6 ?_
  refine w_if_ne (tgt := 14) dX7_day_9 (by decide) (by omega) (fun c_9 => ?_) (fun c_9 => ?_)
  · refine w_iconst dX7_day_14 ?_
    refine w_istore_n dX7_day_15 (Nat.le_of_ble_eq_true rfl) ?_
    refine w_aload_n dX7_day_16 rfl ?_
    refine gf_X7_31 rfl dX7_day_17 ?_
    refine w_istore_n dX7_day_20 (Nat.le_of_ble_eq_true rfl) ?_
    have hpl := hI.pl (by omega)
    have hlm := hI.lm
    have hnb := hI.w.nb
    refine up_to (σ 7 23 - σ 7 24) (fun i => 0 ≤ i → ∀ (τ : St) (a : Int) (x3 : Option PV), (a = σ 7 12 - sumF (fun i => σ 61 (σ 71 i)) (σ 7 24) i ∧ 0 ≤ a ∧ a ≤ 400 ∧ ItM i.toNat σ τ ∧ (∃ es, RepM τ es) ∧ τ 61 = σ 61 ∧ τ 71 = σ 71 ∧ τ 7 24 = σ 7 24 + i ∧ τ 7 23 = σ 7 23 ∧ (τ 7 21 = if i = σ 7 23 - σ 7 24 then 0 else 1)) → Wp mX7_day 3 (fun z τ => (σ 7 21 = 1 → IsDay (fun i => σ 61 (σ 71 i)) (σ 7 24) (σ 7 23) (σ 7 12) z ∧ ItM z.toNat σ τ) ∧ (¬ σ 7 21 = 1 → z = -1 ∧ τ = σ)) 21 [some (.inr 7), some (.inl i), some (.inl a), x3] [] τ) (fun i hi ih h0 τ a x3 hinv => ?_) (0) (by omega) (by omega) σ _ _ ⟨by rw [sumF_0]; omega, by omega, by omega, rfl, hI.lg, rfl, rfl, by omega, rfl, by rw [if_neg (by omega)]; omega⟩
    obtain ⟨q1, q2, q3, q4, q4b, q5, q6, q7, q8, q9⟩ := hinv
    refine Wp.rg (fun hR2 => ?_)
    refine w_aload_n dX7_day_21 rfl ?_
    refine gf_X7_164 rfl dX7_day_22 ?_
    refine w_if_eq (tgt := 74) dX7_day_25 (by decide) (by rw [q9]; split <;> omega) (fun c_25 => ?_) (fun c_25 => ?_)
    · refine w_iload_n dX7_day_74 rfl ?_
      refine w_iret dX7_day_75 rfl ?_
      refine ⟨fun _ => ⟨⟨h0, by omega, by omega, ?_⟩, q4⟩, fun nok => absurd nok (by omega)⟩
      first
      | (left
         by_cases e : i = σ 7 23 - σ 7 24
         · omega
         · rw [if_neg e] at q9; omega)
      | (right
         rw [q5, q6, q7] at c_43
         rw [hss]
         omega)
    · have hlt : i < σ 7 23 - σ 7 24 := by
        by_cases e : i = σ 7 23 - σ 7 24
        · rw [if_pos e] at q9; exact absurd q9 c_25
        · omega
      have hmv := hpl.2 (σ 7 24 + i) (by omega) (by omega)
      have hbk := hI.w.bk (σ 71 (σ 7 24 + i)) (by omega) (by omega)
      have hss := sumF_s (fun i => σ 61 (σ 71 i)) (σ 7 24) h0
      refine w_aload_n dX7_day_28 rfl ?_
      refine gf_X7_22 rfl dX7_day_29 ?_
      refine w_aload_n dX7_day_32 rfl ?_
      refine gf_X7_56 rfl dX7_day_33 ?_
      refine w_aload_n dX7_day_36 rfl ?_
      refine gf_X7_174 rfl dX7_day_37 ?_
      refine w_iald rfl (by omega) dX7_day_40 ?_
      refine w_iald rfl (by rw [q6, q7]; omega) dX7_day_41 ?_
      refine w_iload_n dX7_day_42 rfl ?_
      refine w_icmp_gt (tgt := 74) dX7_day_43 (by decide) (by rw [q5, q6, q7]; omega) (by omega) (fun c_43 => ?_) (fun c_43 => ?_)
      · refine w_iload_n dX7_day_74 rfl ?_
        refine w_iret dX7_day_75 rfl ?_
        refine ⟨fun _ => ⟨⟨h0, by omega, by omega, ?_⟩, q4⟩, fun nok => absurd nok (by omega)⟩
        first
        | (left
           by_cases e : i = σ 7 23 - σ 7 24
           · omega
           · rw [if_neg e] at q9; omega)
        | (right
           rw [q5, q6, q7] at c_43
           rw [hss]
           omega)
      · rw [q5, q6, q7] at c_43
        refine w_iload_n dX7_day_46 rfl ?_
        refine w_aload_n dX7_day_47 rfl ?_
        refine gf_X7_22 rfl dX7_day_48 ?_
        refine w_aload_n dX7_day_51 rfl ?_
        refine gf_X7_56 rfl dX7_day_52 ?_
        refine w_aload_n dX7_day_55 rfl ?_
        refine gf_X7_174 rfl dX7_day_56 ?_
        refine w_iald rfl (by omega) dX7_day_59 ?_
        refine w_iald rfl (by rw [q6, q7]; omega) dX7_day_60 ?_
        refine w_isub dX7_day_61 ?_
        rw [q5, q6, q7]
        refine w_istore_n dX7_day_62 (Nat.le_of_ble_eq_true rfl) ?_
        refine w_aload_n dX7_day_63 rfl ?_
        refine cv_X7_183 rfl dX7_day_64 (Nat.le_of_ble_eq_true rfl) (Nat.le_of_ble_eq_true rfl) (Wp.mono (cm_goesOn τ (by obtain ⟨es, he⟩ := q4b; exact he.cnt) (by omega) (by rw [q6, q7]; omega)) (fun z_ τ_ hq_ => ?_))
        obtain ⟨hz_, hst⟩ := hq_
        have s24 := hst.2.2.2.2.1
        have s21 := hst.2.2.2.2.2.1
        have s7 := hst.2.2.2.2.2.2.1
        have sk := hst.2.2.2.2.2.2.2
        refine w_istore_n dX7_day_67 (Nat.le_of_ble_eq_true rfl) ?_
        refine w_iinc dX7_day_68 (Nat.le_of_ble_eq_true rfl) rfl ?_
        refine w_goto (tgt := 21) dX7_day_71 (by decide) ?_
        refine ih (by omega) (by omega) _ _ _ ⟨by rw [hss, q1]; omega, by omega, by omega, by rw [show (i + 1).toNat = i.toNat + 1 by omega]; exact ⟨τ, q4, hst⟩, ?_, by rw [sk 61 (by decide) (by decide) (by decide) (by decide)]; exact q5, by rw [sk 71 (by decide) (by decide) (by decide) (by decide)]; exact q6, by rw [s24]; omega, by rw [s7 23 (by decide) (by decide) (by decide) (by decide)]; exact q8, ?_⟩
        · obtain ⟨es, he⟩ := q4b
          exact ⟨_, hst.1 es he⟩
        · rw [s21, q7, q8]
          by_cases e : i + 1 = σ 7 23 - σ 7 24
          · rw [if_pos e, if_pos (by omega)]
          · rw [if_neg e, if_neg (by omega), q9, if_neg (by omega)]
  · refine w_iconst dX7_day_12 ?_
    refine w_iret dX7_day_13 rfl ?_
    exact ⟨fun ok => absurd ok (by omega), fun _ => ⟨rfl, rfl⟩⟩

set_option maxRecDepth 100000 in
set_option maxHeartbeats 4000000 in
theorem ct5_gone (σ : St) (b : Int) (hI : InvM σ) (hb : InR b) : Wp mX7_gone 2 (fun z τ => ((0 ≤ b ∧ b < σ 7 6) → z = σ 62 b ∧ (∀ es, RepM σ es → RepM τ (es ++ [(3, b, σ 61 b, σ 62 b, -1)])) ∧ (∀ j, 0 ≤ j → j < σ 7 6 - 1 → τ 60 j = del (σ 60) b j ∧ τ 61 j = del (σ 61) b j ∧ τ 62 j = del (σ 62) b j ∧ τ 63 j = del (σ 63) b j) ∧ τ 7 6 = σ 7 6 - 1 ∧ τ 7 21 = 0 ∧ (∀ j, j ≠ 6 → j ≠ 14 → j ≠ 21 → τ 7 j = σ 7 j) ∧ ∀ k, k ≠ 7 → (k < 60 ∨ 64 < k) → τ k = σ k) ∧ (¬ (0 ≤ b ∧ b < σ 7 6) → z = -1 ∧ τ = σ)) 5 [some (.inr 7), some (.inl b), none] [] σ := by
  refine Wp.rg (fun hR => ?_)
  have hnb := hI.w.nb
  have hcn : 0 ≤ σ 7 14 ∧ σ 7 14 ≤ 40 := by obtain ⟨es, he⟩ := hI.lg; exact he.cnt
  refine w_aload_n dX7_gone_5 rfl ?_
  refine w_iload_n dX7_gone_6 rfl ?_
  refine cv_X7_161 rfl dX7_gone_7 (Nat.le_of_ble_eq_true rfl) (Nat.le_of_ble_eq_true rfl) (Wp.mono (cm_isBook _ b hb hnb) (fun z_ τ_ hq_ => ?_))
  obtain ⟨hw7, hs_⟩ := hq_
  subst τ_
  refine w_if_ne (tgt := 15) dX7_gone_10 (by decide) (by omega) (fun c_10 => ?_) (fun c_10 => ?_)
  · refine w_aload_n dX7_gone_15 rfl ?_
    refine gf_X7_25 rfl dX7_gone_16 ?_
    refine w_iload_n dX7_gone_19 rfl ?_
    refine w_iald rfl (by omega) dX7_gone_20 ?_
    refine w_istore_n dX7_gone_21 (Nat.le_of_ble_eq_true rfl) ?_
    refine w_aload_n dX7_gone_22 rfl ?_
    refine w_iconst dX7_gone_23 ?_
    refine w_iload_n dX7_gone_24 rfl ?_
    refine w_iload_n dX7_gone_25 rfl ?_
    refine w_iconst dX7_gone_26 ?_
    refine cv_X7_157 rfl dX7_gone_27 (Nat.le_of_ble_eq_true rfl) (Nat.le_of_ble_eq_true rfl) (Wp.mono (cm_notes σ 3 b (σ 62 b) (-1) hcn (by omega) (by omega) (hR _ _) (by omega)) (fun z_ τ_ hq_ => ?_))
    obtain ⟨υ, hυ⟩ : ∃ υ, υ = τ_ := ⟨_, rfl⟩
    rw [← hυ] at hq_ ⊢
    clear hυ
    obtain ⟨u1, u2, u3⟩ := hq_
    have u6 := u2 6 (by decide)
    refine w_aload_n dX7_gone_30 rfl ?_
    refine w_iload_n dX7_gone_31 rfl ?_
    refine cv_X7_145 rfl dX7_gone_32 (Nat.le_of_ble_eq_true rfl) (Nat.le_of_ble_eq_true rfl) (Wp.mono (cm_closes υ b (by omega)) (fun z_ τ_ hq_ => ?_))
    obtain ⟨ρ, hρ⟩ : ∃ υ, υ = τ_ := ⟨_, rfl⟩
    rw [← hρ] at hq_ ⊢
    clear hρ
    obtain ⟨v1, v2, v3, v4⟩ := hq_
    refine w_aload_n dX7_gone_35 rfl ?_
    refine cv_X7_151 rfl dX7_gone_36 (Nat.le_of_ble_eq_true rfl) (Nat.le_of_ble_eq_true rfl) (Wp.mono (cm_ends _) (fun z_ τ_ hq_ => ?_))
    subst τ_
    refine w_iload_n dX7_gone_39 rfl ?_
    refine w_iret dX7_gone_40 rfl ?_
    first
    | exact ⟨fun ok => absurd ok (by omega), fun _ => ⟨rfl, rfl⟩⟩
    | (refine ⟨fun _ => ⟨rfl, fun es he => (u1 es he).keep (by simp [put_eq]; exact v3 14 (by decide)) (by rw [put_ne (by decide)]; exact v4 64 (by decide) (by decide) (by decide) (by decide) (by decide)), fun j j0 j1 => ?_, by simp [put_eq]; omega, by simp [put_eq], fun j j6 j14 j21 => ?_, fun k k7 kk => ?_⟩, fun nok => absurd nok (by omega)⟩
       · have r := v1 j j0 (by omega)
         rw [u3 60 (by decide) (by decide), u3 61 (by decide) (by decide), u3 62 (by decide) (by decide), u3 63 (by decide) (by decide)] at r
         simp only [put_ne (show (60 : Nat) ≠ 7 by decide), put_ne (show (61 : Nat) ≠ 7 by decide), put_ne (show (62 : Nat) ≠ 7 by decide), put_ne (show (63 : Nat) ≠ 7 by decide)]
         exact r
       · simp [put_eq, j21]; rw [v3 j j6]; exact u2 j j14
       · rw [put_ne k7, v4 k k7 (by omega) (by omega) (by omega) (by omega)]; exact u3 k k7 (by omega))
  · refine w_iconst dX7_gone_13 ?_
    refine w_iret dX7_gone_14 rfl ?_
    first
    | exact ⟨fun ok => absurd ok (by omega), fun _ => ⟨rfl, rfl⟩⟩
    | (refine ⟨fun _ => ⟨rfl, fun es he => (u1 es he).keep (by simp [put_eq]; exact v3 14 (by decide)) (by rw [put_ne (by decide)]; exact v4 64 (by decide) (by decide) (by decide) (by decide) (by decide)), fun j j0 j1 => ?_, by simp [put_eq]; omega, by simp [put_eq], fun j j6 j14 j21 => ?_, fun k k7 kk => ?_⟩, fun nok => absurd nok (by omega)⟩
       · have r := v1 j j0 (by omega)
         rw [u3 60 (by decide) (by decide), u3 61 (by decide) (by decide), u3 62 (by decide) (by decide), u3 63 (by decide) (by decide)] at r
         simp only [put_ne (show (60 : Nat) ≠ 7 by decide), put_ne (show (61 : Nat) ≠ 7 by decide), put_ne (show (62 : Nat) ≠ 7 by decide), put_ne (show (63 : Nat) ≠ 7 by decide)]
         exact r
       · simp [put_eq, j21]; rw [v3 j j6]; exact u2 j j14
       · rw [put_ne k7, v4 k k7 (by omega) (by omega) (by omega) (by omega)]; exact u3 k k7 (by omega))

