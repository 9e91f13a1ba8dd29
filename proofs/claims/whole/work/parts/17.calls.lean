theorem ct_within (σ : St) (v a b : Int) (hv : InR v) (ha : InR a) (hb : InR b) : Wp mX6_isWithin 0 (fun z τ => ((z = 1 ∧ a ≤ v ∧ v ≤ b) ∨ (z = 0 ∧ (v < a ∨ b < v))) ∧ τ = σ) 0 [some (.inl v), some (.inl a), some (.inl b)] [] σ :=
  Wp.mono (ct_X6_isWithin σ v a b hv ha hb) (fun z τ h => ⟨by rw [h.1]; split <;> omega, h.2⟩)
theorem ct_hasS (σ : St) (v : Int) (hv : InR v) : Wp mX6_hasShelf 0 (fun z τ => ((z = 1 ∧ 0 ≤ v ∧ v < σ 5 2) ∨ (z = 0 ∧ (v < 0 ∨ σ 5 2 ≤ v))) ∧ τ = σ) 0 [some (.inr 6), some (.inl v)] [] σ :=
  Wp.mono (ct_X6_hasShelf σ v hv) (fun z τ h => ⟨by rw [h.1]; split <;> omega, h.2⟩)
theorem ct_hasG (σ : St) (v : Int) (hv : InR v) : Wp mX6_hasGroup 0 (fun z τ => ((z = 1 ∧ 0 ≤ v ∧ v < σ 2 1) ∨ (z = 0 ∧ (v < 0 ∨ σ 2 1 ≤ v))) ∧ τ = σ) 0 [some (.inr 6), some (.inl v)] [] σ :=
  Wp.mono (ct_X6_hasGroup σ v hv) (fun z τ h => ⟨by rw [h.1]; split <;> omega, h.2⟩)
theorem ct_hasB (σ : St) (v : Int) (hv : InR v) : Wp mX6_hasBook 0 (fun z τ => ((z = 1 ∧ 0 ≤ v ∧ v < σ 0 6) ∨ (z = 0 ∧ (v < 0 ∨ σ 0 6 ≤ v))) ∧ τ = σ) 0 [some (.inr 6), some (.inl v)] [] σ :=
  Wp.mono (ct_X6_hasBook σ v hv) (fun z τ h => ⟨by rw [h.1]; split <;> omega, h.2⟩)
theorem ct_exi (σ : St) : Wp mX4_exists 0 (fun z τ => ((z = 1 ∧ σ 4 6 < σ 4 5) ∨ (z = 0 ∧ σ 4 5 ≤ σ 4 6)) ∧ τ = σ) 0 [some (.inr 4)] [] σ :=
  Wp.mono (ct_X4_exists σ) (fun z τ h => ⟨by rw [h.1]; split <;> omega, h.2⟩)
/-- one move of the plan -/
def StC (σ τ : St) : Prop := (∀ es, RepC σ es → RepC τ (es ++ [(if σ 53 (σ 4 6) < σ 54 (σ 4 6) then 1 else 2, σ 51 (σ 4 6), σ 52 (σ 4 6), σ 53 (σ 4 6), σ 54 (σ 4 6))])) ∧ τ 11 = upF (σ 11) (σ 51 (σ 4 6)) (σ 54 (σ 4 6)) ∧ τ 12 = upF (σ 12) (σ 51 (σ 4 6)) (wr (σ 12 (σ 51 (σ 4 6)) + 1)) ∧ τ 0 6 = σ 0 6 ∧ τ 0 7 = wr (σ 0 7 + 1) ∧ (τ 4 5 = if σ 4 6 + 1 < σ 4 5 then σ 4 5 else 0) ∧ (τ 4 6 = if σ 4 6 + 1 < σ 4 5 then σ 4 6 + 1 else 0) ∧ τ 4 7 = σ 4 7 ∧ ∀ k, k ≠ 0 → k ≠ 3 → k ≠ 4 → k ≠ 11 → k ≠ 12 → k ≠ 49 → τ k = σ k
def ItC : Nat → St → St → Prop
  | 0, σ, τ => τ = σ
  | k + 1, σ, τ => ∃ υ, ItC k σ υ ∧ StC υ τ
theorem StC.inv {σ τ : St} (hI : InvC σ) (hd : σ 4 6 < σ 4 5) (h : StC σ τ) : InvC τ := by
  obtain ⟨h1, h2, h3, h4, h5, h6, h7, h8, h9⟩ := h
  have pl := hI.pl
  have e : ∀ k, k ≠ 0 → k ≠ 3 → k ≠ 4 → k ≠ 11 → k ≠ 12 → k ≠ 49 → τ k = σ k := h9
  have e5 : τ 5 = σ 5 := e 5 (by decide) (by decide) (by decide) (by decide) (by decide) (by decide)
  have e55 : τ 55 = σ 55 := e 55 (by decide) (by decide) (by decide) (by decide) (by decide) (by decide)
  have e56 : τ 56 = σ 56 := e 56 (by decide) (by decide) (by decide) (by decide) (by decide) (by decide)
  have e2 : τ 2 = σ 2 := e 2 (by decide) (by decide) (by decide) (by decide) (by decide) (by decide)
  have e48 : τ 48 = σ 48 := e 48 (by decide) (by decide) (by decide) (by decide) (by decide) (by decide)
  have e8 : τ 8 = σ 8 := e 8 (by decide) (by decide) (by decide) (by decide) (by decide) (by decide)
  have e9 : τ 9 = σ 9 := e 9 (by decide) (by decide) (by decide) (by decide) (by decide) (by decide)
  have e10 : τ 10 = σ 10 := e 10 (by decide) (by decide) (by decide) (by decide) (by decide) (by decide)
  have e6 : τ 6 = σ 6 := e 6 (by decide) (by decide) (by decide) (by decide) (by decide) (by decide)
  have e51 : τ 51 = σ 51 := e 51 (by decide) (by decide) (by decide) (by decide) (by decide) (by decide)
  have e52 : τ 52 = σ 52 := e 52 (by decide) (by decide) (by decide) (by decide) (by decide) (by decide)
  have e54 : τ 54 = σ 54 := e 54 (by decide) (by decide) (by decide) (by decide) (by decide) (by decide)
  have mvd := hI.mv (σ 4 6) pl.1 hd
  refine ⟨by rw [e5]; exact hI.ns, by rw [e5, e55, e56]; exact hI.sh, by rw [e2]; exact hI.ng, by rw [e2, e48]; exact hI.gr, by rw [h4]; exact hI.nb, ?_, by rw [e6]; exact hI.lm, ?_, ?_, ?_⟩
  · rw [h4, e8, e2, e9, e10, e5, h2]
    intro b b0 b1
    have a := hI.bk b b0 b1
    refine ⟨a.1, a.2.1, a.2.2.1, a.2.2.2.1, ?_, ?_, a.2.2.2.2.2.2.1, a.2.2.2.2.2.2.2⟩
    · unfold upF; split <;> omega
    · unfold upF; split <;> omega
  · rw [h6, h7]
    split
    · exact ⟨by omega, by omega, by omega, fun q => by omega⟩
    · exact ⟨by omega, by omega, by omega, fun q => rfl⟩
  · rw [h6, e51, h4, e52, e9, e54, e5]
    intro k k0 k1
    refine hI.mv k k0 ?_
    split at k1 <;> omega
  · obtain ⟨es, he⟩ := hI.lg
    exact ⟨_, h1 es he⟩

set_option maxRecDepth 100000 in
set_option maxHeartbeats 4000000 in
theorem ct_X6_shelf (σ : St) (l k : Int) (hI : InvC σ) (hl : InR l) (hk : InR k) : Wp mX6_shelf 1 (fun z τ => ((10 ≤ l ∧ l ≤ 200 ∧ 0 ≤ k ∧ k ≤ 2 ∧ σ 5 2 < 12) → z = σ 5 2 ∧ τ = put (put (put (endP σ) 55 (σ 5 2) l) 56 (σ 5 2) k) 5 2 (σ 5 2 + 1)) ∧ (¬ (10 ≤ l ∧ l ≤ 200 ∧ 0 ≤ k ∧ k ≤ 2 ∧ σ 5 2 < 12) → z = -1 ∧ τ = σ)) 0 [some (.inr 6), some (.inl l), some (.inl k), none] [] σ := by
  refine Wp.rg (fun hR => ?_)
  refine w_iload_n dX6_shelf_0 rfl ?_
  refine w_bipush dX6_shelf_1 (by decide) ?_
  refine w_sipush dX6_shelf_3 (by decide) ?_
  refine cv_X6_55 rfl dX6_shelf_6 (Nat.le_of_ble_eq_true rfl) (Nat.le_of_ble_eq_true rfl) (Wp.mono (ct_within _ l 10 200 hl (by omega) (by omega)) (fun z_ τ_ hq_ => ?_))
  obtain ⟨hw6, hs_⟩ := hq_
  subst τ_
  refine w_if_eq (tgt := 25) dX6_shelf_9 (by decide) (by omega) (fun c_9 => ?_) (fun c_9 => ?_)
  · refine w_iconst dX6_shelf_25 ?_
    refine w_istore_n dX6_shelf_26 (Nat.le_of_ble_eq_true rfl) ?_
    refine w_iload_n dX6_shelf_27 rfl ?_
    refine w_if_eq (tgt := 43) dX6_shelf_28 (by decide) (by omega) (fun c_28 => ?_) (fun c_28 => ?_)
    · refine w_iconst dX6_shelf_43 ?_
      refine w_iret dX6_shelf_44 rfl ?_
      first
      | exact ⟨fun ok => absurd ok (by omega), fun _ => ⟨rfl, rfl⟩⟩
      | exact absurd c_28 (by decide)
    · refine w_aload_n dX6_shelf_31 rfl ?_
      refine gf_X6_10 rfl dX6_shelf_32 ?_
      refine gf_X6_59 rfl dX6_shelf_35 ?_
      refine w_bipush dX6_shelf_38 (by decide) ?_
      refine w_icmp_lt (tgt := 45) dX6_shelf_40 (by decide) (hR _ _) (by omega) (fun c_40 => ?_) (fun c_40 => ?_)
      · refine w_aload_n dX6_shelf_45 rfl ?_
        refine gf_X6_40 rfl dX6_shelf_46 ?_
        refine cv_X6_62 rfl dX6_shelf_49 (Nat.le_of_ble_eq_true rfl) (Nat.le_of_ble_eq_true rfl) (Wp.mono (ct_X4_end _) (fun z_ τ_ hq_ => ?_))
        subst τ_
        refine w_aload_n dX6_shelf_52 rfl ?_
        refine gf_X6_10 rfl dX6_shelf_53 ?_
        refine w_iload_n dX6_shelf_56 rfl ?_
        refine w_iload_n dX6_shelf_57 rfl ?_
        refine cv_X6_65 rfl dX6_shelf_58 (Nat.le_of_ble_eq_true rfl) (Nat.le_of_ble_eq_true rfl) (Wp.mono (ct_X5_add _ l k (by have := hI.ns; simp only [put_eq]; simp; omega) hl hk) (fun z_ τ_ hq_ => ?_))
        obtain ⟨hz_, hs_⟩ := hq_
        subst z_
        subst τ_
        refine w_iret dX6_shelf_61 rfl ?_
        first
        | exact absurd rfl c_28
        | exact ⟨fun _ => ⟨by simp [put_eq], by simp [put_eq, endP]⟩, fun nok => absurd nok (by omega)⟩
      · refine w_iconst dX6_shelf_43 ?_
        refine w_iret dX6_shelf_44 rfl ?_
        first
        | exact ⟨fun ok => absurd ok (by omega), fun _ => ⟨rfl, rfl⟩⟩
        | exact absurd c_28 (by decide)
  · refine w_iload_n dX6_shelf_12 rfl ?_
    refine w_iconst dX6_shelf_13 ?_
    refine w_iconst dX6_shelf_14 ?_
    refine cv_X6_55 rfl dX6_shelf_15 (Nat.le_of_ble_eq_true rfl) (Nat.le_of_ble_eq_true rfl) (Wp.mono (ct_within _ k 0 2 hk (by omega) (by omega)) (fun z_ τ_ hq_ => ?_))
    obtain ⟨hw15, hs_⟩ := hq_
    subst τ_
    refine w_if_eq (tgt := 25) dX6_shelf_18 (by decide) (by omega) (fun c_18 => ?_) (fun c_18 => ?_)
    · refine w_iconst dX6_shelf_25 ?_
      refine w_istore_n dX6_shelf_26 (Nat.le_of_ble_eq_true rfl) ?_
      refine w_iload_n dX6_shelf_27 rfl ?_
      refine w_if_eq (tgt := 43) dX6_shelf_28 (by decide) (by omega) (fun c_28 => ?_) (fun c_28 => ?_)
      · refine w_iconst dX6_shelf_43 ?_
        refine w_iret dX6_shelf_44 rfl ?_
        first
        | exact ⟨fun ok => absurd ok (by omega), fun _ => ⟨rfl, rfl⟩⟩
        | exact absurd c_28 (by decide)
      · refine w_aload_n dX6_shelf_31 rfl ?_
        refine gf_X6_10 rfl dX6_shelf_32 ?_
        refine gf_X6_59 rfl dX6_shelf_35 ?_
        refine w_bipush dX6_shelf_38 (by decide) ?_
        refine w_icmp_lt (tgt := 45) dX6_shelf_40 (by decide) (hR _ _) (by omega) (fun c_40 => ?_) (fun c_40 => ?_)
        · refine w_aload_n dX6_shelf_45 rfl ?_
          refine gf_X6_40 rfl dX6_shelf_46 ?_
          refine cv_X6_62 rfl dX6_shelf_49 (Nat.le_of_ble_eq_true rfl) (Nat.le_of_ble_eq_true rfl) (Wp.mono (ct_X4_end _) (fun z_ τ_ hq_ => ?_))
          subst τ_
          refine w_aload_n dX6_shelf_52 rfl ?_
          refine gf_X6_10 rfl dX6_shelf_53 ?_
          refine w_iload_n dX6_shelf_56 rfl ?_
          refine w_iload_n dX6_shelf_57 rfl ?_
          refine cv_X6_65 rfl dX6_shelf_58 (Nat.le_of_ble_eq_true rfl) (Nat.le_of_ble_eq_true rfl) (Wp.mono (ct_X5_add _ l k (by have := hI.ns; simp only [put_eq]; simp; omega) hl hk) (fun z_ τ_ hq_ => ?_))
          obtain ⟨hz_, hs_⟩ := hq_
          subst z_
          subst τ_
          refine w_iret dX6_shelf_61 rfl ?_
          first
          | exact absurd rfl c_28
          | exact ⟨fun _ => ⟨by simp [put_eq], by simp [put_eq, endP]⟩, fun nok => absurd nok (by omega)⟩
        · refine w_iconst dX6_shelf_43 ?_
          refine w_iret dX6_shelf_44 rfl ?_
          first
          | exact ⟨fun ok => absurd ok (by omega), fun _ => ⟨rfl, rfl⟩⟩
          | exact absurd c_28 (by decide)
    · refine w_iconst dX6_shelf_21 ?_
      refine w_goto (tgt := 26) dX6_shelf_22 (by decide) ?_
      refine w_istore_n dX6_shelf_26 (Nat.le_of_ble_eq_true rfl) ?_
      refine w_iload_n dX6_shelf_27 rfl ?_
      refine w_if_eq (tgt := 43) dX6_shelf_28 (by decide) (by omega) (fun c_28 => ?_) (fun c_28 => ?_)
      · refine w_iconst dX6_shelf_43 ?_
        refine w_iret dX6_shelf_44 rfl ?_
        first
        | exact ⟨fun ok => absurd ok (by omega), fun _ => ⟨rfl, rfl⟩⟩
        | exact absurd c_28 (by decide)
      · refine w_aload_n dX6_shelf_31 rfl ?_
        refine gf_X6_10 rfl dX6_shelf_32 ?_
        refine gf_X6_59 rfl dX6_shelf_35 ?_
        refine w_bipush dX6_shelf_38 (by decide) ?_
        refine w_icmp_lt (tgt := 45) dX6_shelf_40 (by decide) (hR _ _) (by omega) (fun c_40 => ?_) (fun c_40 => ?_)
        · refine w_aload_n dX6_shelf_45 rfl ?_
          refine gf_X6_40 rfl dX6_shelf_46 ?_
          refine cv_X6_62 rfl dX6_shelf_49 (Nat.le_of_ble_eq_true rfl) (Nat.le_of_ble_eq_true rfl) (Wp.mono (ct_X4_end _) (fun z_ τ_ hq_ => ?_))
          subst τ_
          refine w_aload_n dX6_shelf_52 rfl ?_
          refine gf_X6_10 rfl dX6_shelf_53 ?_
          refine w_iload_n dX6_shelf_56 rfl ?_
          refine w_iload_n dX6_shelf_57 rfl ?_
          refine cv_X6_65 rfl dX6_shelf_58 (Nat.le_of_ble_eq_true rfl) (Nat.le_of_ble_eq_true rfl) (Wp.mono (ct_X5_add _ l k (by have := hI.ns; simp only [put_eq]; simp; omega) hl hk) (fun z_ τ_ hq_ => ?_))
          obtain ⟨hz_, hs_⟩ := hq_
          subst z_
          subst τ_
          refine w_iret dX6_shelf_61 rfl ?_
          first
          | exact absurd rfl c_28
          | exact ⟨fun _ => ⟨by simp [put_eq], by simp [put_eq, endP]⟩, fun nok => absurd nok (by omega)⟩
        · refine w_iconst dX6_shelf_43 ?_
          refine w_iret dX6_shelf_44 rfl ?_
          first
          | exact ⟨fun ok => absurd ok (by omega), fun _ => ⟨rfl, rfl⟩⟩
          | exact absurd c_28 (by decide)

set_option maxRecDepth 100000 in
set_option maxHeartbeats 4000000 in
theorem ct_X6_turn (σ : St) (s k : Int) (hI : InvC σ) (hs : InR s) (hk : InR k) : Wp mX6_turn 1 (fun z τ => ((0 ≤ s ∧ s < σ 5 2 ∧ 0 ≤ k ∧ k ≤ 2 ∧ σ 56 s ≠ k) → z = 1 ∧ τ = endP (put σ 56 s k)) ∧ (¬ (0 ≤ s ∧ s < σ 5 2 ∧ 0 ≤ k ∧ k ≤ 2 ∧ σ 56 s ≠ k) → z = 0 ∧ τ = σ)) 0 [some (.inr 6), some (.inl s), some (.inl k)] [] σ := by
  refine Wp.rg (fun hR => ?_)
  refine w_aload_n dX6_turn_0 rfl ?_
  refine w_iload_n dX6_turn_1 rfl ?_
  refine cv_X6_69 rfl dX6_turn_2 (Nat.le_of_ble_eq_true rfl) (Nat.le_of_ble_eq_true rfl) (Wp.mono (ct_hasS _ s hs) (fun z_ τ_ hq_ => ?_))
  obtain ⟨hw2, hs_⟩ := hq_
  subst τ_
  refine w_if_eq (tgt := 30) dX6_turn_5 (by decide) (by omega) (fun c_5 => ?_) (fun c_5 => ?_)
  · refine w_iconst dX6_turn_30 ?_
    refine w_zret dX6_turn_31 rfl (by omega) ?_
    exact ⟨fun ok => absurd ok (by omega), fun _ => ⟨rfl, rfl⟩⟩
  · refine w_iload_n dX6_turn_8 rfl ?_
    refine w_iconst dX6_turn_9 ?_
    refine w_iconst dX6_turn_10 ?_
    refine cv_X6_55 rfl dX6_turn_11 (Nat.le_of_ble_eq_true rfl) (Nat.le_of_ble_eq_true rfl) (Wp.mono (ct_within _ k 0 2 hk (by omega) (by omega)) (fun z_ τ_ hq_ => ?_))
    obtain ⟨hw11, hs_⟩ := hq_
    subst τ_
    refine w_if_eq (tgt := 30) dX6_turn_14 (by decide) (by omega) (fun c_14 => ?_) (fun c_14 => ?_)
    · refine w_iconst dX6_turn_30 ?_
      refine w_zret dX6_turn_31 rfl (by omega) ?_
      exact ⟨fun ok => absurd ok (by omega), fun _ => ⟨rfl, rfl⟩⟩
    · refine w_aload_n dX6_turn_17 rfl ?_
      refine gf_X6_10 rfl dX6_turn_18 ?_
      refine gf_X6_73 rfl dX6_turn_21 ?_
      refine w_iload_n dX6_turn_24 rfl ?_
      refine w_iald rfl (by have := hI.ns; omega) dX6_turn_25 ?_
      refine w_iload_n dX6_turn_26 rfl ?_
      refine w_icmp_ne (tgt := 32) dX6_turn_27 (by decide) (hR _ _) hk (fun c_27 => ?_) (fun c_27 => ?_)
      · refine w_aload_n dX6_turn_32 rfl ?_
        refine gf_X6_10 rfl dX6_turn_33 ?_
        refine gf_X6_73 rfl dX6_turn_36 ?_
        refine w_iload_n dX6_turn_39 rfl ?_
        refine w_iload_n dX6_turn_40 rfl ?_
        refine w_iast rfl (by have := hI.ns; omega) hk dX6_turn_41 ?_
        refine w_aload_n dX6_turn_42 rfl ?_
        refine gf_X6_40 rfl dX6_turn_43 ?_
        refine cv_X6_62 rfl dX6_turn_46 (Nat.le_of_ble_eq_true rfl) (Nat.le_of_ble_eq_true rfl) (Wp.mono (ct_X4_end _) (fun z_ τ_ hq_ => ?_))
        subst τ_
        refine w_iconst dX6_turn_49 ?_
        refine w_zret dX6_turn_50 rfl (by omega) ?_
        exact ⟨fun _ => ⟨rfl, rfl⟩, fun nok => absurd nok (by omega)⟩
      · refine w_iconst dX6_turn_30 ?_
        refine w_zret dX6_turn_31 rfl (by omega) ?_
        exact ⟨fun ok => absurd ok (by omega), fun _ => ⟨rfl, rfl⟩⟩

set_option maxRecDepth 100000 in
set_option maxHeartbeats 4000000 in
theorem ct_X6_group (σ : St) (g : Int) (hI : InvC σ) (hg : InR g) : Wp mX6_group 1 (fun z τ => ((0 ≤ g ∧ g ≤ 99 ∧ σ 2 1 < 8) → z = σ 2 1 ∧ τ = put (put (endP σ) 48 (σ 2 1) g) 2 1 (σ 2 1 + 1)) ∧ (¬ (0 ≤ g ∧ g ≤ 99 ∧ σ 2 1 < 8) → z = -1 ∧ τ = σ)) 0 [some (.inr 6), some (.inl g)] [] σ := by
  refine Wp.rg (fun hR => ?_)
  refine w_iload_n dX6_group_0 rfl ?_
  refine w_iconst dX6_group_1 ?_
  refine w_bipush dX6_group_2 (by decide) ?_
  refine cv_X6_55 rfl dX6_group_4 (Nat.le_of_ble_eq_true rfl) (Nat.le_of_ble_eq_true rfl) (Wp.mono (ct_within _ g 0 99 hg (by omega) (by omega)) (fun z_ τ_ hq_ => ?_))
  obtain ⟨hw4, hs_⟩ := hq_
  subst τ_
  refine w_if_eq (tgt := 22) dX6_group_7 (by decide) (by omega) (fun c_7 => ?_) (fun c_7 => ?_)
  · refine w_iconst dX6_group_22 ?_
    refine w_iret dX6_group_23 rfl ?_
    exact ⟨fun ok => absurd ok (by omega), fun _ => ⟨rfl, rfl⟩⟩
  · refine w_aload_n dX6_group_10 rfl ?_
    refine gf_X6_19 rfl dX6_group_11 ?_
    refine gf_X6_77 rfl dX6_group_14 ?_
    refine w_bipush dX6_group_17 (by decide) ?_
    refine w_icmp_lt (tgt := 24) dX6_group_19 (by decide) (hR _ _) (by omega) (fun c_19 => ?_) (fun c_19 => ?_)
    · refine w_aload_n dX6_group_24 rfl ?_
      refine gf_X6_40 rfl dX6_group_25 ?_
      refine cv_X6_62 rfl dX6_group_28 (Nat.le_of_ble_eq_true rfl) (Nat.le_of_ble_eq_true rfl) (Wp.mono (ct_X4_end _) (fun z_ τ_ hq_ => ?_))
      subst τ_
      refine w_aload_n dX6_group_31 rfl ?_
      refine gf_X6_19 rfl dX6_group_32 ?_
      refine w_iload_n dX6_group_35 rfl ?_
      refine cv_X6_78 rfl dX6_group_36 (Nat.le_of_ble_eq_true rfl) (Nat.le_of_ble_eq_true rfl) (Wp.mono (ct_X2_add _ g (by have := hI.ng; simp only [put_eq]; simp; omega) hg) (fun z_ τ_ hq_ => ?_))
      obtain ⟨hz_, hs_⟩ := hq_
      subst z_
      subst τ_
      refine w_iret dX6_group_39 rfl ?_
      exact ⟨fun _ => ⟨by simp [put_eq], by simp [put_eq, endP]⟩, fun nok => absurd nok (by omega)⟩
    · refine w_iconst dX6_group_22 ?_
      refine w_iret dX6_group_23 rfl ?_
      exact ⟨fun ok => absurd ok (by omega), fun _ => ⟨rfl, rfl⟩⟩

set_option maxRecDepth 100000 in
set_option maxHeartbeats 4000000 in
theorem ct_X6_limit (σ : St) (v : Int) (hv : InR v) : Wp mX6_limit 1 (fun z τ => ((40 ≤ v ∧ v ≤ 400 ∧ v ≠ σ 6 6) → z = 1 ∧ τ = put σ 6 6 v) ∧ (¬ (40 ≤ v ∧ v ≤ 400 ∧ v ≠ σ 6 6) → z = 0 ∧ τ = σ)) 0 [some (.inr 6), some (.inl v)] [] σ := by
  refine Wp.rg (fun hR => ?_)
  refine w_iload_n dX6_limit_0 rfl ?_
  refine w_bipush dX6_limit_1 (by decide) ?_
  refine w_sipush dX6_limit_3 (by decide) ?_
  refine cv_X6_55 rfl dX6_limit_6 (Nat.le_of_ble_eq_true rfl) (Nat.le_of_ble_eq_true rfl) (Wp.mono (ct_within _ v 40 400 hv (by omega) (by omega)) (fun z_ τ_ hq_ => ?_))
  obtain ⟨hw6, hs_⟩ := hq_
  subst τ_
  refine w_if_eq (tgt := 20) dX6_limit_9 (by decide) (by omega) (fun c_9 => ?_) (fun c_9 => ?_)
  · refine w_iconst dX6_limit_20 ?_
    refine w_zret dX6_limit_21 rfl (by omega) ?_
    exact ⟨fun ok => absurd ok (by omega), fun _ => ⟨rfl, rfl⟩⟩
  · refine w_iload_n dX6_limit_12 rfl ?_
    refine w_aload_n dX6_limit_13 rfl ?_
    refine gf_X6_51 rfl dX6_limit_14 ?_
    refine w_icmp_ne (tgt := 22) dX6_limit_17 (by decide) hv (hR _ _) (fun c_17 => ?_) (fun c_17 => ?_)
    · refine w_aload_n dX6_limit_22 rfl ?_
      refine w_iload_n dX6_limit_23 rfl ?_
      refine pf_X6_51 rfl (by omega) dX6_limit_24 ?_
      refine w_iconst dX6_limit_27 ?_
      refine w_zret dX6_limit_28 rfl (by omega) ?_
      exact ⟨fun _ => ⟨rfl, rfl⟩, fun nok => absurd nok (by omega)⟩
    · refine w_iconst dX6_limit_20 ?_
      refine w_zret dX6_limit_21 rfl (by omega) ?_
      exact ⟨fun ok => absurd ok (by omega), fun _ => ⟨rfl, rfl⟩⟩

set_option maxRecDepth 100000 in
set_option maxHeartbeats 4000000 in
theorem ct_X6_drop (σ : St) (hI : InvC σ) : Wp mX6_drop 1 (fun z τ => (σ 4 6 < σ 4 5 → z = σ 4 5 - σ 4 6 ∧ τ = endP σ) ∧ (¬ σ 4 6 < σ 4 5 → z = -1 ∧ τ = σ)) 0 [some (.inr 6), none] [] σ := by
  refine Wp.rg (fun hR => ?_)
  refine w_aload_n dX6_drop_0 rfl ?_
  refine gf_X6_40 rfl dX6_drop_1 ?_
  refine cv_X6_151 rfl dX6_drop_4 (Nat.le_of_ble_eq_true rfl) (Nat.le_of_ble_eq_true rfl) (Wp.mono (ct_exi _) (fun z_ τ_ hq_ => ?_))
  obtain ⟨hw4, hs_⟩ := hq_
  subst τ_
  refine w_if_ne (tgt := 12) dX6_drop_7 (by decide) (by omega) (fun c_7 => ?_) (fun c_7 => ?_)
  · refine w_aload_n dX6_drop_12 rfl ?_
    refine gf_X6_40 rfl dX6_drop_13 ?_
    refine gf_X6_145 rfl dX6_drop_16 ?_
    refine w_aload_n dX6_drop_19 rfl ?_
    refine gf_X6_40 rfl dX6_drop_20 ?_
    refine gf_X6_148 rfl dX6_drop_23 ?_
    refine w_isub dX6_drop_26 ?_
    refine w_istore_n dX6_drop_27 (Nat.le_of_ble_eq_true rfl) ?_
    refine w_aload_n dX6_drop_28 rfl ?_
    refine gf_X6_40 rfl dX6_drop_29 ?_
    refine cv_X6_62 rfl dX6_drop_32 (Nat.le_of_ble_eq_true rfl) (Nat.le_of_ble_eq_true rfl) (Wp.mono (ct_X4_end _) (fun z_ τ_ hq_ => ?_))
    subst τ_
    refine w_iload_n dX6_drop_35 rfl ?_
    refine w_iret dX6_drop_36 rfl ?_
    exact ⟨fun _ => ⟨rfl, rfl⟩, fun nok => absurd nok (by omega)⟩
  · refine w_iconst dX6_drop_10 ?_
    refine w_iret dX6_drop_11 rfl ?_
    exact ⟨fun ok => absurd ok (by omega), fun _ => ⟨rfl, rfl⟩⟩

set_option maxRecDepth 100000 in
set_option maxHeartbeats 4000000 in
theorem ct_X6_move (σ : St) (hI : InvC σ) : Wp mX6_move 3 (fun z τ => (σ 4 6 < σ 4 5 → z = σ 51 (σ 4 6) ∧ StC σ τ) ∧ (¬ σ 4 6 < σ 4 5 → z = -1 ∧ τ = σ)) 0 [some (.inr 6)] [] σ := by
  refine Wp.rg (fun hR => ?_)
  refine w_aload_n dX6_move_0 rfl ?_
  refine gf_X6_40 rfl dX6_move_1 ?_
  refine cv_X6_151 rfl dX6_move_4 (Nat.le_of_ble_eq_true rfl) (Nat.le_of_ble_eq_true rfl) (Wp.mono (ct_exi _) (fun z_ τ_ hq_ => ?_))
  obtain ⟨hw4, hs_⟩ := hq_
  subst τ_
  refine w_if_eq (tgt := 17) dX6_move_7 (by decide) (by omega) (fun c_7 => ?_) (fun c_7 => ?_)
  · refine w_iconst dX6_move_17 ?_
    refine w_iret dX6_move_18 rfl ?_
    first
    | exact ⟨fun _ => hq_, fun nok => absurd nok (by omega)⟩
    | exact ⟨fun ok => absurd ok (by omega), fun _ => ⟨rfl, rfl⟩⟩
  · refine w_aload_n dX6_move_10 rfl ?_
    refine cv_X6_242 rfl dX6_move_11 (Nat.le_of_ble_eq_true rfl) (Nat.le_of_ble_eq_true rfl) (Wp.mono (ct_X6_makeNextMove σ (by have := hI.pl; omega) (by have h1 := hI.pl; have h2 := hI.mv (σ 4 6) (by omega) (by omega); have h3 := hI.nb; omega) (by obtain ⟨es, he⟩ := hI.lg; exact he.1) (by obtain ⟨es, he⟩ := hI.lg; exact he.cnt)) (fun z_ τ_ hq_ => ?_))
    refine w_goto (tgt := 18) dX6_move_14 (by decide) ?_
    refine w_iret dX6_move_18 rfl ?_
    first
    | exact ⟨fun _ => hq_, fun nok => absurd nok (by omega)⟩
    | exact ⟨fun ok => absurd ok (by omega), fun _ => ⟨rfl, rfl⟩⟩

