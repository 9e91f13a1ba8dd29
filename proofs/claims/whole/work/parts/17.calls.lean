theorem ct_within (σ : St) (v a b : Int) (hv : InR v) (ha : InR a) (hb : InR b) : Wp mX6_isWithin 0 (fun z τ => ((z = 1 ∧ a ≤ v ∧ v ≤ b) ∨ (z = 0 ∧ (v < a ∨ b < v))) ∧ τ = σ) 0 [some (.inl v), some (.inl a), some (.inl b)] [] σ :=
  Wp.mono (ct_X6_isWithin σ v a b hv ha hb) (fun z τ h => ⟨by rw [h.1]; split <;> omega, h.2⟩)
theorem ct_hasS (σ : St) (v : Int) (hv : InR v) : Wp mX6_hasShelf 0 (fun z τ => ((z = 1 ∧ 0 ≤ v ∧ v < σ 5 2) ∨ (z = 0 ∧ (v < 0 ∨ σ 5 2 ≤ v))) ∧ τ = σ) 0 [some (.inr 6), some (.inl v)] [] σ :=
  Wp.mono (ct_X6_hasShelf σ v hv) (fun z τ h => ⟨by rw [h.1]; split <;> omega, h.2⟩)
theorem ct_hasG (σ : St) (v : Int) (hv : InR v) : Wp mX6_hasGroup 0 (fun z τ => ((z = 1 ∧ 0 ≤ v ∧ v < σ 2 1) ∨ (z = 0 ∧ (v < 0 ∨ σ 2 1 ≤ v))) ∧ τ = σ) 0 [some (.inr 6), some (.inl v)] [] σ :=
  Wp.mono (ct_X6_hasGroup σ v hv) (fun z τ h => ⟨by rw [h.1]; split <;> omega, h.2⟩)
theorem ct_hasB (σ : St) (v : Int) (hv : InR v) : Wp mX6_hasBook 0 (fun z τ => ((z = 1 ∧ 0 ≤ v ∧ v < σ 0 6) ∨ (z = 0 ∧ (v < 0 ∨ σ 0 6 ≤ v))) ∧ τ = σ) 0 [some (.inr 6), some (.inl v)] [] σ :=
  Wp.mono (ct_X6_hasBook σ v hv) (fun z τ h => ⟨by rw [h.1]; split <;> omega, h.2⟩)
theorem ct_exi (σ : St) : Wp mX4_exists 0 (fun z τ => ((z = 1 ∧ σ 4 6 < σ 4 5) ∨ (z = 0 ∧ σ 4 5 ≤ σ 4 6)) ∧ τ = σ) 0 [some (.inr 4)] [] σ :=
  Wp.mono (ct_X4_exists σ) (fun z τ h => ⟨by rw [h.1]; split <;> omega, h.2⟩)
/-- one move of the plan -/
def StC (σ τ : St) : Prop := (∀ es, RepC σ es → RepC τ (es ++ [(if σ 53 (σ 4 6) < σ 54 (σ 4 6) then 1 else 2, σ 51 (σ 4 6), σ 52 (σ 4 6), σ 53 (σ 4 6), σ 54 (σ 4 6))])) ∧ τ 11 = upF (σ 11) (σ 51 (σ 4 6)) (σ 54 (σ 4 6)) ∧ τ 12 = upF (σ 12) (σ 51 (σ 4 6)) (wr (σ 12 (σ 51 (σ 4 6)) + 1)) ∧ τ 0 6 = σ 0 6 ∧ τ 0 7 = wr (σ 0 7 + 1) ∧ (τ 4 5 = if σ 4 6 + 1 < σ 4 5 then σ 4 5 else 0) ∧ (τ 4 6 = if σ 4 6 + 1 < σ 4 5 then σ 4 6 + 1 else 0) ∧ τ 4 7 = σ 4 7 ∧ ∀ k, k ≠ 0 → k ≠ 3 → k ≠ 4 → k ≠ 11 → k ≠ 12 → k ≠ 49 → τ k = σ k
def ItC : Nat → St → St → Prop
  | 0, σ, τ => τ = σ
  | k + 1, σ, τ => ∃ υ, ItC k σ υ ∧ StC υ τ
theorem StC.inv {σ τ : St} (hI : InvC σ) (hd : σ 4 6 < σ 4 5) (h : StC σ τ) : InvC τ := by
  obtain ⟨h1, h2, h3, h4, h5, h6, h7, h8, h9⟩ := h
  have pl := hI.pl
  have e : ∀ k, k ≠ 0 → k ≠ 3 → k ≠ 4 → k ≠ 11 → k ≠ 12 → k ≠ 49 → τ k = σ k := h9
  have e5 : τ 5 = σ 5 := e 5 (by decide) (by decide) (by decide) (by decide) (by decide) (by decide)
  have e55 : τ 55 = σ 55 := e 55 (by decide) (by decide) (by decide) (by decide) (by decide) (by decide)
  have e56 : τ 56 = σ 56 := e 56 (by decide) (by decide) (by decide) (by decide) (by decide) (by decide)
  have e2 : τ 2 = σ 2 := e 2 (by decide) (by decide) (by decide) (by decide) (by decide) (by decide)
  have e48 : τ 48 = σ 48 := e 48 (by decide) (by decide) (by decide) (by decide) (by decide) (by decide)
  have e8 : τ 8 = σ 8 := e 8 (by decide) (by decide) (by decide) (by decide) (by decide) (by decide)
  have e9 : τ 9 = σ 9 := e 9 (by decide) (by decide) (by decide) (by decide) (by decide) (by decide)
  have e10 : τ 10 = σ 10 := e 10 (by decide) (by decide) (by decide) (by decide) (by decide) (by decide)
  have e6 : τ 6 = σ 6 := e 6 (by decide) (by decide) (by decide) (by decide) (by decide) (by decide)
  have e51 : τ 51 = σ 51 := e 51 (by decide) (by decide) (by decide) (by decide) (by decide) (by decide)
  have e52 : τ 52 = σ 52 := e 52 (by decide) (by decide) (by decide) (by decide) (by decide) (by decide)
  have e54 : τ 54 = σ 54 := e 54 (by decide) (by decide) (by decide) (by decide) (by decide) (by decide)
  have mvd := hI.mv (σ 4 6) pl.1 hd
  refine ⟨by rw [e5]; exact hI.ns, by rw [e5, e55, e56]; exact hI.sh, by rw [e2]; exact hI.ng, by rw [e2, e48]; exact hI.gr, by rw [h4]; exact hI.nb, ?_, by rw [e6]; exact hI.lm, ?_, ?_, ?_⟩
  · rw [h4, e8, e2, e9, e10, e5, h2]
    intro b b0 b1
    have a := hI.bk b b0 b1
    refine ⟨a.1, a.2.1, a.2.2.1, a.2.2.2.1, ?_, ?_, a.2.2.2.2.2.2.1, a.2.2.2.2.2.2.2⟩
    · unfold upF; split <;> omega
    · unfold upF; split <;> omega
  · rw [h6, h7]
    split
    · exact ⟨by omega, by omega, by omega, fun q => by omega⟩
    · exact ⟨by omega, by omega, by omega, fun q => rfl⟩
  · rw [h6, e51, h4, e52, e9, e54, e5]
    intro k k0 k1
    refine hI.mv k k0 ?_
    split at k1 <;> omega
  · obtain ⟨es, he⟩ := hI.lg
    exact ⟨_, h1 es he⟩

set_option maxRecDepth 100000 in
set_option maxHeartbeats 4000000 in
theorem ct_X6_shelf (σ : St) (l k : Int) (hI : InvC σ) (hl : InR l) (hk : InR k) : Wp mX6_shelf 1 (fun z τ => ((10 ≤ l ∧ l ≤ 200 ∧ 0 ≤ k ∧ k ≤ 2 ∧ σ 5 2 < 12) → z = σ 5 2 ∧ τ = put (put (put (endP σ) 55 (σ 5 2) l) 56 (σ 5 2) k) 5 2 (σ 5 2 + 1)) ∧ (¬ (10 ≤ l ∧ l ≤ 200 ∧ 0 ≤ k ∧ k ≤ 2 ∧ σ 5 2 < 12) → z = -1 ∧ τ = σ)) 0 [some (.inr 6), some (.inl l), some (.inl k), none] [] σ := by
  refine Wp.rg (fun hR => ?_)
  refine w_iload_n dX6_shelf_0 rfl ?_
  refine w_bipush dX6_shelf_1 (by decide) ?_
  refine w_sipush dX6_shelf_3 (by decide) ?_
  refine cv_X6_55 rfl dX6_shelf_6 (Nat.le_of_ble_eq_true rfl) (Nat.le_of_ble_eq_true rfl) (Wp.mono (ct_within _ l 10 200 hl (by omega) (by omega)) (fun z_ τ_ hq_ => ?_))
  obtain ⟨hw6, hs_⟩ := hq_
  subst τ_
  refine w_if_eq (tgt := 25) dX6_shelf_9 (by decide) (by omega) (fun c_9 => ?_) (fun c_9 => ?_)
  · refine w_iconst dX6_shelf_25 ?_
    refine w_istore_n dX6_shelf_26 (Nat.le_of_ble_eq_true rfl) ?_
    refine w_iload_n dX6_shelf_27 rfl ?_
    refine w_if_eq (tgt := 43) dX6_shelf_28 (by decide) (by omega) (fun c_28 => ?_) (fun c_28 => ?_)
    · refine w_iconst dX6_shelf_43 ?_
      refine w_iret dX6_shelf_44 rfl ?_
      first
      | exact ⟨fun ok => absurd ok (by omega), fun _ => ⟨rfl, rfl⟩⟩
      | exact absurd c_28 (by decide)
    · refine w_aload_n dX6_shelf_31 rfl ?_
      refine gf_X6_10 rfl dX6_shelf_32 ?_
      refine gf_X6_59 rfl dX6_shelf_35 ?_
      refine w_bipush dX6_shelf_38 (by decide) ?_
      refine w_icmp_lt (tgt := 45) dX6_shelf_40 (by decide) (hR _ _) (by omega) (fun c_40 => ?_) (fun c_40 => ?_)
      · refine w_aload_n dX6_shelf_45 rfl ?_
        refine gf_X6_40 rfl dX6_shelf_46 ?_
        refine cv_X6_62 rfl dX6_shelf_49 (Nat.le_of_ble_eq_true rfl) (Nat.le_of_ble_eq_true rfl) (Wp.mono (ct_X4_end _) (fun z_ τ_ hq_ => ?_))
        subst τ_
        refine w_aload_n dX6_shelf_52 rfl ?_
        refine gf_X6_10 rfl dX6_shelf_53 ?_
        refine w_iload_n dX6_shelf_56 rfl ?_
        refine w_iload_n dX6_shelf_57 rfl ?_
        refine cv_X6_65 rfl dX6_shelf_58 (Nat.le_of_ble_eq_true rfl) (Nat.le_of_ble_eq_true rfl) (Wp.mono (ct_X5_add _ l k (by have := hI.ns; simp only [put_eq]; simp; omega) hl hk) (fun z_ τ_ hq_ => ?_))
        obtain ⟨hz_, hs_⟩ := hq_
        subst z_
        subst τ_
        refine w_iret dX6_shelf_61 rfl ?_
        first
        | exact absurd rfl c_28
        | exact ⟨fun _ => ⟨by simp [put_eq], by simp [put_eq, endP]⟩, fun nok => absurd nok (by omega)⟩
      · refine w_iconst dX6_shelf_43 ?_
        refine w_iret dX6_shelf_44 rfl ?_
        first
        | exact ⟨fun ok => absurd ok (by omega), fun _ => ⟨rfl, rfl⟩⟩
        | exact absurd c_28 (by decide)
  · refine w_iload_n dX6_shelf_12 rfl ?_
    refine w_iconst dX6_shelf_13 ?_
    refine w_iconst dX6_shelf_14 ?_
    refine cv_X6_55 rfl dX6_shelf_15 (Nat.le_of_ble_eq_true rfl) (Nat.le_of_ble_eq_true rfl) (Wp.mono (ct_within _ k 0 2 hk (by omega) (by omega)) (fun z_ τ_ hq_ => ?_))
    obtain ⟨hw15, hs_⟩ := hq_
    subst τ_
    refine w_if_eq (tgt := 25) dX6_shelf_18 (by decide) (by omega) (fun c_18 => ?_) (fun c_18 => ?_)
    · refine w_iconst dX6_shelf_25 ?_
      refine w_istore_n dX6_shelf_26 (Nat.le_of_ble_eq_true rfl) ?_
      refine w_iload_n dX6_shelf_27 rfl ?_
      refine w_if_eq (tgt := 43) dX6_shelf_28 (by decide) (by omega) (fun c_28 => ?_) (fun c_28 => ?_)
      · refine w_iconst dX6_shelf_43 ?_
        refine w_iret dX6_shelf_44 rfl ?_
        first
        | exact ⟨fun ok => absurd ok (by omega), fun _ => ⟨rfl, rfl⟩⟩
        | exact absurd c_28 (by decide)
      · refine w_aload_n dX6_shelf_31 rfl ?_
        refine gf_X6_10 rfl dX6_shelf_32 ?_
        refine gf_X6_59 rfl dX6_shelf_35 ?_
        refine w_bipush dX6_shelf_38 (by decide) ?_
        refine w_icmp_lt (tgt := 45) dX6_shelf_40 (by decide) (hR _ _) (by omega) (fun c_40 => ?_) (fun c_40 => ?_)
        · refine w_aload_n dX6_shelf_45 rfl ?_
          refine gf_X6_40 rfl dX6_shelf_46 ?_
          refine cv_X6_62 rfl dX6_shelf_49 (Nat.le_of_ble_eq_true rfl) (Nat.le_of_ble_eq_true rfl) (Wp.mono (ct_X4_end _) (fun z_ τ_ hq_ => ?_))
          subst τ_
          refine w_aload_n dX6_shelf_52 rfl ?_
          refine gf_X6_10 rfl dX6_shelf_53 ?_
          refine w_iload_n dX6_shelf_56 rfl ?_
          refine w_iload_n dX6_shelf_57 rfl ?_
          refine cv_X6_65 rfl dX6_shelf_58 (Nat.le_of_ble_eq_true rfl) (Nat.le_of_ble_eq_true rfl) (Wp.mono (ct_X5_add _ l k (by have := hI.ns; simp only [put_eq]; simp; omega) hl hk) (fun z_ τ_ hq_ => ?_))
          obtain ⟨hz_, hs_⟩ := hq_
          subst z_
          subst τ_
          refine w_iret dX6_shelf_61 rfl ?_
          first
          | exact absurd rfl c_28
          | exact ⟨fun _ => ⟨by simp [put_eq], by simp [put_eq, endP]⟩, fun nok => absurd nok (by omega)⟩
        · refine w_iconst dX6_shelf_43 ?_
          refine w_iret dX6_shelf_44 rfl ?_
          first
          | exact ⟨fun ok => absurd ok (by omega), fun _ => ⟨rfl, rfl⟩⟩
          | exact absurd c_28 (by decide)
    · refine w_iconst dX6_shelf_21 ?_
      refine w_goto (tgt := 26) dX6_shelf_22 (by decide) ?_
      refine w_istore_n dX6_shelf_26 (Nat.le_of_ble_eq_true rfl) ?_
      refine w_iload_n dX6_shelf_27 rfl ?_
      refine w_if_eq (tgt := 43) dX6_shelf_28 (by decide) (by omega) (fun c_28 => ?_) (fun c_28 => ?_)
      · refine w_iconst dX6_shelf_43 ?_
        refine w_iret dX6_shelf_44 rfl ?_
        first
        | exact ⟨fun ok => absurd ok (by omega), fun _ => ⟨rfl, rfl⟩⟩
        | exact absurd c_28 (by decide)
      · refine w_aload_n dX6_shelf_31 rfl ?_
        refine gf_X6_10 rfl dX6_shelf_32 ?_
        refine gf_X6_59 rfl dX6_shelf_35 ?_
        refine w_bipush dX6_shelf_38 (by decide) ?_
        refine w_icmp_lt (tgt := 45) dX6_shelf_40 (by decide) (hR _ _) (by omega) (fun c_40 => ?_) (fun c_40 => ?_)
        · refine w_aload_n dX6_shelf_45 rfl ?_
          refine gf_X6_40 rfl dX6_shelf_46 ?_
          refine cv_X6_62 rfl dX6_shelf_49 (Nat.le_of_ble_eq_true rfl) (Nat.le_of_ble_eq_true rfl) (Wp.mono (ct_X4_end _) (fun z_ τ_ hq_ => ?_))
          subst τ_
          refine w_aload_n dX6_shelf_52 rfl ?_
          refine gf_X6_10 rfl dX6_shelf_53 ?_
          refine w_iload_n dX6_shelf_56 rfl ?_
          refine w_iload_n dX6_shelf_57 rfl ?_
          refine cv_X6_65 rfl dX6_shelf_58 (Nat.le_of_ble_eq_true rfl) (Nat.le_of_ble_eq_true rfl) (Wp.mono (ct_X5_add _ l k (by have := hI.ns; simp only [put_eq]; simp; omega) hl hk) (fun z_ τ_ hq_ => ?_))
          obtain ⟨hz_, hs_⟩ := hq_
          subst z_
          subst τ_
          refine w_iret dX6_shelf_61 rfl ?_
          first
          | exact absurd rfl c_28
          | exact ⟨fun _ => ⟨by simp [put_eq], by simp [put_eq, endP]⟩, fun nok => absurd nok (by omega)⟩
        · refine w_iconst dX6_shelf_43 ?_
          refine w_iret dX6_shelf_44 rfl ?_
          first
          | exact ⟨fun ok => absurd ok (by omega), fun _ => ⟨rfl, rfl⟩⟩
          | exact absurd c_28 (by decide)

set_option maxRecDepth 100000 in
set_option maxHeartbeats 4000000 in
theorem ct_X6_turn (σ : St) (s k : Int) (hI : InvC σ) (hs : InR s) (hk : InR k) : Wp mX6_turn 1 (fun z τ => ((0 ≤ s ∧ s < σ 5 2 ∧ 0 ≤ k ∧ k ≤ 2 ∧ σ 56 s ≠ k) → z = 1 ∧ τ = endP (put σ 56 s k)) ∧ (¬ (0 ≤ s ∧ s < σ 5 2 ∧ 0 ≤ k ∧ k ≤ 2 ∧ σ 56 s ≠ k) → z = 0 ∧ τ = σ)) 0 [some (.inr 6), some (.inl s), some (.inl k)] [] σ := by
  refine Wp.rg (fun hR => ?_)
  refine w_aload_n dX6_turn_0 rfl ?_
  refine w_iload_n dX6_turn_1 rfl ?_
  refine cv_X6_69 rfl dX6_turn_2 (Nat.le_of_ble_eq_true rfl) (Nat.le_of_ble_eq_true rfl) (Wp.mono (ct_hasS _ s hs) (fun z_ τ_ hq_ => ?_))
  obtain ⟨hw2, hs_⟩ := hq_
  subst τ_
  refine w_if_eq (tgt := 30) dX6_turn_5 (by decide) (by omega) (fun c_5 => ?_) (fun c_5 => ?_)
  · refine w_iconst dX6_turn_30 ?_
    refine w_zret dX6_turn_31 rfl (by omega) ?_
    exact ⟨fun ok => absurd ok (by omega), fun _ => ⟨rfl, rfl⟩⟩
  · refine w_iload_n dX6_turn_8 rfl ?_
    refine w_iconst dX6_turn_9 ?_
    refine w_iconst dX6_turn_10 ?_
    refine cv_X6_55 rfl dX6_turn_11 (Nat.le_of_ble_eq_true rfl) (Nat.le_of_ble_eq_true rfl) (Wp.mono (ct_within _ k 0 2 hk (by omega) (by omega)) (fun z_ τ_ hq_ => ?_))
    obtain ⟨hw11, hs_⟩ := hq_
    subst τ_
    refine w_if_eq (tgt := 30) dX6_turn_14 (by decide) (by omega) (fun c_14 => ?_) (fun c_14 => ?_)
    · refine w_iconst dX6_turn_30 ?_
      refine w_zret dX6_turn_31 rfl (by omega) ?_
      exact ⟨fun ok => absurd ok (by omega), fun _ => ⟨rfl, rfl⟩⟩
    · refine w_aload_n dX6_turn_17 rfl ?_
      refine gf_X6_10 rfl dX6_turn_18 ?_
      refine gf_X6_73 rfl dX6_turn_21 ?_
      refine w_iload_n dX6_turn_24 rfl ?_
      refine w_iald rfl (by have := hI.ns; omega) dX6_turn_25 ?_
      refine w_iload_n dX6_turn_26 rfl ?_
      refine w_icmp_ne (tgt := 32) dX6_turn_27 (by decide) (hR _ _) hk (fun c_27 => ?_) (fun c_27 => ?_)
      · refine w_aload_n dX6_turn_32 rfl ?_
        refine gf_X6_10 rfl dX6_turn_33 ?_
        refine gf_X6_73 rfl dX6_turn_36 ?_
        refine w_iload_n dX6_turn_39 rfl ?_
        refine w_iload_n dX6_turn_40 rfl ?_
        refine w_iast rfl (by have := hI.ns; omega) hk dX6_turn_41 ?_
        refine w_aload_n dX6_turn_42 rfl ?_
        refine gf_X6_40 rfl dX6_turn_43 ?_
        refine cv_X6_62 rfl dX6_turn_46 (Nat.le_of_ble_eq_true rfl) (Nat.le_of_ble_eq_true rfl) (Wp.mono (ct_X4_end _) (fun z_ τ_ hq_ => ?_))
        subst τ_
        refine w_iconst dX6_turn_49 ?_
        refine w_zret dX6_turn_50 rfl (by omega) ?_
        exact ⟨fun _ => ⟨rfl, rfl⟩, fun nok => absurd nok (by omega)⟩
      · refine w_iconst dX6_turn_30 ?_
        refine w_zret dX6_turn_31 rfl (by omega) ?_
        exact ⟨fun ok => absurd ok (by omega), fun _ => ⟨rfl, rfl⟩⟩

set_option maxRecDepth 100000 in
set_option maxHeartbeats 4000000 in
theorem ct_X6_group (σ : St) (g : Int) (hI : InvC σ) (hg : InR g) : Wp mX6_group 1 (fun z τ => ((0 ≤ g ∧ g ≤ 99 ∧ σ 2 1 < 8) → z = σ 2 1 ∧ τ = put (put (endP σ) 48 (σ 2 1) g) 2 1 (σ 2 1 + 1)) ∧ (¬ (0 ≤ g ∧ g ≤ 99 ∧ σ 2 1 < 8) → z = -1 ∧ τ = σ)) 0 [some (.inr 6), some (.inl g)] [] σ := by
  refine Wp.rg (fun hR => ?_)
  refine w_iload_n dX6_group_0 rfl ?_
  refine w_iconst dX6_group_1 ?_
  refine w_bipush dX6_group_2 (by decide) ?_
  refine cv_X6_55 rfl dX6_group_4 (Nat.le_of_ble_eq_true rfl) (Nat.le_of_ble_eq_true rfl) (Wp.mono (ct_within _ g 0 99 hg (by omega) (by omega)) (fun z_ τ_ hq_ => ?_))
  obtain ⟨hw4, hs_⟩ := hq_
  subst τ_
  refine w_if_eq (tgt := 22) dX6_group_7 (by decide) (by omega) (fun c_7 => ?_) (fun c_7 => ?_)
  · refine w_iconst dX6_group_22 ?_
    refine w_iret dX6_group_23 rfl ?_
    exact ⟨fun ok => absurd ok (by omega), fun _ => ⟨rfl, rfl⟩⟩
  · refine w_aload_n dX6_group_10 rfl ?_
    refine gf_X6_19 rfl dX6_group_11 ?_
    refine gf_X6_77 rfl dX6_group_14 ?_
    refine w_bipush dX6_group_17 (by decide) ?_
    refine w_icmp_lt (tgt := 24) dX6_group_19 (by decide) (hR _ _) (by omega) (fun c_19 => ?_) (fun c_19 => ?_)
    · refine w_aload_n dX6_group_24 rfl ?_
      refine gf_X6_40 rfl dX6_group_25 ?_
      refine cv_X6_62 rfl dX6_group_28 (Nat.le_of_ble_eq_true rfl) (Nat.le_of_ble_eq_true rfl) (Wp.mono (ct_X4_end _) (fun z_ τ_ hq_ => ?_))
      subst τ_
      refine w_aload_n dX6_group_31 rfl ?_
      refine gf_X6_19 rfl dX6_group_32 ?_
      refine w_iload_n dX6_group_35 rfl ?_
      refine cv_X6_78 rfl dX6_group_36 (Nat.le_of_ble_eq_true rfl) (Nat.le_of_ble_eq_true rfl) (Wp.mono (ct_X2_add _ g (by have := hI.ng; simp only [put_eq]; simp; omega) hg) (fun z_ τ_ hq_ => ?_))
      obtain ⟨hz_, hs_⟩ := hq_
      subst z_
      subst τ_
      refine w_iret dX6_group_39 rfl ?_
      exact ⟨fun _ => ⟨by simp [put_eq], by simp [put_eq, endP]⟩, fun nok => absurd nok (by omega)⟩
    · refine w_iconst dX6_group_22 ?_
      refine w_iret dX6_group_23 rfl ?_
      exact ⟨fun ok => absurd ok (by omega), fun _ => ⟨rfl, rfl⟩⟩

set_option maxRecDepth 100000 in
set_option maxHeartbeats 4000000 in
theorem ct_X6_limit (σ : St) (v : Int) (hv : InR v) : Wp mX6_limit 1 (fun z τ => ((40 ≤ v ∧ v ≤ 400 ∧ v ≠ σ 6 6) → z = 1 ∧ τ = put σ 6 6 v) ∧ (¬ (40 ≤ v ∧ v ≤ 400 ∧ v ≠ σ 6 6) → z = 0 ∧ τ = σ)) 0 [some (.inr 6), some (.inl v)] [] σ := by
  refine Wp.rg (fun hR => ?_)
  refine w_iload_n dX6_limit_0 rfl ?_
  refine w_bipush dX6_limit_1 (by decide) ?_
  refine w_sipush dX6_limit_3 (by decide) ?_
  refine cv_X6_55 rfl dX6_limit_6 (Nat.le_of_ble_eq_true rfl) (Nat.le_of_ble_eq_true rfl) (Wp.mono (ct_within _ v 40 400 hv (by omega) (by omega)) (fun z_ τ_ hq_ => ?_))
  obtain ⟨hw6, hs_⟩ := hq_
  subst τ_
  refine w_if_eq (tgt := 20) dX6_limit_9 (by decide) (by omega) (fun c_9 => ?_) (fun c_9 => ?_)
  · refine w_iconst dX6_limit_20 ?_
    refine w_zret dX6_limit_21 rfl (by omega) ?_
    exact ⟨fun ok => absurd ok (by omega), fun _ => ⟨rfl, rfl⟩⟩
  · refine w_iload_n dX6_limit_12 rfl ?_
    refine w_aload_n dX6_limit_13 rfl ?_
    refine gf_X6_51 rfl dX6_limit_14 ?_
    refine w_icmp_ne (tgt := 22) dX6_limit_17 (by decide) hv (hR _ _) (fun c_17 => ?_) (fun c_17 => ?_)
    · refine w_aload_n dX6_limit_22 rfl ?_
      refine w_iload_n dX6_limit_23 rfl ?_
      refine pf_X6_51 rfl (by omega) dX6_limit_24 ?_
      refine w_iconst dX6_limit_27 ?_
      refine w_zret dX6_limit_28 rfl (by omega) ?_
      exact ⟨fun _ => ⟨rfl, rfl⟩, fun nok => absurd nok (by omega)⟩
    · refine w_iconst dX6_limit_20 ?_
      refine w_zret dX6_limit_21 rfl (by omega) ?_
      exact ⟨fun ok => absurd ok (by omega), fun _ => ⟨rfl, rfl⟩⟩

set_option maxRecDepth 100000 in
set_option maxHeartbeats 4000000 in
theorem ct_X6_drop (σ : St) (hI : InvC σ) : Wp mX6_drop 1 (fun z τ => (σ 4 6 < σ 4 5 → z = σ 4 5 - σ 4 6 ∧ τ = endP σ) ∧ (¬ σ 4 6 < σ 4 5 → z = -1 ∧ τ = σ)) 0 [some (.inr 6), none] [] σ := by
  refine Wp.rg (fun hR => ?_)
  refine w_aload_n dX6_drop_0 rfl ?_
  refine gf_X6_40 rfl dX6_drop_1 ?_
  refine cv_X6_151 rfl dX6_drop_4 (Nat.le_of_ble_eq_true rfl) (Nat.le_of_ble_eq_true rfl) (Wp.mono (ct_exi _) (fun z_ τ_ hq_ => ?_))
  obtain ⟨hw4, hs_⟩ := hq_
  subst τ_
  refine w_if_ne (tgt := 12) dX6_drop_7 (by decide) (by omega) (fun c_7 => ?_) (fun c_7 => ?_)
  · refine w_aload_n dX6_drop_12 rfl ?_
    refine gf_X6_40 rfl dX6_drop_13 ?_
    refine gf_X6_145 rfl dX6_drop_16 ?_
    refine w_aload_n dX6_drop_19 rfl ?_
    refine gf_X6_40 rfl dX6_drop_20 ?_
    refine gf_X6_148 rfl dX6_drop_23 ?_
    refine w_isub dX6_drop_26 ?_
    refine w_istore_n dX6_drop_27 (Nat.le_of_ble_eq_true rfl) ?_
    refine w_aload_n dX6_drop_28 rfl ?_
    refine gf_X6_40 rfl dX6_drop_29 ?_
    refine cv_X6_62 rfl dX6_drop_32 (Nat.le_of_ble_eq_true rfl) (Nat.le_of_ble_eq_true rfl) (Wp.mono (ct_X4_end _) (fun z_ τ_ hq_ => ?_))
    subst τ_
    refine w_iload_n dX6_drop_35 rfl ?_
    refine w_iret dX6_drop_36 rfl ?_
    exact ⟨fun _ => ⟨rfl, rfl⟩, fun nok => absurd nok (by omega)⟩
  · refine w_iconst dX6_drop_10 ?_
    refine w_iret dX6_drop_11 rfl ?_
    exact ⟨fun ok => absurd ok (by omega), fun _ => ⟨rfl, rfl⟩⟩

set_option maxRecDepth 100000 in
set_option maxHeartbeats 4000000 in
theorem ct_X6_move (σ : St) (hI : InvC σ) : Wp mX6_move 3 (fun z τ => (σ 4 6 < σ 4 5 → z = σ 51 (σ 4 6) ∧ StC σ τ) ∧ (¬ σ 4 6 < σ 4 5 → z = -1 ∧ τ = σ)) 0 [some (.inr 6)] [] σ := by
  refine Wp.rg (fun hR => ?_)
  refine w_aload_n dX6_move_0 rfl ?_
  refine gf_X6_40 rfl dX6_move_1 ?_
  refine cv_X6_151 rfl dX6_move_4 (Nat.le_of_ble_eq_true rfl) (Nat.le_of_ble_eq_true rfl) (Wp.mono (ct_exi _) (fun z_ τ_ hq_ => ?_))
  obtain ⟨hw4, hs_⟩ := hq_
  subst τ_
  refine w_if_eq (tgt := 17) dX6_move_7 (by decide) (by omega) (fun c_7 => ?_) (fun c_7 => ?_)
  · refine w_iconst dX6_move_17 ?_
    refine w_iret dX6_move_18 rfl ?_
    first
    | exact ⟨fun _ => hq_, fun nok => absurd nok (by omega)⟩
    | exact ⟨fun ok => absurd ok (by omega), fun _ => ⟨rfl, rfl⟩⟩
  · refine w_aload_n dX6_move_10 rfl ?_
    refine cv_X6_242 rfl dX6_move_11 (Nat.le_of_ble_eq_true rfl) (Nat.le_of_ble_eq_true rfl) (Wp.mono (ct_X6_makeNextMove σ (by have := hI.pl; omega) (by have h1 := hI.pl; have h2 := hI.mv (σ 4 6) (by omega) (by omega); have h3 := hI.nb; omega) (by obtain ⟨es, he⟩ := hI.lg; exact he.1) (by obtain ⟨es, he⟩ := hI.lg; exact he.cnt)) (fun z_ τ_ hq_ => ?_))
    refine w_goto (tgt := 18) dX6_move_14 (by decide) ?_
    refine w_iret dX6_move_18 rfl ?_
    first
    | exact ⟨fun _ => hq_, fun nok => absurd nok (by omega)⟩
    | exact ⟨fun ok => absurd ok (by omega), fun _ => ⟨rfl, rfl⟩⟩

set_option maxRecDepth 100000 in
set_option maxHeartbeats 4000000 in
theorem ct_X6_day (σ : St) (hI : InvC σ) : Wp mX6_day 3 (fun z τ => (σ 4 6 < σ 4 5 → IsDay (σ 52) (σ 4 6) (σ 4 5) (σ 6 6) z ∧ ItC z.toNat σ τ) ∧ (¬ σ 4 6 < σ 4 5 → z = -1 ∧ τ = σ)) 0 [some (.inr 6), none, none] [] σ := by
  refine Wp.rg (fun hR => ?_)
  refine w_aload_n dX6_day_0 rfl ?_
  refine gf_X6_40 rfl dX6_day_1 ?_
  refine cv_X6_151 rfl dX6_day_4 (Nat.le_of_ble_eq_true rfl) (Nat.le_of_ble_eq_true rfl) (Wp.mono (ct_exi _) (fun z_ τ_ hq_ => ?_))
  obtain ⟨hw4, hs_⟩ := hq_
  subst τ_
  refine w_if_ne (tgt := 12) dX6_day_7 (by decide) (by omega) (fun c_7 => ?_) (fun c_7 => ?_)
  · refine w_aload_n dX6_day_12 rfl ?_
    refine gf_X6_40 rfl dX6_day_13 ?_
    refine w_aload_n dX6_day_16 rfl ?_
    refine gf_X6_51 rfl dX6_day_17 ?_
    refine cv_X6_245 rfl dX6_day_20 (Nat.le_of_ble_eq_true rfl) (Nat.le_of_ble_eq_true rfl) (Wp.mono (ct_X4_movesOfNextDay σ (σ 6 6) (by have := hI.pl; omega) hI.pw (by have := hI.lm; omega)) (fun z_ τ_ hq_ => ?_))
    obtain ⟨hd, hs_⟩ := hq_
    subst τ_
    generalize z_ = m at hd
    have hpl := hI.pl
    have hd1 := hd.1
    have hd2 := hd.2.1
    refine w_istore_n dX6_day_23 (Nat.le_of_ble_eq_true rfl) ?_
    refine w_iconst dX6_day_24 ?_
    refine w_istore_n dX6_day_25 (Nat.le_of_ble_eq_true rfl) ?_
    refine up_to (m) (fun i => 0 ≤ i → ∀ (τ : St), (InvC τ ∧ ItC i.toNat σ τ ∧ (i < m → τ 4 6 = σ 4 6 + i ∧ τ 4 5 = σ 4 5)) → Wp mX6_day 3 (fun z τ => (σ 4 6 < σ 4 5 → IsDay (σ 52) (σ 4 6) (σ 4 5) (σ 6 6) z ∧ ItC z.toNat σ τ) ∧ (¬ σ 4 6 < σ 4 5 → z = -1 ∧ τ = σ)) 26 [some (.inr 6), some (.inl m), some (.inl i)] [] τ) (fun i hi ih h0 τ hinv => ?_) (0) (by omega) (by omega) σ ⟨hI, rfl, fun _ => ⟨by omega, rfl⟩⟩
    obtain ⟨q1, q2, q3⟩ := hinv
    refine w_iload_n dX6_day_26 rfl ?_
    refine w_iload_n dX6_day_27 rfl ?_
    refine w_icmp_ge (tgt := 42) dX6_day_28 (by decide) (by omega) (by omega) (fun c_28 => ?_) (fun c_28 => ?_)
    · refine w_iload_n dX6_day_42 rfl ?_
      refine w_iret dX6_day_43 rfl ?_
      exact ⟨fun _ => ⟨hd, by rw [show m = i by omega]; exact q2⟩, fun nok => absurd nok (by omega)⟩
    · have q4 := q3 (by omega)
      refine w_aload_n dX6_day_31 rfl ?_
      refine cv_X6_242 rfl dX6_day_32 (Nat.le_of_ble_eq_true rfl) (Nat.le_of_ble_eq_true rfl) (Wp.mono (ct_X6_makeNextMove τ (by have := q1.pl; omega) (by have h1 := q1.pl; have h2 := q1.mv (τ 4 6) (by omega) (by omega); have h3 := q1.nb; omega) (by obtain ⟨es, he⟩ := q1.lg; exact he.1) (by obtain ⟨es, he⟩ := q1.lg; exact he.cnt)) (fun z_ τ_ hq_ => ?_))
      have hst : StC τ τ_ := hq_.2
      refine w_pop dX6_day_35 ?_
      refine w_iinc dX6_day_36 (Nat.le_of_ble_eq_true rfl) rfl ?_
      refine w_goto (tgt := 26) dX6_day_39 (by decide) ?_
      refine ih (by omega) (by omega) _ ⟨hst.inv q1 (by omega), by rw [show (i + 1).toNat = i.toNat + 1 by omega]; exact ⟨τ, q2, hst⟩, fun hm => ?_⟩
      have s6 := hst.2.2.2.2.2.1
      have s7 := hst.2.2.2.2.2.2.1
      rw [if_pos (by omega)] at s6 s7
      omega
  · refine w_iconst dX6_day_10 ?_
    refine w_iret dX6_day_11 rfl ?_
    exact ⟨fun ok => absurd ok (by omega), fun _ => ⟨rfl, rfl⟩⟩

set_option maxRecDepth 100000 in
set_option maxHeartbeats 4000000 in
theorem ct_X6_count (σ : St) (w : Int) (hI : InvC σ) (hw : InR w) : Wp mX6_count 1 (fun z τ => z = (if w = 0 then σ 5 2 else if w = 1 then σ 2 1 else if w = 2 then σ 0 6 else if w = 3 then sumA (σ 9) (σ 0 6) else if w = 4 then sumW (σ 56) (σ 55) 0 (σ 5 2) else if w = 5 then σ 6 6 else if w = 6 then σ 4 5 else if w = 7 then σ 4 6 else if w = 8 then (if σ 4 6 < σ 4 5 then σ 4 7 else -1) else if w = 9 then σ 3 2 else if w = 10 then σ 0 7 else -1) ∧ τ = σ) 0 [some (.inr 6), some (.inl w)] [] σ := by
  refine Wp.rg (fun hR => ?_)
  refine w_iload_n dX6_count_0 rfl ?_
  by_cases hsw : w < 0 ∨ 10 < w
  · refine w_tswO (tgt := 159) dX6_count_1 hw hsw (by decide) ?_
    refine w_iconst dX6_count_159 ?_
    refine w_iret dX6_count_160 rfl ?_
    refine ⟨?_, rfl⟩
    rw [if_neg (by omega), if_neg (by omega), if_neg (by omega), if_neg (by omega), if_neg (by omega), if_neg (by omega), if_neg (by omega), if_neg (by omega), if_neg (by omega), if_neg (by omega), if_neg (by omega)]
  · rcases (show w = 0 ∨ w = 1 ∨ w = 2 ∨ w = 3 ∨ w = 4 ∨ w = 5 ∨ w = 6 ∨ w = 7 ∨ w = 8 ∨ w = 9 ∨ w = 10 by omega) with rfl | rfl | rfl | rfl | rfl | rfl | rfl | rfl | rfl | rfl | rfl
    · refine w_tswI (off := 59) (tgt := 60) dX6_count_1 (by omega) (by omega) (by omega) (by decide) (by decide) ?_
      refine w_aload_n dX6_count_60 rfl ?_
      refine gf_X6_10 rfl dX6_count_61 ?_
      refine gf_X6_59 rfl dX6_count_64 ?_
      refine w_iret dX6_count_67 rfl ?_
      exact ⟨by simp, rfl⟩
    · refine w_tswI (off := 67) (tgt := 68) dX6_count_1 (by omega) (by omega) (by omega) (by decide) (by decide) ?_
      refine w_aload_n dX6_count_68 rfl ?_
      refine gf_X6_19 rfl dX6_count_69 ?_
      refine gf_X6_77 rfl dX6_count_72 ?_
      refine w_iret dX6_count_75 rfl ?_
      exact ⟨by simp, rfl⟩
    · refine w_tswI (off := 75) (tgt := 76) dX6_count_1 (by omega) (by omega) (by omega) (by decide) (by decide) ?_
      refine w_aload_n dX6_count_76 rfl ?_
      refine gf_X6_26 rfl dX6_count_77 ?_
      refine gf_X6_91 rfl dX6_count_80 ?_
      refine w_iret dX6_count_83 rfl ?_
      exact ⟨by simp, rfl⟩
    · refine w_tswI (off := 83) (tgt := 84) dX6_count_1 (by omega) (by omega) (by omega) (by decide) (by decide) ?_
      refine w_aload_n dX6_count_84 rfl ?_
      refine gf_X6_26 rfl dX6_count_85 ?_
      refine cv_X6_138 rfl dX6_count_88 (Nat.le_of_ble_eq_true rfl) (Nat.le_of_ble_eq_true rfl) (Wp.mono (ct_X0_allWidths σ hI.nb) (fun z_ τ_ hq_ => ?_))
      obtain ⟨hz_, hs_⟩ := hq_
      subst z_
      subst τ_
      refine w_iret dX6_count_91 rfl ?_
      exact ⟨by simp, rfl⟩
    · refine w_tswI (off := 91) (tgt := 92) dX6_count_1 (by omega) (by omega) (by omega) (by decide) (by decide) ?_
      refine w_aload_n dX6_count_92 rfl ?_
      refine gf_X6_10 rfl dX6_count_93 ?_
      refine cv_X6_142 rfl dX6_count_96 (Nat.le_of_ble_eq_true rfl) (Nat.le_of_ble_eq_true rfl) (Wp.mono (ct_X5_openLengths σ hI.ns) (fun z_ τ_ hq_ => ?_))
      obtain ⟨hz_, hs_⟩ := hq_
      subst z_
      subst τ_
      refine w_iret dX6_count_99 rfl ?_
      exact ⟨by simp, rfl⟩
    · refine w_tswI (off := 99) (tgt := 100) dX6_count_1 (by omega) (by omega) (by omega) (by decide) (by decide) ?_
      refine w_aload_n dX6_count_100 rfl ?_
      refine gf_X6_51 rfl dX6_count_101 ?_
      refine w_iret dX6_count_104 rfl ?_
      exact ⟨by simp, rfl⟩
    · refine w_tswI (off := 104) (tgt := 105) dX6_count_1 (by omega) (by omega) (by omega) (by decide) (by decide) ?_
      refine w_aload_n dX6_count_105 rfl ?_
      refine gf_X6_40 rfl dX6_count_106 ?_
      refine gf_X6_145 rfl dX6_count_109 ?_
      refine w_iret dX6_count_112 rfl ?_
      exact ⟨by simp, rfl⟩
    · refine w_tswI (off := 112) (tgt := 113) dX6_count_1 (by omega) (by omega) (by omega) (by decide) (by decide) ?_
      refine w_aload_n dX6_count_113 rfl ?_
      refine gf_X6_40 rfl dX6_count_114 ?_
      refine gf_X6_148 rfl dX6_count_117 ?_
      refine w_iret dX6_count_120 rfl ?_
      exact ⟨by simp, rfl⟩
    · refine w_tswI (off := 120) (tgt := 121) dX6_count_1 (by omega) (by omega) (by omega) (by decide) (by decide) ?_
      refine w_aload_n dX6_count_121 rfl ?_
      refine gf_X6_40 rfl dX6_count_122 ?_
      refine cv_X6_151 rfl dX6_count_125 (Nat.le_of_ble_eq_true rfl) (Nat.le_of_ble_eq_true rfl) (Wp.mono (ct_exi σ) (fun z_ τ_ hq_ => ?_))
      obtain ⟨hw125, hs_⟩ := hq_
      subst τ_
      refine w_if_eq (tgt := 141) dX6_count_128 (by decide) (by omega) (fun c_128 => ?_) (fun c_128 => ?_)
      · refine w_iconst dX6_count_141 ?_
        refine w_iret dX6_count_142 rfl ?_
        refine ⟨?_, rfl⟩
        simp
        omega
      · refine w_aload_n dX6_count_131 rfl ?_
        refine gf_X6_40 rfl dX6_count_132 ?_
        refine gf_X6_154 rfl dX6_count_135 ?_
        refine w_goto (tgt := 142) dX6_count_138 (by decide) ?_
        refine w_iret dX6_count_142 rfl ?_
        refine ⟨?_, rfl⟩
        simp
        omega
    · refine w_tswI (off := 142) (tgt := 143) dX6_count_1 (by omega) (by omega) (by omega) (by decide) (by decide) ?_
      refine w_aload_n dX6_count_143 rfl ?_
      refine gf_X6_47 rfl dX6_count_144 ?_
      refine gf_X6_157 rfl dX6_count_147 ?_
      refine w_iret dX6_count_150 rfl ?_
      exact ⟨by simp, rfl⟩
    · refine w_tswI (off := 150) (tgt := 151) dX6_count_1 (by omega) (by omega) (by omega) (by decide) (by decide) ?_
      refine w_aload_n dX6_count_151 rfl ?_
      refine gf_X6_26 rfl dX6_count_152 ?_
      refine gf_X6_158 rfl dX6_count_155 ?_
      refine w_iret dX6_count_158 rfl ?_
      exact ⟨by simp, rfl⟩

set_option maxRecDepth 100000 in
set_option maxHeartbeats 4000000 in
theorem ct_X6_log (σ : St) (k w : Int) (es : List En5) (he : RepC σ es) (hk : InR k) (hw : InR w) : Wp mX6_log 1 (fun z τ => z = logZ es k w ∧ τ = σ) 0 [some (.inr 6), some (.inl k), some (.inl w)] [] σ := by
  refine Wp.rg (fun hR => ?_)
  refine w_aload_n dX6_log_0 rfl ?_
  refine gf_X6_47 rfl dX6_log_1 ?_
  refine w_iload_n dX6_log_4 rfl ?_
  refine w_iload_n dX6_log_5 rfl ?_
  refine cv_X6_276 rfl dX6_log_6 (Nat.le_of_ble_eq_true rfl) (Nat.le_of_ble_eq_true rfl) (Wp.mono (ct_X3_read σ k w he.1 he.cnt hk hw) (fun z_ τ_ hq_ => ?_))
  obtain ⟨hz_, hs_⟩ := hq_
  subst τ_
  rw [he.read] at hz_
  subst z_
  refine w_iret dX6_log_9 rfl ?_
  exact ⟨rfl, rfl⟩

set_option maxRecDepth 100000 in
set_option maxHeartbeats 4000000 in
theorem ct_X6_cut (σ : St) (y s : Int) (hI : InvC σ) (hy : InR y) (hs : InR s) : Wp mX6_cut 4 (fun z τ => frC σ τ ∧ (¬ (0 ≤ s ∧ s < σ 5 2 ∧ 0 ≤ y ∧ y ≤ 999) → z = -1) ∧ ((0 ≤ s ∧ s < σ 5 2 ∧ 0 ≤ y ∧ y ≤ 999) → ∃ L, TblL (cpY σ y) (σ 5 2) (σ 0 6) L ∧ ((1000000000 ≤ L 0 0 ∧ z = -1) ∨ (L 0 0 < 1000000000 ∧ ∃ tk, IsCut (cpY σ y) (σ 5 2) (σ 0 6) L tk ∧ z = tk s)))) 0 [some (.inr 6), some (.inl y), some (.inl s)] [] σ := by
  refine Wp.rg (fun hR => ?_)
  refine w_aload_n dX6_cut_0 rfl ?_
  refine w_iload_n dX6_cut_1 rfl ?_
  refine cv_X6_69 rfl dX6_cut_2 (Nat.le_of_ble_eq_true rfl) (Nat.le_of_ble_eq_true rfl) (Wp.mono (ct_hasS _ s hs) (fun z_ τ_ hq_ => ?_))
  obtain ⟨hw2, hs_⟩ := hq_
  subst τ_
  refine w_if_eq (tgt := 16) dX6_cut_5 (by decide) (by omega) (fun c_5 => ?_) (fun c_5 => ?_)
  · refine w_iconst dX6_cut_16 ?_
    refine w_iret dX6_cut_17 rfl ?_
    first
    | exact ⟨fun k _ _ => rfl, fun _ => rfl, fun q => absurd q (by omega)⟩
    | (refine ⟨hfr, fun _ => rfl, fun q => ?_⟩
       obtain ⟨L, g1, g2, g3⟩ := hc2 (by omega)
       exact ⟨L, g1, Or.inl ⟨by omega, rfl⟩⟩)
  · refine w_aload_n dX6_cut_8 rfl ?_
    refine w_iload_n dX6_cut_9 rfl ?_
    refine cv_X6_222 rfl dX6_cut_10 (Nat.le_of_ble_eq_true rfl) (Nat.le_of_ble_eq_true rfl) (Wp.mono (ct_X6_hasCuts σ y hI hy) (fun z_ τ_ hq_ => ?_))
    obtain ⟨hc1, hc2, hfr⟩ := hq_
    have hz01 : z_ = 0 ∨ z_ = 1 := by
      by_cases q : 0 ≤ y ∧ y ≤ 999
      · obtain ⟨L, g1, g2, g3⟩ := hc2 q
        rcases g3 with g3 | g3
        · exact Or.inr g3.1
        · exact Or.inl g3.1
      · exact Or.inl (hc1 q)
    refine w_if_ne (tgt := 18) dX6_cut_13 (by decide) (by omega) (fun c_13 => ?_) (fun c_13 => ?_)
    · refine w_aload_n dX6_cut_18 rfl ?_
      refine gf_X6_33 rfl dX6_cut_19 ?_
      refine gf_X6_225 rfl dX6_cut_22 ?_
      refine w_iload_n dX6_cut_25 rfl ?_
      refine w_iald rfl (by clear hc2; have := hI.ns; omega) dX6_cut_26 ?_
      refine w_iret dX6_cut_27 rfl ?_
      by_cases q : 0 ≤ y ∧ y ≤ 999
      · obtain ⟨L, g1, g2, g3⟩ := hc2 q
        refine ⟨hfr, fun q2 => absurd q2 (by clear hc2; omega), fun _ => ⟨L, g1, Or.inr ?_⟩⟩
        rcases g3 with g3 | g3
        · exact ⟨g3.2.1, _, g3.2.2.1, rfl⟩
        · omega
      · have := hc1 q; omega
    · refine w_iconst dX6_cut_16 ?_
      refine w_iret dX6_cut_17 rfl ?_
      first
      | exact ⟨fun k _ _ => rfl, fun _ => rfl, fun q => absurd q (by omega)⟩
      | (refine ⟨hfr, fun _ => rfl, fun q => ?_⟩
         obtain ⟨L, g1, g2, g3⟩ := hc2 (by omega)
         exact ⟨L, g1, Or.inl ⟨by omega, rfl⟩⟩)

set_option maxRecDepth 100000 in
set_option maxHeartbeats 4000000 in
theorem ct_X6_price (σ : St) (y w : Int) (hI : InvC σ) (hy : InR y) (hw : InR w) : Wp mX6_price 4 (fun z τ => frC σ τ ∧ (¬ (0 ≤ w ∧ w ≤ 2 ∧ 0 ≤ y ∧ y ≤ 999) → z = -1) ∧ ((0 ≤ w ∧ w ≤ 2 ∧ 0 ≤ y ∧ y ≤ 999) → ∃ L, TblL (cpY σ y) (σ 5 2) (σ 0 6) L ∧ ((1000000000 ≤ L 0 0 ∧ z = -1) ∨ (L 0 0 < 1000000000 ∧ z = if w = 0 then L 0 0 / 1000000 else if w = 1 then L 0 0 % 1000000 / 100 else L 0 0 % 100)))) 0 [some (.inr 6), some (.inl y), some (.inl w)] [] σ := by
  refine Wp.rg (fun hR => ?_)
  refine w_iload_n dX6_price_0 rfl ?_
  refine w_iconst dX6_price_1 ?_
  refine w_iconst dX6_price_2 ?_
  refine cv_X6_55 rfl dX6_price_3 (Nat.le_of_ble_eq_true rfl) (Nat.le_of_ble_eq_true rfl) (Wp.mono (ct_within _ w 0 2 hw (by omega) (by omega)) (fun z_ τ_ hq_ => ?_))
  obtain ⟨hw3, hs_⟩ := hq_
  subst τ_
  refine w_if_eq (tgt := 17) dX6_price_6 (by decide) (by omega) (fun c_6 => ?_) (fun c_6 => ?_)
  · refine w_iconst dX6_price_17 ?_
    refine w_iret dX6_price_18 rfl ?_
    first
    | exact ⟨fun k _ _ => rfl, fun _ => rfl, fun q => absurd q (by omega)⟩
    | (refine ⟨hfr, fun _ => rfl, fun q => ?_⟩
       obtain ⟨L, g1, g2, g3⟩ := hc2 (by omega)
       exact ⟨L, g1, Or.inl ⟨by omega, rfl⟩⟩)
  · refine w_aload_n dX6_price_9 rfl ?_
    refine w_iload_n dX6_price_10 rfl ?_
    refine cv_X6_222 rfl dX6_price_11 (Nat.le_of_ble_eq_true rfl) (Nat.le_of_ble_eq_true rfl) (Wp.mono (ct_X6_hasCuts σ y hI hy) (fun z_ τ_ hq_ => ?_))
    obtain ⟨hc1, hc2, hfr⟩ := hq_
    have hz01 : z_ = 0 ∨ z_ = 1 := by
      by_cases q : 0 ≤ y ∧ y ≤ 999
      · obtain ⟨L, g1, g2, g3⟩ := hc2 q
        rcases g3 with g3 | g3
        · exact Or.inr g3.1
        · exact Or.inl g3.1
      · exact Or.inl (hc1 q)
    refine w_if_ne (tgt := 19) dX6_price_14 (by decide) (by omega) (fun c_14 => ?_) (fun c_14 => ?_)
    · have qy : 0 ≤ y ∧ y ≤ 999 := by
        by_cases q : 0 ≤ y ∧ y ≤ 999
        · exact q
        · have := hc1 q; omega
      obtain ⟨L, g1, g2, g3⟩ := hc2 qy
      have hpp : 0 ≤ τ_ 1 11 ∧ τ_ 1 11 ≤ 1000000000 := by
        rw [← g2]
        have hns := hI.ns
        exact g1.bd (hI.cp qy) 0 (by omega) hns.1 0 (by omega) hI.nb.1
      refine w_aload_n dX6_price_19 rfl ?_
      refine gf_X6_33 rfl dX6_price_20 ?_
      refine w_iload_n dX6_price_23 rfl ?_
      refine cv_X6_228 rfl dX6_price_24 (Nat.le_of_ble_eq_true rfl) (Nat.le_of_ble_eq_true rfl) (Wp.mono (ct_X1_partOfPrice _ w (by clear hc2; omega) hpp) (fun z_ τ_ hq_ => ?_))
      obtain ⟨hz_, hs_⟩ := hq_
      subst z_
      subst τ_
      refine w_iret dX6_price_27 rfl ?_
      refine ⟨hfr, fun q2 => absurd q2 (by clear hc2; omega), fun _ => ⟨L, g1, Or.inr ⟨by clear hc2; omega, by rw [g2]⟩⟩⟩
    · refine w_iconst dX6_price_17 ?_
      refine w_iret dX6_price_18 rfl ?_
      first
      | exact ⟨fun k _ _ => rfl, fun _ => rfl, fun q => absurd q (by omega)⟩
      | (refine ⟨hfr, fun _ => rfl, fun q => ?_⟩
         obtain ⟨L, g1, g2, g3⟩ := hc2 (by omega)
         exact ⟨L, g1, Or.inl ⟨by omega, rfl⟩⟩)

set_option maxRecDepth 100000 in
set_option maxHeartbeats 4000000 in
theorem ct_X6_plan (σ : St) (y : Int) (hI : InvC σ) (hy : InR y) : Wp mX6_plan 4 (fun z τ => (¬ (0 ≤ y ∧ y ≤ 999) → z = -1 ∧ frC σ τ) ∧ ((0 ≤ y ∧ y ≤ 999) → ∃ L, TblL (cpY σ y) (σ 5 2) (σ 0 6) L ∧ ((1000000000 ≤ L 0 0 ∧ z = -1 ∧ frC σ τ) ∨ (L 0 0 < 1000000000 ∧ ∃ tk go, IsCut (cpY σ y) (σ 5 2) (σ 0 6) L tk ∧ GoIs tk go (σ 5 2) ∧ z = ((mvL go (σ 11) (σ 0 6)).length : Int) ∧ PlC τ (σ 9) (σ 11) go (mvL go (σ 11) (σ 0 6)) ∧ τ 4 6 = 0 ∧ τ 4 7 = y ∧ (∀ b, 0 ≤ b → b < σ 0 6 → τ 50 b = go b) ∧ ∀ k, k ≠ 1 → k ≠ 4 → (k < 14 ∨ 47 < k) → (k < 50 ∨ 54 < k) → τ k = σ k)))) 0 [some (.inr 6), some (.inl y)] [] σ := by
  refine Wp.rg (fun hR => ?_)
  refine w_aload_n dX6_plan_0 rfl ?_
  refine w_iload_n dX6_plan_1 rfl ?_
  refine cv_X6_222 rfl dX6_plan_2 (Nat.le_of_ble_eq_true rfl) (Nat.le_of_ble_eq_true rfl) (Wp.mono (ct_X6_hasCuts σ y hI hy) (fun z_ τ_ hq_ => ?_))
  obtain ⟨hc1, hc2, hfr⟩ := hq_
  have hz01 : z_ = 0 ∨ z_ = 1 := by
    by_cases q : 0 ≤ y ∧ y ≤ 999
    · obtain ⟨L, g1, g2, g3⟩ := hc2 q
      rcases g3 with g3 | g3
      · exact Or.inr g3.1
      · exact Or.inl g3.1
    · exact Or.inl (hc1 q)
  refine w_if_ne (tgt := 10) dX6_plan_5 (by decide) (by omega) (fun c_5 => ?_) (fun c_5 => ?_)
  · have qy : 0 ≤ y ∧ y ≤ 999 := by
      by_cases q : 0 ≤ y ∧ y ≤ 999
      · exact q
      · have := hc1 q; omega
    obtain ⟨L, g1, g2, g3⟩ := hc2 qy
    have e0 := hfr 0 (by decide) (by omega)
    have e9 := hfr 9 (by decide) (by omega)
    have e11 := hfr 11 (by decide) (by omega)
    generalize hυ : τ_ = υ at *
    refine w_aload_n dX6_plan_10 rfl ?_
    refine gf_X6_40 rfl dX6_plan_11 ?_
    refine w_aload_n dX6_plan_14 rfl ?_
    refine gf_X6_26 rfl dX6_plan_15 ?_
    refine w_aload_n dX6_plan_18 rfl ?_
    refine gf_X6_33 rfl dX6_plan_19 ?_
    refine gf_X6_106 rfl dX6_plan_22 ?_
    refine w_iload_n dX6_plan_25 rfl ?_
    refine cv_X6_238 rfl dX6_plan_26 (Nat.le_of_ble_eq_true rfl) (Nat.le_of_ble_eq_true rfl) (Wp.mono (ct_X4_make _ y (by rw [hfr 0 (by decide) (by omega)]; exact hI.nb) hy) (fun z_ τ_ hq_ => ?_))
    obtain ⟨m1, m2, m3, m4, m5⟩ := hq_
    rw [e0, e9, e11] at m1
    rw [e0] at m4
    refine w_aload_n dX6_plan_29 rfl ?_
    refine gf_X6_40 rfl dX6_plan_30 ?_
    refine gf_X6_145 rfl dX6_plan_33 ?_
    refine w_iret dX6_plan_36 rfl ?_
    refine ⟨fun q2 => absurd qy q2, fun _ => ⟨L, g1, Or.inr ⟨by omega, υ 15, υ 14, ?_, ?_, m1.1, m1, m2, m3, m4, fun k k1 k4 kc kp => ?_⟩⟩⟩
    · rcases g3 with g3 | g3
      · exact g3.2.2.1
      · omega
    · rcases g3 with g3 | g3
      · exact g3.2.2.2
      · omega
    · rw [m5 k k4 (by omega) (by omega) (by omega) (by omega) (by omega)]; exact hfr k k1 kc
  · refine w_iconst dX6_plan_8 ?_
    refine w_iret dX6_plan_9 rfl ?_
    by_cases q : 0 ≤ y ∧ y ≤ 999
    · refine ⟨fun q2 => absurd q q2, fun _ => ?_⟩
      obtain ⟨L, g1, g2, g3⟩ := hc2 q
      exact ⟨L, g1, Or.inl ⟨by omega, rfl, hfr⟩⟩
    · exact ⟨fun _ => ⟨rfl, hfr⟩, fun q2 => absurd q2 q⟩

