theorem bst_congr {grp los los2 : Int → Int} {g n : Int} (h : ∀ b, 0 ≤ b → b < n → grp b = g → los b = los2 b) : ∀ k : Nat, (k : Int) ≤ n → bstF grp los g k = bstF grp los2 g k := by
  intro k
  induction k with
  | zero => intro _; rfl
  | succ k ih =>
    intro hk
    have ih := ih (by omega)
    rw [show ((k + 1 : Nat) : Int) = (k : Int) + 1 by omega, bstF_s _ _ _ (by omega), bstF_s _ _ _ (by omega), ← ih]
    by_cases q : grp k = g
    · have e1 := h k (by omega) (by omega) q
      rcases bstF_in grp los g k (by omega) with b | b
      · rw [b]; simp [q]
      · have e2 := h _ b.1 (by omega) b.2.2
        rw [e1, e2]
    · rw [if_neg (fun z => q z.1), if_neg (fun z => q z.1)]
/-- on a group's own books -/
def AgrG (grp : Int → Int) (g n : Int) (p q : (Int → Int) × (Int → Int)) : Prop := ∀ b, 0 ≤ b → b < n → grp b = g → p.1 b = q.1 b ∧ p.2 b = q.2 b
theorem gvN_agr {grp : Int → Int} {g n : Int} {p q : (Int → Int) × (Int → Int)} (hn : 0 ≤ n) (h : AgrG grp g n p q) : ∀ k : Nat, AgrG grp g n (gvN grp g n p k) (gvN grp g n q k) := by
  intro k
  induction k with
  | zero => exact h
  | succ k ih =>
    have e := bst_congr (grp := grp) (g := g) (n := n) (fun b b0 b1 b2 => (ih b b0 b1 b2).2) n.toNat (by omega)
    rw [show ((n.toNat : Nat) : Int) = n by omega] at e
    intro b b0 b1 b2
    show upF _ _ _ b = upF _ _ _ b ∧ upF _ _ _ b = upF _ _ _ b
    unfold upF
    rw [← e]
    by_cases c : b = bstF grp (gvN grp g n p k).2 g n
    · rw [if_pos c, if_pos c, if_pos c, if_pos c, ← c]
      exact ⟨by rw [(ih b b0 b1 b2).1], rfl⟩
    · rw [if_neg c, if_neg c, if_neg c, if_neg c]
      exact ih b b0 b1 b2
theorem gvN_out {grp : Int → Int} {g n : Int} {p : (Int → Int) × (Int → Int)} (hn : 0 ≤ n) {b : Int} (b0 : 0 ≤ b) (hb : grp b ≠ g) : ∀ k : Nat, (gvN grp g n p k).1 b = p.1 b := by
  intro k
  induction k with
  | zero => rfl
  | succ k ih =>
    show upF _ _ _ b = _
    unfold upF
    rw [if_neg, ih]
    intro c
    rcases bstF_in grp (gvN grp g n p k).2 g n hn with q | q
    · omega
    · rw [← c] at q; exact hb q.2.2
/-- the need of a book -/
def ndS (grp wid : Int → Int) (n g G b : Int) : Int := (gvN grp g n (shI grp wid n g G (sumW grp wid g n) (fun _ => 0), shL grp wid n g G (sumW grp wid g n) (fun _ => 0)) (lftF grp wid n g G).toNat).1 b
theorem nd_of {grp wid nd los : Int → Int} {n g G b : Int} (hn : 0 ≤ n) (b0 : 0 ≤ b) (b1 : b < n) (hb : grp b = g) : (gvN grp g n (shI grp wid n g G (sumW grp wid g n) nd, shL grp wid n g G (sumW grp wid g n) los) (lftF grp wid n g G).toNat).1 b = ndS grp wid n g G b := by
  unfold ndS
  refine (gvN_agr hn (fun x x0 x1 x2 => ?_) _ b b0 b1 hb).1
  unfold shI shL
  dsimp only
  rw [if_pos ⟨x0, x1, x2⟩, if_pos ⟨x0, x1, x2⟩, if_pos ⟨x0, x1, x2⟩, if_pos ⟨x0, x1, x2⟩]
  exact ⟨rfl, rfl⟩
theorem nd_bd {grp wid : Int → Int} {n g G b : Int} (hn : 0 ≤ n ∧ n ≤ 60) (hG : 0 ≤ G ∧ G ≤ 99) (hw : ∀ b, 0 ≤ b → b < n → 1 ≤ wid b ∧ wid b ≤ 40) (b0 : 0 ≤ b) (b1 : b < n) (hb : grp b = g) : 0 ≤ ndS grp wid n g G b ∧ ndS grp wid n g G b ≤ 1000 := by
  have ha := sumW_in grp wid g n hn.1 (fun b q1 q2 _ => by have := hw b q1 q2; omega) b b0 b1 hb
  have hwb := hw b b0 b1
  have hl := lft_bd grp wid n g G hn.1 (by omega)
  have := gvN_bd grp g n (shI grp wid n g G (sumW grp wid g n) (fun _ => 0), shL grp wid n g G (sumW grp wid g n) (fun _ => 0)) (fun b => 0 ≤ b ∧ b < n ∧ grp b = g) 0 99 (fun x hx => by
    unfold shI
    dsimp only
    rw [if_pos hx]
    have h4 := hw x hx.1 hx.2.1
    have h5 : 0 ≤ G * wid x := Int.mul_nonneg hG.1 (by omega)
    have h6 := sumW_in grp wid g n hn.1 (fun b q1 q2 _ => by have := hw b q1 q2; omega) x hx.1 hx.2.1 hx.2.2
    have h7 : G * wid x ≤ 99 * sumW grp wid g n := Int.le_trans (Int.mul_le_mul_of_nonneg_right hG.2 (by omega)) (Int.mul_le_mul_of_nonneg_left h6 (by omega))
    have h8 := Int.ediv_le_of_le_mul (by omega) h7
    have h9 := Int.ediv_nonneg h5 (by omega : 0 ≤ sumW grp wid g n)
    omega) (lftF grp wid n g G).toNat b ⟨b0, b1, hb⟩
  unfold ndS
  omega

set_option maxRecDepth 100000 in
set_option maxHeartbeats 4000000 in
theorem cm_laysNeeds (σ : St) (hb : 0 ≤ σ 7 6 ∧ σ 7 6 ≤ 60) (hng : 0 ≤ σ 7 4 ∧ σ 7 4 ≤ 8) (hgr : ∀ g, 0 ≤ g → g < σ 7 4 → 0 ≤ σ 59 g ∧ σ 59 g ≤ 99) (hgp : ∀ b, 0 ≤ b → b < σ 7 6 → 0 ≤ σ 60 b ∧ σ 60 b < σ 7 4) (hw : ∀ b, 0 ≤ b → b < σ 7 6 → 1 ≤ σ 61 b ∧ σ 61 b ≤ 40) : Wp mX7_laysNeeds 1 (fun z τ => (∀ b, 0 ≤ b → b < σ 7 6 → τ 65 b = ndS (σ 60) (σ 61) (σ 7 6) (σ 60 b) (σ 59 (σ 60 b)) b) ∧ ∀ k, k ≠ 65 → k ≠ 66 → τ k = σ k) 0 [some (.inr 7), none, none, none, none, none] [] σ := by
  refine Wp.rg (fun hR => ?_)
  refine w_iconst dX7_laysNeeds_0 ?_
  refine w_istore_n dX7_laysNeeds_1 (Nat.le_of_ble_eq_true rfl) ?_
  refine up_to (σ 7 4) (fun i => 0 ≤ i → ∀ (υ : St) (x2 : Option PV) (x3 : Option PV) (x4 : Option PV) (x5 : Option PV), ((∀ b, 0 ≤ b → b < σ 7 6 → σ 60 b < i → υ 65 b = ndS (σ 60) (σ 61) (σ 7 6) (σ 60 b) (σ 59 (σ 60 b)) b) ∧ ∀ k, k ≠ 65 → k ≠ 66 → υ k = σ k) → Wp mX7_laysNeeds 1 (fun z τ => (∀ b, 0 ≤ b → b < σ 7 6 → τ 65 b = ndS (σ 60) (σ 61) (σ 7 6) (σ 60 b) (σ 59 (σ 60 b)) b) ∧ ∀ k, k ≠ 65 → k ≠ 66 → τ k = σ k) 2 [some (.inr 7), some (.inl i), x2, x3, x4, x5] [] υ) (fun i hi ih h0 υ x2 x3 x4 x5 hinv => ?_) (0) (by omega) (by omega) σ _ _ _ _ ⟨fun b b0 b1 b2 => absurd b2 (by have := hgp b b0 b1; omega), fun k _ _ => rfl⟩
  obtain ⟨q1, q2⟩ := hinv
  have e60 : υ 60 = σ 60 := q2 60 (by decide) (by decide)
  have e61 : υ 61 = σ 61 := q2 61 (by decide) (by decide)
  have e59 : υ 59 = σ 59 := q2 59 (by decide) (by decide)
  have e7 : υ 7 = σ 7 := q2 7 (by decide) (by decide)
  refine w_iload_n dX7_laysNeeds_2 rfl ?_
  refine w_aload_n dX7_laysNeeds_3 rfl ?_
  refine gf_X7_78 rfl dX7_laysNeeds_4 ?_
  refine w_icmp_ge (tgt := 211) dX7_laysNeeds_7 (by decide) (by omega) (by rw [e7]; omega) (fun c_7 => ?_) (fun c_7 => ?_)
  · refine w_ret dX7_laysNeeds_211 rfl ?_
    rw [e7] at c_7
    exact ⟨fun b b0 b1 => q1 b b0 b1 (by have := hgp b b0 b1; omega), q2⟩
  · rw [e7] at c_7
    have hG := hgr i h0 c_7
    have hal := sumW_bd (σ 60) (σ 61) i (σ 7 6) 0 40 (by omega) (by omega) (fun b h1 h2 _ => by have := hw b h1 h2; omega) (σ 7 6) hb.1 (by omega)
    refine w_aload_n dX7_laysNeeds_10 rfl ?_
    refine w_iload_n dX7_laysNeeds_11 rfl ?_
    refine cv_X7_87 rfl dX7_laysNeeds_12 (Nat.le_of_ble_eq_true rfl) (Nat.le_of_ble_eq_true rfl) (Wp.mono (cm_widthOf υ i (by rw [e7]; exact hb) (by omega)) (fun z_ τ_ hq_ => ?_))
    obtain ⟨hz_, hs_⟩ := hq_
    subst z_
    subst τ_
    refine w_istore_n dX7_laysNeeds_15 (Nat.le_of_ble_eq_true rfl) ?_
    refine w_aload_n dX7_laysNeeds_16 rfl ?_
    refine gf_X7_16 rfl dX7_laysNeeds_17 ?_
    refine w_iload_n dX7_laysNeeds_20 rfl ?_
    refine w_iald rfl (by omega) dX7_laysNeeds_21 ?_
    refine w_istore_n dX7_laysNeeds_22 (Nat.le_of_ble_eq_true rfl) ?_
    refine w_iconst dX7_laysNeeds_23 ?_
    refine w_istore dX7_laysNeeds_24 (Nat.le_of_ble_eq_true rfl) ?_
    rw [e60, e61, e7, e59]
    refine up_to (σ 7 6) (fun j => 0 ≤ j → ∀ (τ : St) (a : Int), (τ = putA (putA υ 65 (shI (σ 60) (σ 61) (j) i (σ 59 i) (sumW (σ 60) (σ 61) i (σ 7 6)) (υ 65))) 66 (shL (σ 60) (σ 61) (j) i (σ 59 i) (sumW (σ 60) (σ 61) i (σ 7 6)) (υ 66)) ∧ a = σ 59 i - sumW (σ 60) (fun b => σ 59 i * σ 61 b / (sumW (σ 60) (σ 61) i (σ 7 6))) i j) → Wp mX7_laysNeeds 1 (fun z τ => (∀ b, 0 ≤ b → b < σ 7 6 → τ 65 b = ndS (σ 60) (σ 61) (σ 7 6) (σ 60 b) (σ 59 (σ 60 b)) b) ∧ ∀ k, k ≠ 65 → k ≠ 66 → τ k = σ k) 26 [some (.inr 7), some (.inl i), some (.inl (sumW (σ 60) (σ 61) i (σ 7 6))), some (.inl a), some (.inl j), x5] [] τ) (fun j hi2 ih2 h02 τ a hinv2 => ?_) (0) (by omega) (by omega) υ _ ⟨by rw [shI_0, shL_0, putA_self, putA_self], by rw [sumW_0]; omega⟩
    obtain ⟨hτ, ha⟩ := hinv2
    have t60 : τ 60 = σ 60 := by rw [hτ, putA_ne (by decide), putA_ne (by decide)]; exact e60
    have t61 : τ 61 = σ 61 := by rw [hτ, putA_ne (by decide), putA_ne (by decide)]; exact e61
    have t59 : τ 59 = σ 59 := by rw [hτ, putA_ne (by decide), putA_ne (by decide)]; exact e59
    have t7 : τ 7 = σ 7 := by rw [hτ, putA_ne (by decide), putA_ne (by decide)]; exact e7
    have tfr : ∀ k, k ≠ 65 → k ≠ 66 → τ k = σ k := fun k k1 k2 => by rw [hτ, putA_ne k2, putA_ne k1]; exact q2 k k1 k2
    refine w_iload dX7_laysNeeds_26 rfl ?_
    refine w_aload_n dX7_laysNeeds_28 rfl ?_
    refine gf_X7_81 rfl dX7_laysNeeds_29 ?_
    refine w_icmp_ge (tgt := 108) dX7_laysNeeds_32 (by decide) (by omega) (by rw [t7]; omega) (fun c_32 => ?_) (fun c_32 => ?_)
    · rw [t7] at c_32
      by_cases hall : 0 < (sumW (σ 60) (σ 61) i (σ 7 6))
      · have hl := lft_bd (σ 60) (σ 61) (σ 7 6) i (σ 59 i) hb.1 hall
        rw [show a = (lftF (σ 60) (σ 61) (σ 7 6) i (σ 59 i)) - 0 by rw [ha, show j = σ 7 6 by omega]; unfold lftF; omega]
        clear ih2
        refine up_to (lftF (σ 60) (σ 61) (σ 7 6) i (σ 59 i)) (fun k => 0 ≤ k → ∀ (τ : St) (x4 x5 : Option PV), τ = putA (putA υ 65 (gvN (σ 60) i (σ 7 6) (shI (σ 60) (σ 61) (σ 7 6) i (σ 59 i) (sumW (σ 60) (σ 61) i (σ 7 6)) (υ 65), shL (σ 60) (σ 61) (σ 7 6) i (σ 59 i) (sumW (σ 60) (σ 61) i (σ 7 6)) (υ 66)) k.toNat).1) 66 (gvN (σ 60) i (σ 7 6) (shI (σ 60) (σ 61) (σ 7 6) i (σ 59 i) (sumW (σ 60) (σ 61) i (σ 7 6)) (υ 65), shL (σ 60) (σ 61) (σ 7 6) i (σ 59 i) (sumW (σ 60) (σ 61) i (σ 7 6)) (υ 66)) k.toNat).2 → Wp mX7_laysNeeds 1 (fun z τ => (∀ b, 0 ≤ b → b < σ 7 6 → τ 65 b = ndS (σ 60) (σ 61) (σ 7 6) (σ 60 b) (σ 59 (σ 60 b)) b) ∧ ∀ k, k ≠ 65 → k ≠ 66 → τ k = σ k) 108 [some (.inr 7), some (.inl i), some (.inl (sumW (σ 60) (σ 61) i (σ 7 6))), some (.inl ((lftF (σ 60) (σ 61) (σ 7 6) i (σ 59 i)) - k)), x4, x5] [] τ) (fun k hi2 ih2 h02 τ x4 x5 hτ => ?_) 0 (by omega) (by omega) _ _ _ ?_
        rotate_left 1
        · rw [hτ, show j = σ 7 6 by omega]; rfl
        clear t60 t61 t59 t7 tfr
        have t60 : τ 60 = σ 60 := by rw [hτ, putA_ne (by decide), putA_ne (by decide)]; exact e60
        have t61 : τ 61 = σ 61 := by rw [hτ, putA_ne (by decide), putA_ne (by decide)]; exact e61
        have t59 : τ 59 = σ 59 := by rw [hτ, putA_ne (by decide), putA_ne (by decide)]; exact e59
        have t7 : τ 7 = σ 7 := by rw [hτ, putA_ne (by decide), putA_ne (by decide)]; exact e7
        have tfr : ∀ k, k ≠ 65 → k ≠ 66 → τ k = σ k := fun k k1 k2 => by rw [hτ, putA_ne k2, putA_ne k1]; exact q2 k k1 k2
        have t66 : τ 66 = (gvN (σ 60) i (σ 7 6) (shI (σ 60) (σ 61) (σ 7 6) i (σ 59 i) (sumW (σ 60) (σ 61) i (σ 7 6)) (υ 65), shL (σ 60) (σ 61) (σ 7 6) i (σ 59 i) (sumW (σ 60) (σ 61) i (σ 7 6)) (υ 66)) k.toNat).2 := by rw [hτ]; funext b; simp [putA_eq]
        have hndb : ∀ b, 0 ≤ b → b < σ 7 6 → σ 60 b = i → 0 ≤ (gvN (σ 60) i (σ 7 6) (shI (σ 60) (σ 61) (σ 7 6) i (σ 59 i) (sumW (σ 60) (σ 61) i (σ 7 6)) (υ 65), shL (σ 60) (σ 61) (σ 7 6) i (σ 59 i) (sumW (σ 60) (σ 61) i (σ 7 6)) (υ 66)) k.toNat).1 b ∧ (gvN (σ 60) i (σ 7 6) (shI (σ 60) (σ 61) (σ 7 6) i (σ 59 i) (sumW (σ 60) (σ 61) i (σ 7 6)) (υ 65), shL (σ 60) (σ 61) (σ 7 6) i (σ 59 i) (sumW (σ 60) (σ 61) i (σ 7 6)) (υ 66)) k.toNat).1 b ≤ 1000 := by
          intro b h1 h2 h3
          have := gvN_bd (σ 60) i (σ 7 6) (shI (σ 60) (σ 61) (σ 7 6) i (σ 59 i) (sumW (σ 60) (σ 61) i (σ 7 6)) (υ 65), shL (σ 60) (σ 61) (σ 7 6) i (σ 59 i) (sumW (σ 60) (σ 61) i (σ 7 6)) (υ 66)) (fun b => 0 ≤ b ∧ b < σ 7 6 ∧ σ 60 b = i) 0 99 (fun x hx => by
            unfold shI
            dsimp only
            rw [if_pos hx]
            have h4 := hw x hx.1 hx.2.1
            have h5 : 0 ≤ σ 59 i * σ 61 x := Int.mul_nonneg hG.1 (by omega)
            have h6 := sumW_in (σ 60) (σ 61) i (σ 7 6) hb.1 (fun b q1 q2 _ => by have := hw b q1 q2; omega) x hx.1 hx.2.1 hx.2.2
            have h7 : σ 59 i * σ 61 x ≤ 99 * (sumW (σ 60) (σ 61) i (σ 7 6)) := Int.le_trans (Int.mul_le_mul_of_nonneg_right hG.2 (by omega)) (Int.mul_le_mul_of_nonneg_left h6 (by omega))
            have h8 := Int.ediv_le_of_le_mul hall h7
            have h9 := Int.ediv_nonneg h5 (Int.le_of_lt hall)
            omega) k.toNat b ⟨h1, h2, h3⟩
          omega
        refine Wp.rg (fun hR2 => ?_)
        refine w_iload_n dX7_laysNeeds_108 rfl ?_
        refine w_if_le (tgt := 205) dX7_laysNeeds_109 (by decide) (by omega) (fun c_109 => ?_) (fun c_109 => ?_)
        · exact absurd c_109 (by omega)
        · refine w_iload_n dX7_laysNeeds_112 rfl ?_
          refine w_if_le (tgt := 205) dX7_laysNeeds_113 (by decide) (by omega) (fun c_113 => ?_) (fun c_113 => ?_)
          · refine w_iinc dX7_laysNeeds_205 (Nat.le_of_ble_eq_true rfl) rfl ?_
            refine w_goto (tgt := 2) dX7_laysNeeds_208 (by decide) ?_
            have ek : k = (lftF (σ 60) (σ 61) (σ 7 6) i (σ 59 i)) := by omega
            refine ih (by omega) (by omega) _ _ _ _ _ ⟨fun b b0 b1 b2 => ?_, tfr⟩
            have t65 : τ 65 b = (gvN (σ 60) i (σ 7 6) (shI (σ 60) (σ 61) (σ 7 6) i (σ 59 i) (sumW (σ 60) (σ 61) i (σ 7 6)) (υ 65), shL (σ 60) (σ 61) (σ 7 6) i (σ 59 i) (sumW (σ 60) (σ 61) i (σ 7 6)) (υ 66)) k.toNat).1 b := by rw [hτ, putA_ne (by decide)]; simp [putA_eq]
            rw [t65, ek]
            by_cases e : σ 60 b = i
            · rw [nd_of hb.1 b0 b1 e, e]
            · rw [gvN_out hb.1 b0 e]
              unfold shI
              dsimp only
              rw [if_neg (fun z => e z.2.2)]
              exact q1 b b0 b1 (by omega)
          · refine w_iconst dX7_laysNeeds_116 ?_
            refine w_istore dX7_laysNeeds_117 (Nat.le_of_ble_eq_true rfl) ?_
            refine w_iconst dX7_laysNeeds_119 ?_
            refine w_istore dX7_laysNeeds_120 (Nat.le_of_ble_eq_true rfl) ?_
            refine up_to (σ 7 6) (fun j => 0 ≤ j → ∀ c, (c = bstF (σ 60) (gvN (σ 60) i (σ 7 6) (shI (σ 60) (σ 61) (σ 7 6) i (σ 59 i) (sumW (σ 60) (σ 61) i (σ 7 6)) (υ 65), shL (σ 60) (σ 61) (σ 7 6) i (σ 59 i) (sumW (σ 60) (σ 61) i (σ 7 6)) (υ 66)) k.toNat).2 i j ∧ (c = -1 ∨ (0 ≤ c ∧ c < j ∧ σ 60 c = i))) → Wp mX7_laysNeeds 1 (fun z τ => (∀ b, 0 ≤ b → b < σ 7 6 → τ 65 b = ndS (σ 60) (σ 61) (σ 7 6) (σ 60 b) (σ 59 (σ 60 b)) b) ∧ ∀ k, k ≠ 65 → k ≠ 66 → τ k = σ k) 122 [some (.inr 7), some (.inl i), some (.inl (sumW (σ 60) (σ 61) i (σ 7 6))), some (.inl ((lftF (σ 60) (σ 61) (σ 7 6) i (σ 59 i)) - k)), some (.inl c), some (.inl j)] [] τ) (fun j hi3 ih3 h03 c hinv3 => ?_) (0) (by omega) (by omega) (-1) ⟨rfl, Or.inl rfl⟩
            obtain ⟨r1, r2⟩ := hinv3
            refine w_iload dX7_laysNeeds_122 rfl ?_
            refine w_aload_n dX7_laysNeeds_124 rfl ?_
            refine gf_X7_81 rfl dX7_laysNeeds_125 ?_
            refine w_icmp_ge (tgt := 180) dX7_laysNeeds_128 (by decide) (by omega) (by rw [t7]; omega) (fun c_128 => ?_) (fun c_128 => ?_)
            · rw [t7] at c_128
              have ej : j = σ 7 6 := by omega
              subst ej
              have cne : c ≠ -1 := by rw [r1]; exact bst_some hb.1 hall
              have t65 : τ 65 = (gvN (σ 60) i (σ 7 6) (shI (σ 60) (σ 61) (σ 7 6) i (σ 59 i) (sumW (σ 60) (σ 61) i (σ 7 6)) (υ 65), shL (σ 60) (σ 61) (σ 7 6) i (σ 59 i) (sumW (σ 60) (σ 61) i (σ 7 6)) (υ 66)) k.toNat).1 := by rw [hτ, putA_ne (by decide)]; funext b; simp [putA_eq]
              refine w_aload_n dX7_laysNeeds_180 rfl ?_
              refine gf_X7_38 rfl dX7_laysNeeds_181 ?_
              refine w_iload dX7_laysNeeds_184 rfl ?_
              refine w_dup2 dX7_laysNeeds_186 ?_
              refine w_iald rfl (by omega) dX7_laysNeeds_187 ?_
              refine w_iconst dX7_laysNeeds_188 ?_
              refine w_iadd dX7_laysNeeds_189 ?_
              refine w_iast rfl (by omega) (by rw [t65]; have := hndb c (by omega) (by omega) (by omega); omega) dX7_laysNeeds_190 ?_
              refine w_aload_n dX7_laysNeeds_191 rfl ?_
              refine gf_X7_41 rfl dX7_laysNeeds_192 ?_
              refine w_iload dX7_laysNeeds_195 rfl ?_
              refine w_iconst dX7_laysNeeds_197 ?_
              refine w_iast rfl (by omega) (by omega) dX7_laysNeeds_198 ?_
              refine w_iinc dX7_laysNeeds_199 (Nat.le_of_ble_eq_true rfl) rfl ?_
              refine w_goto (tgt := 108) dX7_laysNeeds_202 (by decide) ?_
              rw [show (lftF (σ 60) (σ 61) (σ 7 6) i (σ 59 i)) - k + -1 = (lftF (σ 60) (σ 61) (σ 7 6) i (σ 59 i)) - (k + 1) by omega]
              refine ih2 (by omega) (by omega) _ _ _ ?_
              rw [show (k + 1).toNat = k.toNat + 1 by omega, t65, hτ, put_putA_ne _ (by decide), put_putA, put_putA]
              rw [r1]
              rfl
            · rw [t7] at c_128
              refine w_aload_n dX7_laysNeeds_131 rfl ?_
              refine gf_X7_19 rfl dX7_laysNeeds_132 ?_
              refine w_iload dX7_laysNeeds_135 rfl ?_
              refine w_iald rfl (by omega) dX7_laysNeeds_137 ?_
              refine w_iload_n dX7_laysNeeds_138 rfl ?_
              refine w_icmp_ne (tgt := 170) dX7_laysNeeds_139 (by decide) (by rw [t60]; exact hR _ _) (by omega) (fun c_139 => ?_) (fun c_139 => ?_)
              · refine w_iload dX7_laysNeeds_170 rfl ?_
                refine w_istore dX7_laysNeeds_172 (Nat.le_of_ble_eq_true rfl) ?_
                refine w_iinc dX7_laysNeeds_174 (Nat.le_of_ble_eq_true rfl) rfl ?_
                refine w_goto (tgt := 122) dX7_laysNeeds_177 (by decide) ?_
                rw [t60] at c_139
                refine ih3 (by omega) (by omega) _ ⟨?_, by omega⟩
                rw [bstF_s _ _ _ h03, ← r1]
                first
                | (rw [t66] at c_162; first | rw [if_pos (by omega)] | rw [if_neg (by omega)])
                | (first | rw [if_pos (by omega)] | rw [if_neg (by omega)])
              · refine w_iload dX7_laysNeeds_142 rfl ?_
                refine w_iconst dX7_laysNeeds_144 ?_
                refine w_icmp_eq (tgt := 165) dX7_laysNeeds_145 (by decide) (by omega) (by omega) (fun c_145 => ?_) (fun c_145 => ?_)
                · refine w_iload dX7_laysNeeds_165 rfl ?_
                  refine w_goto (tgt := 172) dX7_laysNeeds_167 (by decide) ?_
                  refine w_istore dX7_laysNeeds_172 (Nat.le_of_ble_eq_true rfl) ?_
                  refine w_iinc dX7_laysNeeds_174 (Nat.le_of_ble_eq_true rfl) rfl ?_
                  refine w_goto (tgt := 122) dX7_laysNeeds_177 (by decide) ?_
                  rw [t60] at c_139
                  refine ih3 (by omega) (by omega) _ ⟨?_, by omega⟩
                  rw [bstF_s _ _ _ h03, ← r1]
                  first
                  | (rw [t66] at c_162; first | rw [if_pos (by omega)] | rw [if_neg (by omega)])
                  | (first | rw [if_pos (by omega)] | rw [if_neg (by omega)])
                · refine w_aload_n dX7_laysNeeds_148 rfl ?_
                  refine gf_X7_41 rfl dX7_laysNeeds_149 ?_
                  refine w_iload dX7_laysNeeds_152 rfl ?_
                  refine w_iald rfl (by omega) dX7_laysNeeds_154 ?_
                  refine w_aload_n dX7_laysNeeds_155 rfl ?_
                  refine gf_X7_41 rfl dX7_laysNeeds_156 ?_
                  refine w_iload dX7_laysNeeds_159 rfl ?_
                  refine w_iald rfl (by omega) dX7_laysNeeds_161 ?_
                  refine w_icmp_le (tgt := 170) dX7_laysNeeds_162 (by decide) (hR2 _ _) (hR2 _ _) (fun c_162 => ?_) (fun c_162 => ?_)
                  · refine w_iload dX7_laysNeeds_170 rfl ?_
                    refine w_istore dX7_laysNeeds_172 (Nat.le_of_ble_eq_true rfl) ?_
                    refine w_iinc dX7_laysNeeds_174 (Nat.le_of_ble_eq_true rfl) rfl ?_
                    refine w_goto (tgt := 122) dX7_laysNeeds_177 (by decide) ?_
                    rw [t60] at c_139
                    refine ih3 (by omega) (by omega) _ ⟨?_, by omega⟩
                    rw [bstF_s _ _ _ h03, ← r1]
                    first
                    | (rw [t66] at c_162; first | rw [if_pos (by omega)] | rw [if_neg (by omega)])
                    | (first | rw [if_pos (by omega)] | rw [if_neg (by omega)])
                  · refine w_iload dX7_laysNeeds_165 rfl ?_
                    refine w_goto (tgt := 172) dX7_laysNeeds_167 (by decide) ?_
                    refine w_istore dX7_laysNeeds_172 (Nat.le_of_ble_eq_true rfl) ?_
                    refine w_iinc dX7_laysNeeds_174 (Nat.le_of_ble_eq_true rfl) rfl ?_
                    refine w_goto (tgt := 122) dX7_laysNeeds_177 (by decide) ?_
                    rw [t60] at c_139
                    refine ih3 (by omega) (by omega) _ ⟨?_, by omega⟩
                    rw [bstF_s _ _ _ h03, ← r1]
                    first
                    | (rw [t66] at c_162; first | rw [if_pos (by omega)] | rw [if_neg (by omega)])
                    | (first | rw [if_pos (by omega)] | rw [if_neg (by omega)])
      · have hz : (sumW (σ 60) (σ 61) i (σ 7 6)) = 0 := by omega
        refine w_iload_n dX7_laysNeeds_108 rfl ?_
        refine w_if_le (tgt := 205) dX7_laysNeeds_109 (by decide) (by omega) (fun c_109 => ?_) (fun c_109 => ?_)
        · refine w_iinc dX7_laysNeeds_205 (Nat.le_of_ble_eq_true rfl) rfl ?_
          refine w_goto (tgt := 2) dX7_laysNeeds_208 (by decide) ?_
          have nog : ∀ b, 0 ≤ b → b < σ 7 6 → σ 60 b ≠ i := fun b b0 b1 e => by
            have := sumW_in (σ 60) (σ 61) i (σ 7 6) hb.1 (fun b q1 q2 _ => by have := hw b q1 q2; omega) b b0 b1 e
            have := hw b b0 b1
            omega
          refine ih (by omega) (by omega) _ _ _ _ _ ⟨fun b b0 b1 b2 => ?_, tfr⟩
          have e := nog b b0 b1
          rw [hτ, putA_ne (by decide)]
          simp only [putA_eq, if_true]
          unfold shI
          rw [if_neg (fun z => e z.2.2)]
          exact q1 b b0 b1 (by omega)
        · exact absurd c_109 (by omega)
    · refine w_aload_n dX7_laysNeeds_35 rfl ?_
      refine gf_X7_19 rfl dX7_laysNeeds_36 ?_
      refine w_iload dX7_laysNeeds_39 rfl ?_
      refine w_iald rfl (by rw [t7] at c_32; omega) dX7_laysNeeds_41 ?_
      refine w_iload_n dX7_laysNeeds_42 rfl ?_
      refine w_icmp_ne (tgt := 102) dX7_laysNeeds_43 (by decide) (by rw [t60]; exact hR _ _) (by omega) (fun c_43 => ?_) (fun c_43 => ?_)
      · refine w_iinc dX7_laysNeeds_102 (Nat.le_of_ble_eq_true rfl) rfl ?_
        refine w_goto (tgt := 26) dX7_laysNeeds_105 (by decide) ?_
        rw [t7] at c_32
        refine ih2 (by omega) (by omega) _ _ ⟨?_, ?_⟩
        · rw [shI_s _ _ _ _ _ _ h02, shL_s _ _ _ _ _ _ h02, if_neg (by rw [← t60]; exact c_43), if_neg (by rw [← t60]; exact c_43)]
          exact hτ
        · rw [sumW_s _ _ _ h02, if_neg (by rw [← t60]; exact c_43), ha]
      · have hall : 0 < (sumW (σ 60) (σ 61) i (σ 7 6)) := by
          have h1 := sumW_in (σ 60) (σ 61) i (σ 7 6) hb.1 (fun b q1 q2 _ => by have := hw b q1 q2; omega) j (by omega) (by rw [t7] at c_32; exact c_32) (by rw [← t60]; exact c_43)
          have := hw j (by omega) (by rw [t7] at c_32; exact c_32)
          omega
        have h3 := hw j (by omega) (by rw [t7] at c_32; exact c_32)
        have h4 : σ 59 i * σ 61 j ≤ 99 * σ 61 j := Int.mul_le_mul_of_nonneg_right (by omega) (by omega)
        have h5 : 0 ≤ σ 59 i * σ 61 j := Int.mul_nonneg (by omega) (by omega)
        have hd1 := Int.ediv_nonneg h5 (Int.le_of_lt hall)
        have hd2 := Int.ediv_le_self (sumW (σ 60) (σ 61) i (σ 7 6)) h5
        have hm1 := Int.emod_nonneg (σ 59 i * σ 61 j) (Int.ne_of_gt hall)
        have hm2 := Int.emod_lt_of_pos (σ 59 i * σ 61 j) hall
        refine w_aload_n dX7_laysNeeds_46 rfl ?_
        refine gf_X7_38 rfl dX7_laysNeeds_47 ?_
        refine w_iload dX7_laysNeeds_50 rfl ?_
        refine w_aload_n dX7_laysNeeds_52 rfl ?_
        refine gf_X7_16 rfl dX7_laysNeeds_53 ?_
        refine w_iload_n dX7_laysNeeds_56 rfl ?_
        refine w_iald rfl (by omega) dX7_laysNeeds_57 ?_
        refine w_aload_n dX7_laysNeeds_58 rfl ?_
        refine gf_X7_22 rfl dX7_laysNeeds_59 ?_
        refine w_iload dX7_laysNeeds_62 rfl ?_
        refine w_iald rfl (by rw [t7] at c_32; omega) dX7_laysNeeds_64 ?_
        refine w_imul dX7_laysNeeds_65 ?_
        refine w_iload_n dX7_laysNeeds_66 rfl ?_
        refine w_idivN dX7_laysNeeds_67 (by rw [t59, t61]; omega) (by rw [t59, t61]; omega) (by omega) hall ?_
        refine w_iast rfl (by rw [t7] at c_32; omega) (by rw [t59, t61]; omega) dX7_laysNeeds_68 ?_
        refine w_aload_n dX7_laysNeeds_69 rfl ?_
        refine gf_X7_41 rfl dX7_laysNeeds_70 ?_
        refine w_iload dX7_laysNeeds_73 rfl ?_
        refine w_aload_n dX7_laysNeeds_75 rfl ?_
        refine gf_X7_16 rfl dX7_laysNeeds_76 ?_
        refine w_iload_n dX7_laysNeeds_79 rfl ?_
        refine w_iald rfl (by omega) dX7_laysNeeds_80 ?_
        refine w_aload_n dX7_laysNeeds_81 rfl ?_
        refine gf_X7_22 rfl dX7_laysNeeds_82 ?_
        refine w_iload dX7_laysNeeds_85 rfl ?_
        refine w_iald rfl (by rw [t7] at c_32; omega) dX7_laysNeeds_87 ?_
        refine w_imul dX7_laysNeeds_88 ?_
        refine w_iload_n dX7_laysNeeds_89 rfl ?_
        refine w_iremN dX7_laysNeeds_90 (by rw [put_ne (by decide), put_ne (by decide), t59, t61]; omega) (by rw [put_ne (by decide), put_ne (by decide), t59, t61]; omega) (by omega) hall ?_
        refine w_iast rfl (by rw [t7] at c_32; omega) (by rw [put_ne (by decide), put_ne (by decide), t59, t61]; omega) dX7_laysNeeds_91 ?_
        refine w_iload_n dX7_laysNeeds_92 rfl ?_
        refine w_aload_n dX7_laysNeeds_93 rfl ?_
        refine gf_X7_38 rfl dX7_laysNeeds_94 ?_
        refine w_iload dX7_laysNeeds_97 rfl ?_
        refine w_iald rfl (by rw [t7] at c_32; omega) dX7_laysNeeds_99 ?_
        refine w_isub dX7_laysNeeds_100 ?_
        refine w_istore_n dX7_laysNeeds_101 (Nat.le_of_ble_eq_true rfl) ?_
        refine w_iinc dX7_laysNeeds_102 (Nat.le_of_ble_eq_true rfl) rfl ?_
        refine w_goto (tgt := 26) dX7_laysNeeds_105 (by decide) ?_
        rw [t7] at c_32
        refine ih2 (by omega) (by omega) _ _ ⟨?_, ?_⟩
        · rw [shI_s _ _ _ _ _ _ h02, shL_s _ _ _ _ _ _ h02, if_pos (by rw [← t60]; exact c_43), if_pos (by rw [← t60]; exact c_43)]
          simp only [put_ne (show (61 : Nat) ≠ 65 by decide), put_ne (show (59 : Nat) ≠ 65 by decide), t61, t59]
          rw [hτ, put_putA_ne _ (by decide), put_putA, put_putA]
        · rw [sumW_s _ _ _ h02, if_pos (by rw [← t60]; exact c_43), ha]
          simp only [put_eq]
          simp [t61, t59]
          omega

