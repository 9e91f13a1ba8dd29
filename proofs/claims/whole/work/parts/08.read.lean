def wr (z : Int) : Int := (Int32.ofInt z).toInt
theorem wr_in (z : Int) : InR (wr z) := by
  have h1 := Int32.toInt_lt (Int32.ofInt z)
  have h2 := Int32.le_toInt (Int32.ofInt z)
  unfold wr
  omega
theorem wr_of {z : Int} (h : InR z) : wr z = z := oi h
theorem Wp.wrap {M : MI} {d pc : Nat} {Q : Int → St → Prop} {ls : List (Option PV)} {st : List PV} {σ : St} {z : Int} (h : Wp M d Q pc ls (.inl (wr z) :: st) σ) : Wp M d Q pc ls (.inl z :: st) σ := by
  intro p l e s m args below meth c cI cA D ad A hc H locs lsA hr hP hS hl
  have h1 := h p l e s m args below meth c cI cA D ad A hc H locs lsA hr hP hS hl
  have e1 : rv ad (.inl (wr z)) = rv ad (.inl z) := by
    show Value.int (Int32.ofInt (Int32.ofInt z).toInt) = Value.int (Int32.ofInt z)
    rw [Int32.ofInt_toInt]
  rw [List.map_cons, e1] at h1
  exact h1
/-! what loops over rows give -/
def sumW (row amt : Int → Int) (v n : Int) : Int := foI (fun b a => if row b = v then a + amt b else a) 0 n
def cntW (row : Int → Int) (v n : Int) : Int := foI (fun b a => if row b = v then a + 1 else a) 0 n
def sumA (amt : Int → Int) (n : Int) : Int := foI (fun b a => a + amt b) 0 n
/-- the first place with a value, or -1 -/
def IsFst (row : Int → Int) (v n z : Int) : Prop := (z = -1 ∧ ∀ b, 0 ≤ b → b < n → row b ≠ v) ∨ (0 ≤ z ∧ z < n ∧ row z = v ∧ ∀ b, 0 ≤ b → b < z → row b ≠ v)
theorem IsFst.uniq {row : Int → Int} {v n z y : Int} (h : IsFst row v n z) (k : IsFst row v n y) : z = y := by
  rcases h with ⟨h1, h2⟩ | ⟨h1, h2, h3, h4⟩ <;> rcases k with ⟨k1, k2⟩ | ⟨k1, k2, k3, k4⟩
  · omega
  · exact absurd k3 (h2 y k1 k2)
  · exact absurd h3 (k2 z h1 h2)
  · rcases Int.lt_trichotomy z y with q | q | q
    · exact absurd h3 (k4 z h1 q)
    · exact q
    · exact absurd k3 (h4 y k1 q)
theorem IsFst.congr {row row' : Int → Int} {v n z : Int} (h : IsFst row v n z) (e : ∀ b, 0 ≤ b → b < n → row b = row' b) : IsFst row' v n z := by
  rcases h with ⟨h1, h2⟩ | ⟨h1, h2, h3, h4⟩
  · exact Or.inl ⟨h1, fun b b1 b2 => by rw [← e b b1 b2]; exact h2 b b1 b2⟩
  · exact Or.inr ⟨h1, h2, by rw [← e z h1 h2]; exact h3, fun b b1 b2 => by rw [← e b b1 (by omega)]; exact h4 b b1 b2⟩
/-- behind all of a group and of those ahead -/
def IsNb (grp : Int → Int) (n g z : Int) : Prop := 0 ≤ z ∧ z ≤ n ∧ (∀ b, 0 ≤ b → b < z → grp b ≤ g) ∧ (z = n ∨ g < grp z)
theorem IsNb.uniq {grp : Int → Int} {n g z y : Int} (h : IsNb grp n g z) (k : IsNb grp n g y) : z = y := by
  obtain ⟨h1, h2, h3, h4⟩ := h
  obtain ⟨k1, k2, k3, k4⟩ := k
  rcases Int.lt_trichotomy z y with q | q | q
  · have := k3 z h1 q
    omega
  · exact q
  · have := h3 y k1 q
    omega
theorem IsNb.congr {grp grp' : Int → Int} {n g z : Int} (h : IsNb grp n g z) (e : ∀ b, 0 ≤ b → b < n → grp b = grp' b) : IsNb grp' n g z := by
  obtain ⟨h1, h2, h3, h4⟩ := h
  refine ⟨h1, h2, fun b b1 b2 => by rw [← e b b1 (by omega)]; exact h3 b b1 b2, ?_⟩
  rcases h4 with h4 | h4
  · exact Or.inl h4
  · by_cases q : z = n
    · exact Or.inl q
    · exact Or.inr (by rw [← e z h1 (by omega)]; exact h4)
def shlF (grp shf : Int → Int) (g n : Int) : Int × Int := foI (fun b (p : Int × Int) => if grp b = g ∧ shf b ≠ p.2 then (p.1 + 1, shf b) else p) (0, -1) n

set_option maxRecDepth 100000 in
set_option maxHeartbeats 4000000 in
theorem ct_X0_sumWith (σ : St) (r1 r2 : Nat) (v : Int) (hb : 0 ≤ σ 0 6 ∧ σ 0 6 ≤ 60) (hs1 : shT[r1]? = some (.inr (.inl 60))) (hs2 : shT[r2]? = some (.inr (.inl 60))) (hv : InR v) : Wp mX0_sumWith 0 (fun z τ => z = sumW (σ r1) (σ r2) v (σ 0 6) ∧ τ = σ) 0 [some (.inr 0), some (.inr r1), some (.inl v), some (.inr r2), none, none] [] σ := by
  refine Wp.rg (fun hR => ?_)
  refine w_iconst dX0_sumWith_0 ?_
  refine w_istore dX0_sumWith_1 (Nat.le_of_ble_eq_true rfl) ?_
  refine w_iconst dX0_sumWith_3 ?_
  refine w_istore dX0_sumWith_4 (Nat.le_of_ble_eq_true rfl) ?_
  refine up_to (σ 0 6) (fun i => 0 ≤ i → ∀ a, a = sumW (σ r1) (σ r2) v i → Wp mX0_sumWith 0 (fun z τ => z = sumW (σ r1) (σ r2) v (σ 0 6) ∧ τ = σ) 6 [some (.inr 0), some (.inr r1), some (.inl v), some (.inr r2), some (.inl a), some (.inl i)] [] σ) (fun i hi ih h0 a hinv => ?_) (0) (by omega) (by omega) 0 rfl
  refine w_iload dX0_sumWith_6 rfl ?_
  refine w_aload_n dX0_sumWith_8 rfl ?_
  refine gf_X0_30 rfl dX0_sumWith_9 ?_
  refine w_icmp_ge (tgt := 38) dX0_sumWith_12 (by decide) (by omega) (by omega) (fun c_12 => ?_) (fun c_12 => ?_)
  · refine w_iload dX0_sumWith_38 rfl ?_
    refine w_iret dX0_sumWith_40 rfl ?_
    exact ⟨by rw [hinv, show i = σ 0 6 by omega], rfl⟩
  · refine w_aload_n dX0_sumWith_15 rfl ?_
    refine w_iload dX0_sumWith_16 rfl ?_
    refine w_iald hs1 (by omega) dX0_sumWith_18 ?_
    refine w_iload_n dX0_sumWith_19 rfl ?_
    refine w_icmp_ne (tgt := 32) dX0_sumWith_20 (by decide) (hR _ _) hv (fun c_20 => ?_) (fun c_20 => ?_)
    · refine w_iinc dX0_sumWith_32 (Nat.le_of_ble_eq_true rfl) rfl ?_
      refine w_goto (tgt := 6) dX0_sumWith_35 (by decide) ?_
      exact ih (by omega) (by omega) _ (by unfold sumW; rw [foI_s _ _ h0]; unfold sumW at hinv; rw [← hinv]; simp [c_20])
    · refine w_iload dX0_sumWith_23 rfl ?_
      refine w_aload_n dX0_sumWith_25 rfl ?_
      refine w_iload dX0_sumWith_26 rfl ?_
      refine w_iald hs2 (by omega) dX0_sumWith_28 ?_
      refine w_iadd dX0_sumWith_29 ?_
      refine w_istore dX0_sumWith_30 (Nat.le_of_ble_eq_true rfl) ?_
      refine w_iinc dX0_sumWith_32 (Nat.le_of_ble_eq_true rfl) rfl ?_
      refine w_goto (tgt := 6) dX0_sumWith_35 (by decide) ?_
      exact ih (by omega) (by omega) _ (by unfold sumW; rw [foI_s _ _ h0]; unfold sumW at hinv; rw [← hinv]; simp [c_20])

set_option maxRecDepth 100000 in
set_option maxHeartbeats 4000000 in
theorem ct_X0_countWith (σ : St) (r1 : Nat) (v : Int) (hb : 0 ≤ σ 0 6 ∧ σ 0 6 ≤ 60) (hs1 : shT[r1]? = some (.inr (.inl 60))) (hv : InR v) : Wp mX0_countWith 0 (fun z τ => z = cntW (σ r1) v (σ 0 6) ∧ τ = σ) 0 [some (.inr 0), some (.inr r1), some (.inl v), none, none] [] σ := by
  refine Wp.rg (fun hR => ?_)
  refine w_iconst dX0_countWith_0 ?_
  refine w_istore_n dX0_countWith_1 (Nat.le_of_ble_eq_true rfl) ?_
  refine w_iconst dX0_countWith_2 ?_
  refine w_istore dX0_countWith_3 (Nat.le_of_ble_eq_true rfl) ?_
  refine up_to (σ 0 6) (fun i => 0 ≤ i → ∀ a, a = cntW (σ r1) v i → Wp mX0_countWith 0 (fun z τ => z = cntW (σ r1) v (σ 0 6) ∧ τ = σ) 5 [some (.inr 0), some (.inr r1), some (.inl v), some (.inl a), some (.inl i)] [] σ) (fun i hi ih h0 a hinv => ?_) (0) (by omega) (by omega) 0 rfl
  refine w_iload dX0_countWith_5 rfl ?_
  refine w_aload_n dX0_countWith_7 rfl ?_
  refine gf_X0_30 rfl dX0_countWith_8 ?_
  refine w_icmp_ge (tgt := 31) dX0_countWith_11 (by decide) (by omega) (by omega) (fun c_11 => ?_) (fun c_11 => ?_)
  · refine w_iload_n dX0_countWith_31 rfl ?_
    refine w_iret dX0_countWith_32 rfl ?_
    exact ⟨by rw [hinv, show i = σ 0 6 by omega], rfl⟩
  · refine w_aload_n dX0_countWith_14 rfl ?_
    refine w_iload dX0_countWith_15 rfl ?_
    refine w_iald hs1 (by omega) dX0_countWith_17 ?_
    refine w_iload_n dX0_countWith_18 rfl ?_
    refine w_icmp_ne (tgt := 25) dX0_countWith_19 (by decide) (hR _ _) hv (fun c_19 => ?_) (fun c_19 => ?_)
    · refine w_iinc dX0_countWith_25 (Nat.le_of_ble_eq_true rfl) rfl ?_
      refine w_goto (tgt := 5) dX0_countWith_28 (by decide) ?_
      exact ih (by omega) (by omega) _ (by unfold cntW; rw [foI_s _ _ h0]; unfold cntW at hinv; rw [← hinv]; simp [c_19])
    · refine w_iinc dX0_countWith_22 (Nat.le_of_ble_eq_true rfl) rfl ?_
      refine w_iinc dX0_countWith_25 (Nat.le_of_ble_eq_true rfl) rfl ?_
      refine w_goto (tgt := 5) dX0_countWith_28 (by decide) ?_
      exact ih (by omega) (by omega) _ (by unfold cntW; rw [foI_s _ _ h0]; unfold cntW at hinv; rw [← hinv]; simp [c_19])

set_option maxRecDepth 100000 in
set_option maxHeartbeats 4000000 in
theorem ct_X0_firstWith (σ : St) (r1 : Nat) (v : Int) (hb : 0 ≤ σ 0 6 ∧ σ 0 6 ≤ 60) (hs1 : shT[r1]? = some (.inr (.inl 60))) (hv : InR v) : Wp mX0_firstWith 0 (fun z τ => IsFst (σ r1) v (σ 0 6) z ∧ τ = σ) 0 [some (.inr 0), some (.inr r1), some (.inl v), none] [] σ := by
  refine Wp.rg (fun hR => ?_)
  refine w_iconst dX0_firstWith_0 ?_
  refine w_istore_n dX0_firstWith_1 (Nat.le_of_ble_eq_true rfl) ?_
  refine up_to (σ 0 6) (fun i => 0 ≤ i → (∀ b, 0 ≤ b → b < i → σ r1 b ≠ v) → Wp mX0_firstWith 0 (fun z τ => IsFst (σ r1) v (σ 0 6) z ∧ τ = σ) 2 [some (.inr 0), some (.inr r1), some (.inl v), some (.inl i)] [] σ) (fun i hi ih h0  hinv => ?_) (0) (by omega) (by omega)  (fun b h1 h2 => by omega)
  refine w_iload_n dX0_firstWith_2 rfl ?_
  refine w_aload_n dX0_firstWith_3 rfl ?_
  refine gf_X0_30 rfl dX0_firstWith_4 ?_
  refine w_icmp_ge (tgt := 25) dX0_firstWith_7 (by decide) (by omega) (by omega) (fun c_7 => ?_) (fun c_7 => ?_)
  · refine w_iconst dX0_firstWith_25 ?_
    refine w_iret dX0_firstWith_26 rfl ?_
    exact ⟨Or.inl ⟨rfl, fun b h1 h2 => hinv b h1 (by omega)⟩, rfl⟩
  · refine w_aload_n dX0_firstWith_10 rfl ?_
    refine w_iload_n dX0_firstWith_11 rfl ?_
    refine w_iald hs1 (by omega) dX0_firstWith_12 ?_
    refine w_iload_n dX0_firstWith_13 rfl ?_
    refine w_icmp_ne (tgt := 19) dX0_firstWith_14 (by decide) (hR _ _) hv (fun c_14 => ?_) (fun c_14 => ?_)
    · refine w_iinc dX0_firstWith_19 (Nat.le_of_ble_eq_true rfl) rfl ?_
      refine w_goto (tgt := 2) dX0_firstWith_22 (by decide) ?_
      exact ih (by omega) (by omega) (fun b h1 h2 => by
        by_cases q : b = i
        · rw [q]; exact c_14
        · exact hinv b h1 (by omega))
    · refine w_iload_n dX0_firstWith_17 rfl ?_
      refine w_iret dX0_firstWith_18 rfl ?_
      exact ⟨Or.inr ⟨h0, by omega, c_14, hinv⟩, rfl⟩

set_option maxRecDepth 100000 in
set_option maxHeartbeats 4000000 in
theorem ct_X0_allWidths (σ : St) (hb : 0 ≤ σ 0 6 ∧ σ 0 6 ≤ 60) : Wp mX0_allWidths 0 (fun z τ => z = sumA (σ 9) (σ 0 6) ∧ τ = σ) 0 [some (.inr 0), none, none] [] σ := by
  refine Wp.rg (fun hR => ?_)
  refine w_iconst dX0_allWidths_0 ?_
  refine w_istore_n dX0_allWidths_1 (Nat.le_of_ble_eq_true rfl) ?_
  refine w_iconst dX0_allWidths_2 ?_
  refine w_istore_n dX0_allWidths_3 (Nat.le_of_ble_eq_true rfl) ?_
  refine up_to (σ 0 6) (fun i => 0 ≤ i → ∀ a, a = sumA (σ 9) i → Wp mX0_allWidths 0 (fun z τ => z = sumA (σ 9) (σ 0 6) ∧ τ = σ) 4 [some (.inr 0), some (.inl a), some (.inl i)] [] σ) (fun i hi ih h0 a hinv => ?_) (0) (by omega) (by omega) 0 rfl
  refine w_iload_n dX0_allWidths_4 rfl ?_
  refine w_aload_n dX0_allWidths_5 rfl ?_
  refine gf_X0_30 rfl dX0_allWidths_6 ?_
  refine w_icmp_ge (tgt := 27) dX0_allWidths_9 (by decide) (by omega) (by omega) (fun c_9 => ?_) (fun c_9 => ?_)
  · refine w_iload_n dX0_allWidths_27 rfl ?_
    refine w_iret dX0_allWidths_28 rfl ?_
    exact ⟨by rw [hinv, show i = σ 0 6 by omega], rfl⟩
  · refine w_iload_n dX0_allWidths_12 rfl ?_
    refine w_aload_n dX0_allWidths_13 rfl ?_
    refine gf_X0_15 rfl dX0_allWidths_14 ?_
    refine w_iload_n dX0_allWidths_17 rfl ?_
    refine w_iald rfl (by omega) dX0_allWidths_18 ?_
    refine w_iadd dX0_allWidths_19 ?_
    refine w_istore_n dX0_allWidths_20 (Nat.le_of_ble_eq_true rfl) ?_
    refine w_iinc dX0_allWidths_21 (Nat.le_of_ble_eq_true rfl) rfl ?_
    refine w_goto (tgt := 4) dX0_allWidths_24 (by decide) ?_
    exact ih (by omega) (by omega) _ (by unfold sumA; rw [foI_s _ _ h0]; unfold sumA at hinv; rw [← hinv])

set_option maxRecDepth 100000 in
set_option maxHeartbeats 4000000 in
theorem ct_X0_numberBehind (σ : St) (g : Int) (hb : 0 ≤ σ 0 6 ∧ σ 0 6 ≤ 60) (hg : InR g) : Wp mX0_numberBehind 0 (fun z τ => IsNb (σ 8) (σ 0 6) g z ∧ τ = σ) 0 [some (.inr 0), some (.inl g), none] [] σ := by
  refine Wp.rg (fun hR => ?_)
  refine w_iconst dX0_numberBehind_0 ?_
  refine w_istore_n dX0_numberBehind_1 (Nat.le_of_ble_eq_true rfl) ?_
  refine up_to (σ 0 6) (fun i => 0 ≤ i → (∀ b, 0 ≤ b → b < i → σ 8 b ≤ g) → Wp mX0_numberBehind 0 (fun z τ => IsNb (σ 8) (σ 0 6) g z ∧ τ = σ) 2 [some (.inr 0), some (.inl g), some (.inl i)] [] σ) (fun i hi ih h0  hinv => ?_) (0) (by omega) (by omega)  (fun b h1 h2 => by omega)
  refine w_iload_n dX0_numberBehind_2 rfl ?_
  refine w_aload_n dX0_numberBehind_3 rfl ?_
  refine gf_X0_30 rfl dX0_numberBehind_4 ?_
  refine w_icmp_ge (tgt := 26) dX0_numberBehind_7 (by decide) (by omega) (by omega) (fun c_7 => ?_) (fun c_7 => ?_)
  · refine w_iload_n dX0_numberBehind_26 rfl ?_
    refine w_iret dX0_numberBehind_27 rfl ?_
    exact ⟨⟨h0, hi, hinv, by omega⟩, rfl⟩
  · refine w_aload_n dX0_numberBehind_10 rfl ?_
    refine gf_X0_9 rfl dX0_numberBehind_11 ?_
    refine w_iload_n dX0_numberBehind_14 rfl ?_
    refine w_iald rfl (by omega) dX0_numberBehind_15 ?_
    refine w_iload_n dX0_numberBehind_16 rfl ?_
    refine w_icmp_gt (tgt := 26) dX0_numberBehind_17 (by decide) (hR _ _) hg (fun c_17 => ?_) (fun c_17 => ?_)
    · refine w_iload_n dX0_numberBehind_26 rfl ?_
      refine w_iret dX0_numberBehind_27 rfl ?_
      exact ⟨⟨h0, hi, hinv, by omega⟩, rfl⟩
    · refine w_iinc dX0_numberBehind_20 (Nat.le_of_ble_eq_true rfl) rfl ?_
      refine w_goto (tgt := 2) dX0_numberBehind_23 (by decide) ?_
      exact ih (by omega) (by omega) (fun b h1 h2 => by
        by_cases q : b = i
        · rw [q]; exact c_17
        · exact hinv b h1 (by omega))

set_option maxRecDepth 100000 in
set_option maxHeartbeats 4000000 in
theorem ct_X0_shelvesOf (σ : St) (g : Int) (hb : 0 ≤ σ 0 6 ∧ σ 0 6 ≤ 60) (hg : InR g) : Wp mX0_shelvesOf 0 (fun z τ => z = (shlF (σ 8) (σ 11) g (σ 0 6)).1 ∧ τ = σ) 0 [some (.inr 0), some (.inl g), none, none, none] [] σ := by
  refine Wp.rg (fun hR => ?_)
  refine w_iconst dX0_shelvesOf_0 ?_
  refine w_istore_n dX0_shelvesOf_1 (Nat.le_of_ble_eq_true rfl) ?_
  refine w_iconst dX0_shelvesOf_2 ?_
  refine w_istore_n dX0_shelvesOf_3 (Nat.le_of_ble_eq_true rfl) ?_
  refine w_iconst dX0_shelvesOf_4 ?_
  refine w_istore dX0_shelvesOf_5 (Nat.le_of_ble_eq_true rfl) ?_
  refine up_to (σ 0 6) (fun i => 0 ≤ i → ∀ a l, ((a, l) = shlF (σ 8) (σ 11) g i ∧ InR l) → Wp mX0_shelvesOf 0 (fun z τ => z = (shlF (σ 8) (σ 11) g (σ 0 6)).1 ∧ τ = σ) 7 [some (.inr 0), some (.inl g), some (.inl a), some (.inl l), some (.inl i)] [] σ) (fun i hi ih h0 a l hinv => ?_) (0) (by omega) (by omega) 0 (-1) ⟨rfl, by omega⟩
  refine w_iload dX0_shelvesOf_7 rfl ?_
  refine w_aload_n dX0_shelvesOf_9 rfl ?_
  refine gf_X0_30 rfl dX0_shelvesOf_10 ?_
  refine w_icmp_ge (tgt := 55) dX0_shelvesOf_13 (by decide) (by omega) (by omega) (fun c_13 => ?_) (fun c_13 => ?_)
  · refine w_iload_n dX0_shelvesOf_55 rfl ?_
    refine w_iret dX0_shelvesOf_56 rfl ?_
    exact ⟨by rw [← show i = σ 0 6 by omega, ← hinv.1], rfl⟩
  · refine w_aload_n dX0_shelvesOf_16 rfl ?_
    refine gf_X0_9 rfl dX0_shelvesOf_17 ?_
    refine w_iload dX0_shelvesOf_20 rfl ?_
    refine w_iald rfl (by omega) dX0_shelvesOf_22 ?_
    refine w_iload_n dX0_shelvesOf_23 rfl ?_
    refine w_icmp_ne (tgt := 49) dX0_shelvesOf_24 (by decide) (hR _ _) hg (fun c_24 => ?_) (fun c_24 => ?_)
    · refine w_iinc dX0_shelvesOf_49 (Nat.le_of_ble_eq_true rfl) rfl ?_
      refine w_goto (tgt := 7) dX0_shelvesOf_52 (by decide) ?_
      exact ih (by omega) (by omega) _ _ ⟨by unfold shlF; rw [foI_s _ _ h0]; have hinv := hinv.1; unfold shlF at hinv; rw [← hinv]; simp [*], by first | exact hinv.2 | exact hR _ _⟩
    · refine w_aload_n dX0_shelvesOf_27 rfl ?_
      refine gf_X0_21 rfl dX0_shelvesOf_28 ?_
      refine w_iload dX0_shelvesOf_31 rfl ?_
      refine w_iald rfl (by omega) dX0_shelvesOf_33 ?_
      refine w_iload_n dX0_shelvesOf_34 rfl ?_
      refine w_icmp_eq (tgt := 49) dX0_shelvesOf_35 (by decide) (hR _ _) hinv.2 (fun c_35 => ?_) (fun c_35 => ?_)
      · refine w_iinc dX0_shelvesOf_49 (Nat.le_of_ble_eq_true rfl) rfl ?_
        refine w_goto (tgt := 7) dX0_shelvesOf_52 (by decide) ?_
        exact ih (by omega) (by omega) _ _ ⟨by unfold shlF; rw [foI_s _ _ h0]; have hinv := hinv.1; unfold shlF at hinv; rw [← hinv]; simp [*], by first | exact hinv.2 | exact hR _ _⟩
      · refine w_aload_n dX0_shelvesOf_38 rfl ?_
        refine gf_X0_21 rfl dX0_shelvesOf_39 ?_
        refine w_iload dX0_shelvesOf_42 rfl ?_
        refine w_iald rfl (by omega) dX0_shelvesOf_44 ?_
        refine w_istore_n dX0_shelvesOf_45 (Nat.le_of_ble_eq_true rfl) ?_
        refine w_iinc dX0_shelvesOf_46 (Nat.le_of_ble_eq_true rfl) rfl ?_
        refine w_iinc dX0_shelvesOf_49 (Nat.le_of_ble_eq_true rfl) rfl ?_
        refine w_goto (tgt := 7) dX0_shelvesOf_52 (by decide) ?_
        exact ih (by omega) (by omega) _ _ ⟨by unfold shlF; rw [foI_s _ _ h0]; have hinv := hinv.1; unfold shlF at hinv; rw [← hinv]; simp [*], by first | exact hinv.2 | exact hR _ _⟩

set_option maxRecDepth 100000 in
set_option maxHeartbeats 4000000 in
theorem ct_X0_widthsAheadOf (σ : St) (b : Int) (hb : 0 ≤ b ∧ b < 60) : Wp mX0_widthsAheadOf 0 (fun z τ => z = sumW (σ 11) (σ 9) (σ 11 b) b ∧ τ = σ) 0 [some (.inr 0), some (.inl b), none, none] [] σ := by
  refine Wp.rg (fun hR => ?_)
  refine w_iconst dX0_widthsAheadOf_0 ?_
  refine w_istore_n dX0_widthsAheadOf_1 (Nat.le_of_ble_eq_true rfl) ?_
  refine w_iconst dX0_widthsAheadOf_2 ?_
  refine w_istore_n dX0_widthsAheadOf_3 (Nat.le_of_ble_eq_true rfl) ?_
  refine up_to (b) (fun i => 0 ≤ i → ∀ a, a = sumW (σ 11) (σ 9) (σ 11 b) i → Wp mX0_widthsAheadOf 0 (fun z τ => z = sumW (σ 11) (σ 9) (σ 11 b) b ∧ τ = σ) 4 [some (.inr 0), some (.inl b), some (.inl a), some (.inl i)] [] σ) (fun i hi ih h0 a hinv => ?_) (0) (by omega) (by omega) 0 rfl
  refine w_iload_n dX0_widthsAheadOf_4 rfl ?_
  refine w_iload_n dX0_widthsAheadOf_5 rfl ?_
  refine w_icmp_ge (tgt := 39) dX0_widthsAheadOf_6 (by decide) (by omega) (by omega) (fun c_6 => ?_) (fun c_6 => ?_)
  · refine w_iload_n dX0_widthsAheadOf_39 rfl ?_
    refine w_iret dX0_widthsAheadOf_40 rfl ?_
    exact ⟨by rw [hinv, show i = b by omega], rfl⟩
  · refine w_aload_n dX0_widthsAheadOf_9 rfl ?_
    refine gf_X0_21 rfl dX0_widthsAheadOf_10 ?_
    refine w_iload_n dX0_widthsAheadOf_13 rfl ?_
    refine w_iald rfl (by omega) dX0_widthsAheadOf_14 ?_
    refine w_aload_n dX0_widthsAheadOf_15 rfl ?_
    refine gf_X0_21 rfl dX0_widthsAheadOf_16 ?_
    refine w_iload_n dX0_widthsAheadOf_19 rfl ?_
    refine w_iald rfl (by omega) dX0_widthsAheadOf_20 ?_
    refine w_icmp_ne (tgt := 33) dX0_widthsAheadOf_21 (by decide) (hR _ _) (hR _ _) (fun c_21 => ?_) (fun c_21 => ?_)
    · refine w_iinc dX0_widthsAheadOf_33 (Nat.le_of_ble_eq_true rfl) rfl ?_
      refine w_goto (tgt := 4) dX0_widthsAheadOf_36 (by decide) ?_
      exact ih (by omega) (by omega) _ (by unfold sumW; rw [foI_s _ _ h0]; unfold sumW at hinv; rw [← hinv]; simp [c_21])
    · refine w_iload_n dX0_widthsAheadOf_24 rfl ?_
      refine w_aload_n dX0_widthsAheadOf_25 rfl ?_
      refine gf_X0_15 rfl dX0_widthsAheadOf_26 ?_
      refine w_iload_n dX0_widthsAheadOf_29 rfl ?_
      refine w_iald rfl (by omega) dX0_widthsAheadOf_30 ?_
      refine w_iadd dX0_widthsAheadOf_31 ?_
      refine w_istore_n dX0_widthsAheadOf_32 (Nat.le_of_ble_eq_true rfl) ?_
      refine w_iinc dX0_widthsAheadOf_33 (Nat.le_of_ble_eq_true rfl) rfl ?_
      refine w_goto (tgt := 4) dX0_widthsAheadOf_36 (by decide) ?_
      exact ih (by omega) (by omega) _ (by unfold sumW; rw [foI_s _ _ h0]; unfold sumW at hinv; rw [← hinv]; simp [c_21])

set_option maxRecDepth 100000 in
set_option maxHeartbeats 4000000 in
theorem ct_X0_loadOn (σ : St) (v : Int) (hb : 0 ≤ σ 0 6 ∧ σ 0 6 ≤ 60) (hv : InR v) : Wp mX0_loadOn 1 (fun z τ => z = sumW (σ 11) (σ 9) v (σ 0 6) ∧ τ = σ) 0 [some (.inr 0), some (.inl v)] [] σ := by
  refine Wp.rg (fun hR => ?_)
  refine w_aload_n dX0_loadOn_0 rfl ?_
  refine w_aload_n dX0_loadOn_1 rfl ?_
  refine gf_X0_21 rfl dX0_loadOn_2 ?_
  refine w_iload_n dX0_loadOn_5 rfl ?_
  refine w_aload_n dX0_loadOn_6 rfl ?_
  refine gf_X0_15 rfl dX0_loadOn_7 ?_
  refine cv_X0_57 rfl dX0_loadOn_10 (Nat.le_of_ble_eq_true rfl) (Nat.le_of_ble_eq_true rfl) (Wp.mono (ct_X0_sumWith σ _ _ v hb rfl rfl hv) (fun z_ τ_ hq_ => ?_))
  obtain ⟨hz_, hs_⟩ := hq_
  subst z_
  subst τ_
  refine w_iret dX0_loadOn_13 rfl ?_
  exact ⟨rfl, rfl⟩

set_option maxRecDepth 100000 in
set_option maxHeartbeats 4000000 in
theorem ct_X0_rateOn (σ : St) (v : Int) (hb : 0 ≤ σ 0 6 ∧ σ 0 6 ≤ 60) (hv : InR v) : Wp mX0_rateOn 1 (fun z τ => z = sumW (σ 11) (σ 10) v (σ 0 6) ∧ τ = σ) 0 [some (.inr 0), some (.inl v)] [] σ := by
  refine Wp.rg (fun hR => ?_)
  refine w_aload_n dX0_rateOn_0 rfl ?_
  refine w_aload_n dX0_rateOn_1 rfl ?_
  refine gf_X0_21 rfl dX0_rateOn_2 ?_
  refine w_iload_n dX0_rateOn_5 rfl ?_
  refine w_aload_n dX0_rateOn_6 rfl ?_
  refine gf_X0_18 rfl dX0_rateOn_7 ?_
  refine cv_X0_57 rfl dX0_rateOn_10 (Nat.le_of_ble_eq_true rfl) (Nat.le_of_ble_eq_true rfl) (Wp.mono (ct_X0_sumWith σ _ _ v hb rfl rfl hv) (fun z_ τ_ hq_ => ?_))
  obtain ⟨hz_, hs_⟩ := hq_
  subst z_
  subst τ_
  refine w_iret dX0_rateOn_13 rfl ?_
  exact ⟨rfl, rfl⟩

set_option maxRecDepth 100000 in
set_option maxHeartbeats 4000000 in
theorem ct_X0_widthsIn (σ : St) (v : Int) (hb : 0 ≤ σ 0 6 ∧ σ 0 6 ≤ 60) (hv : InR v) : Wp mX0_widthsIn 1 (fun z τ => z = sumW (σ 8) (σ 9) v (σ 0 6) ∧ τ = σ) 0 [some (.inr 0), some (.inl v)] [] σ := by
  refine Wp.rg (fun hR => ?_)
  refine w_aload_n dX0_widthsIn_0 rfl ?_
  refine w_aload_n dX0_widthsIn_1 rfl ?_
  refine gf_X0_9 rfl dX0_widthsIn_2 ?_
  refine w_iload_n dX0_widthsIn_5 rfl ?_
  refine w_aload_n dX0_widthsIn_6 rfl ?_
  refine gf_X0_15 rfl dX0_widthsIn_7 ?_
  refine cv_X0_57 rfl dX0_widthsIn_10 (Nat.le_of_ble_eq_true rfl) (Nat.le_of_ble_eq_true rfl) (Wp.mono (ct_X0_sumWith σ _ _ v hb rfl rfl hv) (fun z_ τ_ hq_ => ?_))
  obtain ⟨hz_, hs_⟩ := hq_
  subst z_
  subst τ_
  refine w_iret dX0_widthsIn_13 rfl ?_
  exact ⟨rfl, rfl⟩

set_option maxRecDepth 100000 in
set_option maxHeartbeats 4000000 in
theorem ct_X0_firstOn (σ : St) (v : Int) (hb : 0 ≤ σ 0 6 ∧ σ 0 6 ≤ 60) (hv : InR v) : Wp mX0_firstOn 1 (fun z τ => IsFst (σ 11) v (σ 0 6) z ∧ τ = σ) 0 [some (.inr 0), some (.inl v)] [] σ := by
  refine Wp.rg (fun hR => ?_)
  refine w_aload_n dX0_firstOn_0 rfl ?_
  refine w_aload_n dX0_firstOn_1 rfl ?_
  refine gf_X0_21 rfl dX0_firstOn_2 ?_
  refine w_iload_n dX0_firstOn_5 rfl ?_
  refine cv_X0_61 rfl dX0_firstOn_6 (Nat.le_of_ble_eq_true rfl) (Nat.le_of_ble_eq_true rfl) (Wp.mono (ct_X0_firstWith σ _ v hb rfl hv) (fun z_ τ_ hq_ => ?_))
  obtain ⟨hq1, hs_⟩ := hq_
  subst τ_
  refine w_iret dX0_firstOn_9 rfl ?_
  exact ⟨hq1, rfl⟩

set_option maxRecDepth 100000 in
set_option maxHeartbeats 4000000 in
theorem ct_X0_firstIn (σ : St) (v : Int) (hb : 0 ≤ σ 0 6 ∧ σ 0 6 ≤ 60) (hv : InR v) : Wp mX0_firstIn 1 (fun z τ => IsFst (σ 8) v (σ 0 6) z ∧ τ = σ) 0 [some (.inr 0), some (.inl v)] [] σ := by
  refine Wp.rg (fun hR => ?_)
  refine w_aload_n dX0_firstIn_0 rfl ?_
  refine w_aload_n dX0_firstIn_1 rfl ?_
  refine gf_X0_9 rfl dX0_firstIn_2 ?_
  refine w_iload_n dX0_firstIn_5 rfl ?_
  refine cv_X0_61 rfl dX0_firstIn_6 (Nat.le_of_ble_eq_true rfl) (Nat.le_of_ble_eq_true rfl) (Wp.mono (ct_X0_firstWith σ _ v hb rfl hv) (fun z_ τ_ hq_ => ?_))
  obtain ⟨hq1, hs_⟩ := hq_
  subst τ_
  refine w_iret dX0_firstIn_9 rfl ?_
  exact ⟨hq1, rfl⟩

set_option maxRecDepth 100000 in
set_option maxHeartbeats 4000000 in
theorem ct_X0_countOn (σ : St) (v : Int) (hb : 0 ≤ σ 0 6 ∧ σ 0 6 ≤ 60) (hv : InR v) : Wp mX0_countOn 1 (fun z τ => z = cntW (σ 11) v (σ 0 6) ∧ τ = σ) 0 [some (.inr 0), some (.inl v)] [] σ := by
  refine Wp.rg (fun hR => ?_)
  refine w_aload_n dX0_countOn_0 rfl ?_
  refine w_aload_n dX0_countOn_1 rfl ?_
  refine gf_X0_21 rfl dX0_countOn_2 ?_
  refine w_iload_n dX0_countOn_5 rfl ?_
  refine cv_X0_65 rfl dX0_countOn_6 (Nat.le_of_ble_eq_true rfl) (Nat.le_of_ble_eq_true rfl) (Wp.mono (ct_X0_countWith σ _ v hb rfl hv) (fun z_ τ_ hq_ => ?_))
  obtain ⟨hz_, hs_⟩ := hq_
  subst z_
  subst τ_
  refine w_iret dX0_countOn_9 rfl ?_
  exact ⟨rfl, rfl⟩

set_option maxRecDepth 100000 in
set_option maxHeartbeats 4000000 in
theorem ct_X0_countIn (σ : St) (v : Int) (hb : 0 ≤ σ 0 6 ∧ σ 0 6 ≤ 60) (hv : InR v) : Wp mX0_countIn 1 (fun z τ => z = cntW (σ 8) v (σ 0 6) ∧ τ = σ) 0 [some (.inr 0), some (.inl v)] [] σ := by
  refine Wp.rg (fun hR => ?_)
  refine w_aload_n dX0_countIn_0 rfl ?_
  refine w_aload_n dX0_countIn_1 rfl ?_
  refine gf_X0_9 rfl dX0_countIn_2 ?_
  refine w_iload_n dX0_countIn_5 rfl ?_
  refine cv_X0_65 rfl dX0_countIn_6 (Nat.le_of_ble_eq_true rfl) (Nat.le_of_ble_eq_true rfl) (Wp.mono (ct_X0_countWith σ _ v hb rfl hv) (fun z_ τ_ hq_ => ?_))
  obtain ⟨hz_, hs_⟩ := hq_
  subst z_
  subst τ_
  refine w_iret dX0_countIn_9 rfl ?_
  exact ⟨rfl, rfl⟩

set_option maxRecDepth 100000 in
set_option maxHeartbeats 4000000 in
theorem ct_X0_carry (σ : St) (b s : Int) (hb : 0 ≤ b ∧ b < 60) (hs : InR s) : Wp mX0_carry 0 (fun z τ => τ = put (put (put σ 11 b s) 12 b (wr (σ 12 b + 1))) 0 7 (wr (σ 0 7 + 1))) 0 [some (.inr 0), some (.inl b), some (.inl s)] [] σ := by
  refine Wp.rg (fun hR => ?_)
  refine w_aload_n dX0_carry_0 rfl ?_
  refine gf_X0_21 rfl dX0_carry_1 ?_
  refine w_iload_n dX0_carry_4 rfl ?_
  refine w_iload_n dX0_carry_5 rfl ?_
  refine w_iast rfl (by omega) hs dX0_carry_6 ?_
  refine w_aload_n dX0_carry_7 rfl ?_
  refine gf_X0_24 rfl dX0_carry_8 ?_
  refine w_iload_n dX0_carry_11 rfl ?_
  refine w_dup2 dX0_carry_12 ?_
  refine w_iald rfl (by omega) dX0_carry_13 ?_
  refine w_iconst dX0_carry_14 ?_
  refine w_iadd dX0_carry_15 ?_
  refine Wp.wrap ?_
  refine w_iast rfl (by omega) (wr_in _) dX0_carry_16 ?_
  refine w_aload_n dX0_carry_17 rfl ?_
  refine w_dup dX0_carry_18 ?_
  refine gf_X0_47 rfl dX0_carry_19 ?_
  refine w_iconst dX0_carry_22 ?_
  refine w_iadd dX0_carry_23 ?_
  refine Wp.wrap ?_
  refine pf_X0_47 rfl (wr_in _) dX0_carry_24 ?_
  refine w_ret dX0_carry_27 rfl ?_
  simp only [put_eq]; rfl

set_option maxRecDepth 100000 in
set_option maxHeartbeats 4000000 in
theorem ct_X2_add (σ : St) (g : Int) (hb : 0 ≤ σ 2 1 ∧ σ 2 1 < 8) (hg : InR g) : Wp mX2_add 0 (fun z τ => z = σ 2 1 ∧ τ = put (put σ 48 (σ 2 1) g) 2 1 (σ 2 1 + 1)) 0 [some (.inr 2), some (.inl g), none] [] σ := by
  refine Wp.rg (fun hR => ?_)
  refine w_aload_n dX2_add_0 rfl ?_
  refine gf_X2_15 rfl dX2_add_1 ?_
  refine w_istore_n dX2_add_4 (Nat.le_of_ble_eq_true rfl) ?_
  refine w_aload_n dX2_add_5 rfl ?_
  refine gf_X2_9 rfl dX2_add_6 ?_
  refine w_iload_n dX2_add_9 rfl ?_
  refine w_iload_n dX2_add_10 rfl ?_
  refine w_iast rfl (by omega) hg dX2_add_11 ?_
  refine w_aload_n dX2_add_12 rfl ?_
  refine w_dup dX2_add_13 ?_
  refine gf_X2_15 rfl dX2_add_14 ?_
  refine w_iconst dX2_add_17 ?_
  refine w_iadd dX2_add_18 ?_
  refine pf_X2_15 rfl (by simp only [put_eq]; simp; omega) dX2_add_19 ?_
  refine w_iload_n dX2_add_22 rfl ?_
  refine w_iret dX2_add_23 rfl ?_
  exact ⟨rfl, by simp [put_eq]⟩

set_option maxRecDepth 100000 in
set_option maxHeartbeats 4000000 in
theorem ct_X5_add (σ : St) (l k : Int) (hb : 0 ≤ σ 5 2 ∧ σ 5 2 < 12) (hl : InR l) (hk : InR k) : Wp mX5_add 0 (fun z τ => z = σ 5 2 ∧ τ = put (put (put σ 55 (σ 5 2) l) 56 (σ 5 2) k) 5 2 (σ 5 2 + 1)) 0 [some (.inr 5), some (.inl l), some (.inl k), none] [] σ := by
  refine Wp.rg (fun hR => ?_)
  refine w_aload_n dX5_add_0 rfl ?_
  refine gf_X5_18 rfl dX5_add_1 ?_
  refine w_istore_n dX5_add_4 (Nat.le_of_ble_eq_true rfl) ?_
  refine w_aload_n dX5_add_5 rfl ?_
  refine gf_X5_9 rfl dX5_add_6 ?_
  refine w_iload_n dX5_add_9 rfl ?_
  refine w_iload_n dX5_add_10 rfl ?_
  refine w_iast rfl (by omega) hl dX5_add_11 ?_
  refine w_aload_n dX5_add_12 rfl ?_
  refine gf_X5_15 rfl dX5_add_13 ?_
  refine w_iload_n dX5_add_16 rfl ?_
  refine w_iload_n dX5_add_17 rfl ?_
  refine w_iast rfl (by omega) hk dX5_add_18 ?_
  refine w_aload_n dX5_add_19 rfl ?_
  refine w_dup dX5_add_20 ?_
  refine gf_X5_18 rfl dX5_add_21 ?_
  refine w_iconst dX5_add_24 ?_
  refine w_iadd dX5_add_25 ?_
  refine pf_X5_18 rfl (by simp only [put_eq]; simp; omega) dX5_add_26 ?_
  refine w_iload_n dX5_add_29 rfl ?_
  refine w_iret dX5_add_30 rfl ?_
  exact ⟨rfl, by simp [put_eq]⟩

set_option maxRecDepth 100000 in
set_option maxHeartbeats 4000000 in
theorem ct_X5_openLengths (σ : St) (hb : 0 ≤ σ 5 2 ∧ σ 5 2 ≤ 12) : Wp mX5_openLengths 0 (fun z τ => z = sumW (σ 56) (σ 55) 0 (σ 5 2) ∧ τ = σ) 0 [some (.inr 5), none, none] [] σ := by
  refine Wp.rg (fun hR => ?_)
  refine w_iconst dX5_openLengths_0 ?_
  refine w_istore_n dX5_openLengths_1 (Nat.le_of_ble_eq_true rfl) ?_
  refine w_iconst dX5_openLengths_2 ?_
  refine w_istore_n dX5_openLengths_3 (Nat.le_of_ble_eq_true rfl) ?_
  refine up_to (σ 5 2) (fun i => 0 ≤ i → ∀ a, a = sumW (σ 56) (σ 55) 0 i → Wp mX5_openLengths 0 (fun z τ => z = sumW (σ 56) (σ 55) 0 (σ 5 2) ∧ τ = σ) 4 [some (.inr 5), some (.inl a), some (.inl i)] [] σ) (fun i hi ih h0 a hinv => ?_) (0) (by omega) (by omega) 0 rfl
  refine w_iload_n dX5_openLengths_4 rfl ?_
  refine w_aload_n dX5_openLengths_5 rfl ?_
  refine gf_X5_18 rfl dX5_openLengths_6 ?_
  refine w_icmp_ge (tgt := 36) dX5_openLengths_9 (by decide) (by omega) (by omega) (fun c_9 => ?_) (fun c_9 => ?_)
  · refine w_iload_n dX5_openLengths_36 rfl ?_
    refine w_iret dX5_openLengths_37 rfl ?_
    exact ⟨by rw [hinv, show i = σ 5 2 by omega], rfl⟩
  · refine w_aload_n dX5_openLengths_12 rfl ?_
    refine gf_X5_15 rfl dX5_openLengths_13 ?_
    refine w_iload_n dX5_openLengths_16 rfl ?_
    refine w_iald rfl (by omega) dX5_openLengths_17 ?_
    refine w_if_ne (tgt := 30) dX5_openLengths_18 (by decide) (hR _ _) (fun c_18 => ?_) (fun c_18 => ?_)
    · refine w_iinc dX5_openLengths_30 (Nat.le_of_ble_eq_true rfl) rfl ?_
      refine w_goto (tgt := 4) dX5_openLengths_33 (by decide) ?_
      exact ih (by omega) (by omega) _ (by unfold sumW; rw [foI_s _ _ h0]; unfold sumW at hinv; rw [← hinv]; simp [c_18])
    · refine w_iload_n dX5_openLengths_21 rfl ?_
      refine w_aload_n dX5_openLengths_22 rfl ?_
      refine gf_X5_9 rfl dX5_openLengths_23 ?_
      refine w_iload_n dX5_openLengths_26 rfl ?_
      refine w_iald rfl (by omega) dX5_openLengths_27 ?_
      refine w_iadd dX5_openLengths_28 ?_
      refine w_istore_n dX5_openLengths_29 (Nat.le_of_ble_eq_true rfl) ?_
      refine w_iinc dX5_openLengths_30 (Nat.le_of_ble_eq_true rfl) rfl ?_
      refine w_goto (tgt := 4) dX5_openLengths_33 (by decide) ?_
      exact ih (by omega) (by omega) _ (by unfold sumW; rw [foI_s _ _ h0]; unfold sumW at hinv; rw [← hinv]; simp [c_18])

