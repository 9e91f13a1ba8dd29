abbrev En5 : Type := Int × Int × Int × Int × Int
def RepC (σ : St) (es : List En5) : Prop := (0 ≤ σ 3 1 ∧ σ 3 1 < 40) ∧ (σ 3 2 = if (es.length : Int) ≤ 40 then (es.length : Int) else 40) ∧ ∀ (k : Nat) (e : En5), k < 40 → es.reverse[k]? = some e → σ 49 ((σ 3 1 + 39 - k) % 40 * 5) = e.1 ∧ σ 49 ((σ 3 1 + 39 - k) % 40 * 5 + 1) = e.2.1 ∧ σ 49 ((σ 3 1 + 39 - k) % 40 * 5 + 2) = e.2.2.1 ∧ σ 49 ((σ 3 1 + 39 - k) % 40 * 5 + 3) = e.2.2.2.1 ∧ σ 49 ((σ 3 1 + 39 - k) % 40 * 5 + 4) = e.2.2.2.2
theorem RepC.cnt {σ : St} {es : List En5} (h : RepC σ es) : 0 ≤ σ 3 2 ∧ σ 3 2 ≤ 40 := by
  rw [h.2.1]
  split <;> omega
theorem RepC.keep {σ τ : St} {es : List En5} (h : RepC σ es) (e3 : τ 3 = σ 3) (e49 : τ 49 = σ 49) : RepC τ es := by
  unfold RepC
  rw [e3, e49]
  exact h
theorem RepC.app {σ τ : St} {es : List En5} (h : RepC σ es) (e : En5) (h1 : τ 3 1 = (σ 3 1 + 1) % 40) (h2 : τ 3 2 = if 40 < σ 3 2 + 1 then 40 else σ 3 2 + 1) (h3 : τ 49 = upF (upF (upF (upF (upF (σ 49) (σ 3 1 * 5) e.1) (σ 3 1 * 5 + 1) e.2.1) (σ 3 1 * 5 + 2) e.2.2.1) (σ 3 1 * 5 + 3) e.2.2.2.1) (σ 3 1 * 5 + 4) e.2.2.2.2) : RepC τ (es ++ [e]) := by
  obtain ⟨g1, g2, g3⟩ := h
  have hn := g1.1
  have hn2 := g1.2
  refine ⟨by rw [h1]; omega, ?_, ?_⟩
  · rw [h2, g2, List.length_append]
    simp only [List.length_cons, List.length_nil]
    split <;> split <;> split <;> omega
  · intro k x hk hx
    rw [List.reverse_append] at hx
    rw [h1, h3]
    cases k with
    | zero =>
      have hx2 : e = x := by simpa using hx
      subst hx2
      have p : ((σ 3 1 + 1) % 40 + 39 - ((0 : Nat) : Int)) % 40 = σ 3 1 := by omega
      rw [p]
      unfold upF
      refine ⟨?_, ?_, ?_, ?_, ?_⟩
      · rw [if_neg (by omega), if_neg (by omega), if_neg (by omega), if_neg (by omega), if_pos rfl]
      · rw [if_neg (by omega), if_neg (by omega), if_neg (by omega), if_pos rfl]
      · rw [if_neg (by omega), if_neg (by omega), if_pos rfl]
      · rw [if_neg (by omega), if_pos rfl]
      · rw [if_pos rfl]
    | succ k =>
      have hx2 : es.reverse[k]? = some x := by simpa using hx
      have p : ((σ 3 1 + 1) % 40 + 39 - ((k + 1 : Nat) : Int)) % 40 = (σ 3 1 + 39 - k) % 40 := by omega
      have q : (σ 3 1 + 39 - k) % 40 ≠ σ 3 1 := by omega
      rw [p]
      have r := g3 k x (by omega) hx2
      generalize (σ 3 1 + 39 - k) % 40 = y at q r
      unfold upF
      refine ⟨?_, ?_, ?_, ?_, ?_⟩
      · rw [if_neg (by omega), if_neg (by omega), if_neg (by omega), if_neg (by omega), if_neg (by omega)]; exact r.1
      · rw [if_neg (by omega), if_neg (by omega), if_neg (by omega), if_neg (by omega), if_neg (by omega)]; exact r.2.1
      · rw [if_neg (by omega), if_neg (by omega), if_neg (by omega), if_neg (by omega), if_neg (by omega)]; exact r.2.2.1
      · rw [if_neg (by omega), if_neg (by omega), if_neg (by omega), if_neg (by omega), if_neg (by omega)]; exact r.2.2.2.1
      · rw [if_neg (by omega), if_neg (by omega), if_neg (by omega), if_neg (by omega), if_neg (by omega)]; exact r.2.2.2.2
/-- what the log answers -/
def en5 (e : En5) (w : Int) : Int := if w = 0 then e.1 else if w = 1 then e.2.1 else if w = 2 then e.2.2.1 else if w = 3 then e.2.2.2.1 else e.2.2.2.2
def logZ (es : List En5) (k w : Int) : Int := if 0 ≤ k ∧ k < 40 ∧ 0 ≤ w ∧ w < 5 then (match es.reverse[k.toNat]? with | some e => en5 e w | none => -1) else -1
theorem RepC.read {σ : St} {es : List En5} (h : RepC σ es) (k w : Int) : (if 0 ≤ k ∧ k < σ 3 2 ∧ 0 ≤ w ∧ w < 5 then σ 49 ((σ 3 1 + 40 - 1 - k) % 40 * 5 + w) else -1) = logZ es k w := by
  have hc := h.cnt
  obtain ⟨g1, g2, g3⟩ := h
  unfold logZ
  by_cases q : 0 ≤ k ∧ k < σ 3 2 ∧ 0 ≤ w ∧ w < 5
  · rw [if_pos q, if_pos (by omega)]
    have hl : k.toNat < es.reverse.length := by
      rw [List.length_reverse]
      rw [g2] at q
      split at q <;> omega
    rw [List.getElem?_eq_getElem hl]
    have r := g3 k.toNat _ (by omega) (List.getElem?_eq_getElem hl)
    rw [show ((k.toNat : Nat) : Int) = k by omega] at r
    rw [show σ 3 1 + 40 - 1 - k = σ 3 1 + 39 - k by omega]
    generalize (σ 3 1 + 39 - k) % 40 * 5 = y at r
    generalize es.reverse[k.toNat] = e at r
    unfold en5
    rcases (show w = 0 ∨ w = 1 ∨ w = 2 ∨ w = 3 ∨ w = 4 by omega) with rfl | rfl | rfl | rfl | rfl
    · simpa using r.1
    · simpa using r.2.1
    · simpa using r.2.2.1
    · simpa using r.2.2.2.1
    · simpa using r.2.2.2.2
  · rw [if_neg q]
    by_cases q2 : 0 ≤ k ∧ k < 40 ∧ 0 ≤ w ∧ w < 5
    · rw [if_pos q2]
      have hl : es.reverse.length ≤ k.toNat := by
        rw [List.length_reverse]
        rw [g2] at q
        split at q <;> omega
      rw [List.getElem?_eq_none hl]
    · rw [if_neg q2]

theorem stepOn_rel {σ τ : St} (h : τ = if σ 4 6 + 1 < σ 4 5 then put σ 4 6 (σ 4 6 + 1) else put (put (put σ 4 6 (σ 4 6 + 1)) 4 5 0) 4 6 0) : (τ 4 5 = if σ 4 6 + 1 < σ 4 5 then σ 4 5 else 0) ∧ (τ 4 6 = if σ 4 6 + 1 < σ 4 5 then σ 4 6 + 1 else 0) ∧ (∀ j, j ≠ 5 → j ≠ 6 → τ 4 j = σ 4 j) ∧ ∀ k, k ≠ 4 → τ k = σ k := by
  by_cases hc : σ 4 6 + 1 < σ 4 5
  · rw [if_pos hc] at h
    subst h
    refine ⟨by rw [if_pos hc]; simp [put_eq], by rw [if_pos hc]; simp [put_eq], fun j h5 h6 => by simp [put_eq, h5, h6], fun k hk => put_ne hk⟩
  · rw [if_neg hc] at h
    subst h
    refine ⟨by rw [if_neg hc]; simp [put_eq], by rw [if_neg hc]; simp [put_eq], fun j h5 h6 => by simp [put_eq, h5, h6], fun k hk => by rw [put_ne hk, put_ne hk, put_ne hk]⟩

set_option maxRecDepth 100000 in
set_option maxHeartbeats 4000000 in
theorem ct_X6_makeNextMove (σ : St) (hd : 0 ≤ σ 4 6 ∧ σ 4 6 < σ 4 5 ∧ σ 4 5 ≤ 60) (hb : 0 ≤ σ 51 (σ 4 6) ∧ σ 51 (σ 4 6) < 60) (hn : 0 ≤ σ 3 1 ∧ σ 3 1 < 40) (hcn : 0 ≤ σ 3 2 ∧ σ 3 2 ≤ 40) : Wp mX6_makeNextMove 2 (fun z τ => z = σ 51 (σ 4 6) ∧ (∀ es, RepC σ es → RepC τ (es ++ [(if σ 53 (σ 4 6) < σ 54 (σ 4 6) then 1 else 2, σ 51 (σ 4 6), σ 52 (σ 4 6), σ 53 (σ 4 6), σ 54 (σ 4 6))])) ∧ τ 11 = upF (σ 11) (σ 51 (σ 4 6)) (σ 54 (σ 4 6)) ∧ τ 12 = upF (σ 12) (σ 51 (σ 4 6)) (wr (σ 12 (σ 51 (σ 4 6)) + 1)) ∧ τ 0 6 = σ 0 6 ∧ τ 0 7 = wr (σ 0 7 + 1) ∧ (τ 4 5 = if σ 4 6 + 1 < σ 4 5 then σ 4 5 else 0) ∧ (τ 4 6 = if σ 4 6 + 1 < σ 4 5 then σ 4 6 + 1 else 0) ∧ τ 4 7 = σ 4 7 ∧ ∀ k, k ≠ 0 → k ≠ 3 → k ≠ 4 → k ≠ 11 → k ≠ 12 → k ≠ 49 → τ k = σ k) 0 [some (.inr 6), none, none] [] σ := by
  refine Wp.rg (fun hR => ?_)
  refine w_aload_n dX6_makeNextMove_0 rfl ?_
  refine gf_X6_40 rfl dX6_makeNextMove_1 ?_
  refine gf_X6_148 rfl dX6_makeNextMove_4 ?_
  refine w_istore_n dX6_makeNextMove_7 (Nat.le_of_ble_eq_true rfl) ?_
  refine w_aload_n dX6_makeNextMove_8 rfl ?_
  refine gf_X6_40 rfl dX6_makeNextMove_9 ?_
  refine gf_X6_248 rfl dX6_makeNextMove_12 ?_
  refine w_iload_n dX6_makeNextMove_15 rfl ?_
  refine w_iald rfl (by omega) dX6_makeNextMove_16 ?_
  refine w_istore_n dX6_makeNextMove_17 (Nat.le_of_ble_eq_true rfl) ?_
  refine w_aload_n dX6_makeNextMove_18 rfl ?_
  refine gf_X6_47 rfl dX6_makeNextMove_19 ?_
  refine w_aload_n dX6_makeNextMove_22 rfl ?_
  refine gf_X6_40 rfl dX6_makeNextMove_23 ?_
  refine w_iload_n dX6_makeNextMove_26 rfl ?_
  refine cv_X6_257 rfl dX6_makeNextMove_27 (Nat.le_of_ble_eq_true rfl) (Nat.le_of_ble_eq_true rfl) (Wp.mono (ct_X4_direction σ (σ 4 6) (by omega)) (fun z_ τ_ hq_ => ?_))
  obtain ⟨hz_, hs_⟩ := hq_
  subst z_
  subst τ_
  refine w_iload_n dX6_makeNextMove_30 rfl ?_
  refine w_aload_n dX6_makeNextMove_31 rfl ?_
  refine gf_X6_40 rfl dX6_makeNextMove_32 ?_
  refine gf_X6_279 rfl dX6_makeNextMove_35 ?_
  refine w_iload_n dX6_makeNextMove_38 rfl ?_
  refine w_iald rfl (by omega) dX6_makeNextMove_39 ?_
  refine w_aload_n dX6_makeNextMove_40 rfl ?_
  refine gf_X6_40 rfl dX6_makeNextMove_41 ?_
  refine gf_X6_251 rfl dX6_makeNextMove_44 ?_
  refine w_iload_n dX6_makeNextMove_47 rfl ?_
  refine w_iald rfl (by omega) dX6_makeNextMove_48 ?_
  refine w_aload_n dX6_makeNextMove_49 rfl ?_
  refine gf_X6_40 rfl dX6_makeNextMove_50 ?_
  refine gf_X6_254 rfl dX6_makeNextMove_53 ?_
  refine w_iload_n dX6_makeNextMove_56 rfl ?_
  refine w_iald rfl (by omega) dX6_makeNextMove_57 ?_
  refine cv_X6_119 rfl dX6_makeNextMove_58 (Nat.le_of_ble_eq_true rfl) (Nat.le_of_ble_eq_true rfl) (Wp.mono (ct_X3_write σ _ _ _ _ _ hn hcn (by split <;> omega) (hR _ _) (hR _ _) (hR _ _) (hR _ _)) (fun z_ τ_ hq_ => ?_))
  subst τ_
  refine w_aload_n dX6_makeNextMove_61 rfl ?_
  refine gf_X6_26 rfl dX6_makeNextMove_62 ?_
  refine w_iload_n dX6_makeNextMove_65 rfl ?_
  refine w_aload_n dX6_makeNextMove_66 rfl ?_
  refine gf_X6_40 rfl dX6_makeNextMove_67 ?_
  refine gf_X6_254 rfl dX6_makeNextMove_70 ?_
  refine w_iload_n dX6_makeNextMove_73 rfl ?_
  refine w_iald rfl (by omega) dX6_makeNextMove_74 ?_
  refine cv_X6_280 rfl dX6_makeNextMove_75 (Nat.le_of_ble_eq_true rfl) (Nat.le_of_ble_eq_true rfl) (Wp.mono (ct_X0_carry _ _ _ (by simpa [put_eq] using hb) (by simp only [put_eq]; simp; exact hR _ _)) (fun z_ τ_ hq_ => ?_))
  subst τ_
  refine w_aload_n dX6_makeNextMove_78 rfl ?_
  refine gf_X6_40 rfl dX6_makeNextMove_79 ?_
  refine cv_X6_283 rfl dX6_makeNextMove_82 (Nat.le_of_ble_eq_true rfl) (Nat.le_of_ble_eq_true rfl) (Wp.mono (ct_X4_stepOn _ (by simp only [put_eq]; simp; omega)) (fun z_ τ_ hq_ => ?_))
  obtain ⟨g5, g6, g7, gk⟩ := stepOn_rel hq_
  refine w_iload_n dX6_makeNextMove_85 rfl ?_
  refine w_iret dX6_makeNextMove_86 rfl ?_
  refine ⟨rfl, fun es he => he.app _ ?_ ?_ ?_, ?_, ?_, ?_, ?_, ?_, ?_, ?_, fun k k0 k3 k4 k11 k12 k49 => ?_⟩
  · rw [gk 3 (by decide)]; simp [put_eq]
  · rw [gk 3 (by decide)]; simp [put_eq]
  · rw [gk 49 (by decide)]; funext b; simp only [put_eq, upF]; simp
  · rw [gk 11 (by decide)]; funext b; simp only [put_eq, upF]; simp
  · rw [gk 12 (by decide)]; funext b; simp only [put_eq, upF]; simp
  · rw [gk 0 (by decide)]; simp [put_eq]
  · rw [gk 0 (by decide)]; simp [put_eq]
  · rw [g5]; simp [put_eq]
  · rw [g6]; simp [put_eq]
  · rw [g7 7 (by decide) (by decide)]; simp [put_eq]
  · rw [gk k k4]; funext b; simp [put_eq, k0, k3, k4, k11, k12, k49]

/-! the moves of a plan, as a list of books -/
def rts (go sh : Int → Int) : Nat → List Int
  | 0 => []
  | m + 1 => if sh (m : Int) < go (m : Int) then (m : Int) :: rts go sh m else rts go sh m
def lfs (go sh : Int → Int) : Nat → List Int
  | 0 => []
  | m + 1 => if go (m : Int) < sh (m : Int) then lfs go sh m ++ [(m : Int)] else lfs go sh m
def mvL (go sh : Int → Int) (n : Int) : List Int := rts go sh n.toNat ++ lfs go sh n.toNat
theorem mv_len (go sh : Int → Int) : ∀ m : Nat, (rts go sh m).length + (lfs go sh m).length ≤ m := by
  intro m
  induction m with
  | zero => exact Nat.le_refl 0
  | succ m ih =>
    rw [show rts go sh (m + 1) = (if sh (m : Int) < go (m : Int) then (m : Int) :: rts go sh m else rts go sh m) from rfl, show lfs go sh (m + 1) = (if go (m : Int) < sh (m : Int) then lfs go sh m ++ [(m : Int)] else lfs go sh m) from rfl]
    split <;> split <;> (try simp only [List.length_cons, List.length_append, List.length_nil]) <;> omega
theorem lfs_len (go sh : Int → Int) : ∀ (k m : Nat), (lfs go sh m).length ≤ (lfs go sh (m + k)).length := by
  intro k m
  induction k with
  | zero => exact Nat.le_refl _
  | succ k ih =>
    rw [show m + (k + 1) = (m + k) + 1 by omega, show lfs go sh ((m + k) + 1) = (if go ((m + k : Nat) : Int) < sh ((m + k : Nat) : Int) then lfs go sh (m + k) ++ [((m + k : Nat) : Int)] else lfs go sh (m + k)) from rfl]
    split
    · rw [List.length_append]; omega
    · exact ih
def PlC (τ : St) (wid shf go : Int → Int) (l : List Int) : Prop := τ 4 5 = (l.length : Int) ∧ ∀ (k : Nat) (b : Int), l[k]? = some b → τ 51 k = b ∧ τ 52 k = wid b ∧ τ 53 k = shf b ∧ τ 54 k = go b
def addP (τ : St) (b : Int) : St := put (put (put (put (put τ 51 (τ 4 5) b) 52 (τ 4 5) (τ 9 b)) 53 (τ 4 5) (τ 11 b)) 54 (τ 4 5) (τ 50 b)) 4 5 (τ 4 5 + 1)
theorem PlC.add {τ : St} {wid shf go : Int → Int} {l : List Int} {b : Int} (h : PlC τ wid shf go l) (h1 : τ 9 b = wid b) (h2 : τ 11 b = shf b) (h3 : τ 50 b = go b) : PlC (addP τ b) wid shf go (l ++ [b]) := by
  obtain ⟨g1, g2⟩ := h
  refine ⟨?_, fun k x hx => ?_⟩
  · simp [addP, put_eq, g1]
  · by_cases hk : k < l.length
    · rw [List.getElem?_append_left hk] at hx
      have r := g2 k x hx
      have ne : (k : Int) ≠ τ 4 5 := by rw [g1]; omega
      simp only [addP, put_eq]
      simp [ne]
      exact r
    · have hx2 : b = x ∧ k = l.length := by
        rw [List.getElem?_append_right (by omega)] at hx
        have hk2 : k - l.length = 0 := by
          have := (List.getElem?_eq_some_iff.mp hx).1
          simp at this
          omega
        rw [hk2] at hx
        exact ⟨by simpa using hx, by omega⟩
      obtain ⟨rfl, rfl⟩ := hx2
      have e : ((l.length : Nat) : Int) = τ 4 5 := g1.symm
      rw [e]
      simp only [addP, put_eq]
      simp
      exact ⟨h1, h2, h3⟩
theorem addP_fr (τ : St) (b : Int) : addP τ b 4 6 = τ 4 6 ∧ addP τ b 4 7 = τ 4 7 ∧ ∀ k, k ≠ 4 → k ≠ 51 → k ≠ 52 → k ≠ 53 → k ≠ 54 → addP τ b k = τ k := by
  refine ⟨by simp [addP, put_eq], by simp [addP, put_eq], fun k k1 k2 k3 k4 k5 => ?_⟩
  unfold addP
  rw [put_ne k1, put_ne k5, put_ne k4, put_ne k3, put_ne k2]

set_option maxRecDepth 100000 in
set_option maxHeartbeats 4000000 in
theorem ct_X4_make (σ : St) (y : Int) (hb : 0 ≤ σ 0 6 ∧ σ 0 6 ≤ 60) (hy : InR y) : Wp mX4_make 1 (fun z τ => PlC τ (σ 9) (σ 11) (σ 14) (mvL (σ 14) (σ 11) (σ 0 6)) ∧ τ 4 6 = 0 ∧ τ 4 7 = y ∧ (∀ b, 0 ≤ b → b < σ 0 6 → τ 50 b = σ 14 b) ∧ ∀ k, k ≠ 4 → k ≠ 50 → k ≠ 51 → k ≠ 52 → k ≠ 53 → k ≠ 54 → τ k = σ k) 0 [some (.inr 4), some (.inr 0), some (.inr 14), some (.inl y), none] [] σ := by
  refine Wp.rg (fun hR => ?_)
  refine w_aload_n dX4_make_0 rfl ?_
  refine cv_X4_34 rfl dX4_make_1 (Nat.le_of_ble_eq_true rfl) (Nat.le_of_ble_eq_true rfl) (Wp.mono (ct_X4_end σ) (fun z_ τ_ hq_ => ?_))
  subst τ_
  refine w_aload_n dX4_make_4 rfl ?_
  refine w_iload_n dX4_make_5 rfl ?_
  refine pf_X4_37 rfl hy dX4_make_6 ?_
  refine w_aload_n dX4_make_9 rfl ?_
  refine w_iconst dX4_make_10 ?_
  refine w_aload_n dX4_make_11 rfl ?_
  refine gf_X4_9 rfl dX4_make_12 ?_
  refine w_iconst dX4_make_15 ?_
  refine w_aload_n dX4_make_16 rfl ?_
  refine gf_X4_40 rfl dX4_make_17 ?_
  refine w_copy dX4_make_20 tw_395 tw_363 tw_362 tw_68 (Nat.le_of_ble_eq_true rfl) rfl rfl (by omega) (by omega) (by simp only [put_eq]; simp; omega) (by simp only [put_eq]; simp; omega) (by simp only [put_eq]; simp; omega) ?_
  refine w_aload_n dX4_make_23 rfl ?_
  refine gf_X4_40 rfl dX4_make_24 ?_
  refine w_iconst dX4_make_27 ?_
  refine w_isub dX4_make_28 ?_
  refine w_istore dX4_make_29 (Nat.le_of_ble_eq_true rfl) ?_
  simp only [putA_ne (show (0 : Nat) ≠ 50 by decide), put_ne (show (0 : Nat) ≠ 4 by decide)]
  refine down_to (-1) (fun i => i < σ 0 6 → ∀ (τ : St), (∃ l, l ++ rts (σ 14) (σ 11) (i + 1).toNat = rts (σ 14) (σ 11) (σ 0 6).toNat ∧ PlC τ (σ 9) (σ 11) (σ 14) l ∧ τ 4 6 = 0 ∧ τ 4 7 = y ∧ (∀ b, 0 ≤ b → b < σ 0 6 → τ 50 b = σ 14 b) ∧ ∀ k, k ≠ 4 → k ≠ 50 → k ≠ 51 → k ≠ 52 → k ≠ 53 → k ≠ 54 → τ k = σ k) → Wp mX4_make 1 (fun z τ => PlC τ (σ 9) (σ 11) (σ 14) (mvL (σ 14) (σ 11) (σ 0 6)) ∧ τ 4 6 = 0 ∧ τ 4 7 = y ∧ (∀ b, 0 ≤ b → b < σ 0 6 → τ 50 b = σ 14 b) ∧ ∀ k, k ≠ 4 → k ≠ 50 → k ≠ 51 → k ≠ 52 → k ≠ 53 → k ≠ 54 → τ k = σ k) 31 [some (.inr 4), some (.inr 0), some (.inr 14), some (.inl y), some (.inl i)] [] τ) (fun i hi ih h0 τ hinv => ?_) (σ 0 6 - 1) (by omega) (by omega) _ ⟨[], ?_, ⟨?_, fun k b h => by simp at h⟩, ?_, ?_, ?_, ?_⟩
  rotate_left 1
  · rw [show σ 0 6 - 1 + 1 = σ 0 6 by omega]; rfl
  · simp [put_eq, putA_eq]
  · simp [put_eq, putA_eq]
  · simp [put_eq, putA_eq]
  · intro b b0 b1
    simp only [put_eq, putA_eq, cpI]
    simp
    intro h
    have := h b0
    omega
  · intro k k1 k2 k3 k4 k5 k6
    rw [putA_ne k2, put_ne k1, put_ne k1, put_ne k1]
  obtain ⟨l, ql, q0, q1, q2, q3, q4⟩ := hinv
  have e0 : τ 0 = σ 0 := q4 0 (by decide) (by decide) (by decide) (by decide) (by decide) (by decide)
  have e9 : τ 9 = σ 9 := q4 9 (by decide) (by decide) (by decide) (by decide) (by decide) (by decide)
  have e11 : τ 11 = σ 11 := q4 11 (by decide) (by decide) (by decide) (by decide) (by decide) (by decide)
  have hml := mv_len (σ 14) (σ 11) (σ 0 6).toNat
  refine Wp.rg (fun hR2 => ?_)
  refine w_iload dX4_make_31 rfl ?_
  refine w_if_lt (tgt := 66) dX4_make_33 (by decide) (by omega) (fun c_33 => ?_) (fun c_33 => ?_)
  · refine w_iconst dX4_make_66 ?_
    refine w_istore dX4_make_67 (Nat.le_of_ble_eq_true rfl) ?_
    refine up_to (σ 0 6) (fun i => 0 ≤ i → ∀ (τ : St), (PlC τ (σ 9) (σ 11) (σ 14) (rts (σ 14) (σ 11) (σ 0 6).toNat ++ lfs (σ 14) (σ 11) i.toNat) ∧ τ 4 6 = 0 ∧ τ 4 7 = y ∧ (∀ b, 0 ≤ b → b < σ 0 6 → τ 50 b = σ 14 b) ∧ ∀ k, k ≠ 4 → k ≠ 50 → k ≠ 51 → k ≠ 52 → k ≠ 53 → k ≠ 54 → τ k = σ k) → Wp mX4_make 1 (fun z τ => PlC τ (σ 9) (σ 11) (σ 14) (mvL (σ 14) (σ 11) (σ 0 6)) ∧ τ 4 6 = 0 ∧ τ 4 7 = y ∧ (∀ b, 0 ≤ b → b < σ 0 6 → τ 50 b = σ 14 b) ∧ ∀ k, k ≠ 4 → k ≠ 50 → k ≠ 51 → k ≠ 52 → k ≠ 53 → k ≠ 54 → τ k = σ k) 69 [some (.inr 4), some (.inr 0), some (.inr 14), some (.inl y), some (.inl i)] [] τ) (fun i hi ih h0 τ hinv => ?_) (0) (by omega) (by omega) _ ⟨?_, q1, q2, q3, q4⟩
    rotate_left 1
    · rw [show (i + 1).toNat = 0 by omega] at ql
      have ql2 : l = rts (σ 14) (σ 11) (σ 0 6).toNat := by simpa [rts] using ql
      rw [← ql2]
      show PlC τ (σ 9) (σ 11) (σ 14) (l ++ [])
      rw [List.append_nil]
      exact q0
    obtain ⟨q0, q1, q2, q3, q4⟩ := hinv
    have e0 : τ 0 = σ 0 := q4 0 (by decide) (by decide) (by decide) (by decide) (by decide) (by decide)
    have e9 : τ 9 = σ 9 := q4 9 (by decide) (by decide) (by decide) (by decide) (by decide) (by decide)
    have e11 : τ 11 = σ 11 := q4 11 (by decide) (by decide) (by decide) (by decide) (by decide) (by decide)
    have hml := mv_len (σ 14) (σ 11) (σ 0 6).toNat
    refine Wp.rg (fun hR2 => ?_)
    refine w_iload dX4_make_69 rfl ?_
    refine w_aload_n dX4_make_71 rfl ?_
    refine gf_X4_40 rfl dX4_make_72 ?_
    refine w_icmp_ge (tgt := 108) dX4_make_75 (by decide) (by omega) (by rw [e0]; omega) (fun c_75 => ?_) (fun c_75 => ?_)
    · refine w_ret dX4_make_108 rfl ?_
      rw [e0] at c_75
      refine ⟨?_, q1, q2, q3, q4⟩
      unfold mvL
      rw [show (σ 0 6).toNat = i.toNat by omega] at q0 ⊢
      exact q0
    · rw [e0] at c_75
      have c50 := q3 i (by omega) c_75
      refine w_aload_n dX4_make_78 rfl ?_
      refine gf_X4_9 rfl dX4_make_79 ?_
      refine w_iload dX4_make_82 rfl ?_
      refine w_iald rfl (by omega) dX4_make_84 ?_
      refine w_aload_n dX4_make_85 rfl ?_
      refine gf_X4_51 rfl dX4_make_86 ?_
      refine w_iload dX4_make_89 rfl ?_
      refine w_iald rfl (by omega) dX4_make_91 ?_
      refine w_icmp_ge (tgt := 102) dX4_make_92 (by decide) (hR2 _ _) (hR2 _ _) (fun c_92 => ?_) (fun c_92 => ?_)
      · refine w_iinc dX4_make_102 (Nat.le_of_ble_eq_true rfl) rfl ?_
        refine w_goto (tgt := 69) dX4_make_105 (by decide) ?_
        first
        | (refine ih (by omega) (by omega) _ ⟨?_, by rw [(addP_fr τ i).1]; exact q1, by rw [(addP_fr τ i).2.1]; exact q2, fun b b0 b1 => by rw [(addP_fr τ i).2.2 50 (by decide) (by decide) (by decide) (by decide) (by decide)]; exact q3 b b0 b1, fun k k1 k2 k3 k4 k5 k6 => by rw [(addP_fr τ i).2.2 k k1 k3 k4 k5 k6]; exact q4 k k1 k2 k3 k4 k5 k6⟩
           rw [hst, ← List.append_assoc]
           exact q0.add (by rw [e9]) (by rw [e11]) c50)
        | (refine ih (by omega) (by omega) _ ⟨?_, q1, q2, q3, q4⟩
           rw [show (i + 1).toNat = i.toNat + 1 by omega]
           unfold lfs
           rw [show ((i.toNat : Nat) : Int) = i by omega, if_neg (by rw [← c50, ← e11]; omega)]
           cases hz : i.toNat <;> simp only [hz] at q0 ⊢ <;> exact q0)
      · have hst : lfs (σ 14) (σ 11) (i + 1).toNat = lfs (σ 14) (σ 11) i.toNat ++ [i] := by
          rw [show (i + 1).toNat = i.toNat + 1 by omega]
          unfold lfs
          rw [show ((i.toNat : Nat) : Int) = i by omega, if_pos (by rw [← c50, ← e11]; exact c_92)]
          cases i.toNat <;> rfl
        have hl2 := lfs_len (σ 14) (σ 11) ((σ 0 6).toNat - (i + 1).toNat) (i + 1).toNat
        rw [show (i + 1).toNat + ((σ 0 6).toNat - (i + 1).toNat) = (σ 0 6).toNat by omega, hst] at hl2
        simp at hl2
        have htt : τ 4 5 = ((rts (σ 14) (σ 11) (σ 0 6).toNat ++ lfs (σ 14) (σ 11) i.toNat).length : Int) := q0.1
        rw [List.length_append] at htt
        refine w_aload_n dX4_make_95 rfl ?_
        refine w_aload_n dX4_make_96 rfl ?_
        refine w_iload dX4_make_97 rfl ?_
        refine cv_X4_54 rfl dX4_make_99 (Nat.le_of_ble_eq_true rfl) (Nat.le_of_ble_eq_true rfl) (Wp.mono (ct_X4_add τ i (by omega) (by omega)) (fun z_ τ_ hq_ => ?_))
        have hq2 : τ_ = addP τ i := hq_
        subst τ_
        rw [show put (put (put (put (put τ 51 (τ 4 5) i) 52 (τ 4 5) (τ 9 i)) 53 (τ 4 5) (τ 11 i)) 54 (τ 4 5) (τ 50 i)) 4 5 (τ 4 5 + 1) = addP τ i from rfl]
        refine w_iinc dX4_make_102 (Nat.le_of_ble_eq_true rfl) rfl ?_
        refine w_goto (tgt := 69) dX4_make_105 (by decide) ?_
        first
        | (refine ih (by omega) (by omega) _ ⟨?_, by rw [(addP_fr τ i).1]; exact q1, by rw [(addP_fr τ i).2.1]; exact q2, fun b b0 b1 => by rw [(addP_fr τ i).2.2 50 (by decide) (by decide) (by decide) (by decide) (by decide)]; exact q3 b b0 b1, fun k k1 k2 k3 k4 k5 k6 => by rw [(addP_fr τ i).2.2 k k1 k3 k4 k5 k6]; exact q4 k k1 k2 k3 k4 k5 k6⟩
           rw [hst, ← List.append_assoc]
           exact q0.add (by rw [e9]) (by rw [e11]) c50)
        | (refine ih (by omega) (by omega) _ ⟨?_, q1, q2, q3, q4⟩
           rw [show (i + 1).toNat = i.toNat + 1 by omega]
           unfold lfs
           rw [show ((i.toNat : Nat) : Int) = i by omega, if_neg (by rw [← c50, ← e11]; omega)]
           cases hz : i.toNat <;> simp only [hz] at q0 ⊢ <;> exact q0)
  · have c50 := q3 i (by omega) (by omega)
    refine w_aload_n dX4_make_36 rfl ?_
    refine gf_X4_9 rfl dX4_make_37 ?_
    refine w_iload dX4_make_40 rfl ?_
    refine w_iald rfl (by omega) dX4_make_42 ?_
    refine w_aload_n dX4_make_43 rfl ?_
    refine gf_X4_51 rfl dX4_make_44 ?_
    refine w_iload dX4_make_47 rfl ?_
    refine w_iald rfl (by omega) dX4_make_49 ?_
    refine w_icmp_le (tgt := 60) dX4_make_50 (by decide) (hR2 _ _) (hR2 _ _) (fun c_50 => ?_) (fun c_50 => ?_)
    · refine w_iinc dX4_make_60 (Nat.le_of_ble_eq_true rfl) rfl ?_
      refine w_goto (tgt := 31) dX4_make_63 (by decide) ?_
      first
      | (refine ih (by omega) (by omega) _ ⟨l ++ [i], ?_, q0.add (by rw [e9]) (by rw [e11]) c50, by rw [(addP_fr τ i).1]; exact q1, by rw [(addP_fr τ i).2.1]; exact q2, fun b b0 b1 => by rw [(addP_fr τ i).2.2 50 (by decide) (by decide) (by decide) (by decide) (by decide)]; exact q3 b b0 b1, fun k k1 k2 k3 k4 k5 k6 => by rw [(addP_fr τ i).2.2 k k1 k3 k4 k5 k6]; exact q4 k k1 k2 k3 k4 k5 k6⟩
         rw [show (i - 1 + 1).toNat = i.toNat by omega, List.append_assoc, ← ql, hst]
         rfl)
      | (refine ih (by omega) (by omega) _ ⟨l, ?_, q0, q1, q2, q3, q4⟩
         rw [show (i - 1 + 1).toNat = i.toNat by omega, ← ql, show (i + 1).toNat = i.toNat + 1 by omega]
         show _ = l ++ (if σ 11 ((i.toNat : Nat) : Int) < σ 14 ((i.toNat : Nat) : Int) then ((i.toNat : Nat) : Int) :: rts (σ 14) (σ 11) i.toNat else rts (σ 14) (σ 11) i.toNat)
         rw [show ((i.toNat : Nat) : Int) = i by omega, if_neg (by rw [← c50, ← e11]; omega)])
    · have hst : rts (σ 14) (σ 11) (i + 1).toNat = i :: rts (σ 14) (σ 11) i.toNat := by
        rw [show (i + 1).toNat = i.toNat + 1 by omega]
        show (if σ 11 ((i.toNat : Nat) : Int) < σ 14 ((i.toNat : Nat) : Int) then ((i.toNat : Nat) : Int) :: rts (σ 14) (σ 11) i.toNat else rts (σ 14) (σ 11) i.toNat) = _
        rw [show ((i.toNat : Nat) : Int) = i by omega, if_pos (by rw [← c50, ← e11]; exact c_50)]
      have htt : τ 4 5 = (l.length : Int) := q0.1
      have hle := congrArg List.length ql
      rw [hst] at hle
      simp at hle
      refine w_aload_n dX4_make_53 rfl ?_
      refine w_aload_n dX4_make_54 rfl ?_
      refine w_iload dX4_make_55 rfl ?_
      refine cv_X4_54 rfl dX4_make_57 (Nat.le_of_ble_eq_true rfl) (Nat.le_of_ble_eq_true rfl) (Wp.mono (ct_X4_add τ i (by omega) (by omega)) (fun z_ τ_ hq_ => ?_))
      have hq2 : τ_ = addP τ i := hq_
      subst τ_
      rw [show put (put (put (put (put τ 51 (τ 4 5) i) 52 (τ 4 5) (τ 9 i)) 53 (τ 4 5) (τ 11 i)) 54 (τ 4 5) (τ 50 i)) 4 5 (τ 4 5 + 1) = addP τ i from rfl]
      refine w_iinc dX4_make_60 (Nat.le_of_ble_eq_true rfl) rfl ?_
      refine w_goto (tgt := 31) dX4_make_63 (by decide) ?_
      first
      | (refine ih (by omega) (by omega) _ ⟨l ++ [i], ?_, q0.add (by rw [e9]) (by rw [e11]) c50, by rw [(addP_fr τ i).1]; exact q1, by rw [(addP_fr τ i).2.1]; exact q2, fun b b0 b1 => by rw [(addP_fr τ i).2.2 50 (by decide) (by decide) (by decide) (by decide) (by decide)]; exact q3 b b0 b1, fun k k1 k2 k3 k4 k5 k6 => by rw [(addP_fr τ i).2.2 k k1 k3 k4 k5 k6]; exact q4 k k1 k2 k3 k4 k5 k6⟩
         rw [show (i - 1 + 1).toNat = i.toNat by omega, List.append_assoc, ← ql, hst]
         rfl)
      | (refine ih (by omega) (by omega) _ ⟨l, ?_, q0, q1, q2, q3, q4⟩
         rw [show (i - 1 + 1).toNat = i.toNat by omega, ← ql, show (i + 1).toNat = i.toNat + 1 by omega]
         show _ = l ++ (if σ 11 ((i.toNat : Nat) : Int) < σ 14 ((i.toNat : Nat) : Int) then ((i.toNat : Nat) : Int) :: rts (σ 14) (σ 11) i.toNat else rts (σ 14) (σ 11) i.toNat)
         rw [show ((i.toNat : Nat) : Int) = i by omega, if_neg (by rw [← c50, ← e11]; omega)])

