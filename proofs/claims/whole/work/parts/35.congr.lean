
theorem cntW_congr {row row2 : Int → Int} {v n : Int} (h : ∀ b, 0 ≤ b → b < n → row b = row2 b) : cntW row v n = cntW row2 v n := by
  unfold cntW
  apply foI_congr
  intro i x h0 h1
  rw [h i h0 h1]
theorem sumA_congr {row row2 : Int → Int} {n : Int} (h : ∀ b, 0 ≤ b → b < n → row b = row2 b) : sumA row n = sumA row2 n := by
  unfold sumA
  apply foI_congr
  intro i x h0 h1
  rw [h i h0 h1]
theorem shlF_congr {grp shf grp2 shf2 : Int → Int} {g n : Int} (h : ∀ b, 0 ≤ b → b < n → grp b = grp2 b ∧ shf b = shf2 b) : shlF grp shf g n = shlF grp2 shf2 g n := by
  unfold shlF
  apply foI_congr
  intro i x h0 h1
  rw [(h i h0 h1).1, (h i h0 h1).2]
theorem yrF_congr {len shf wid nd len2 shf2 wid2 nd2 : Int → Int} {s n : Int} (hl : len s = len2 s) (h : ∀ b, 0 ≤ b → b < n → shf b = shf2 b ∧ wid b = wid2 b ∧ nd b = nd2 b) : yrF len shf wid nd s n = yrF len2 shf2 wid2 nd2 s n := by
  unfold yrF
  rw [hl, sumW_congr (row := shf) (row2 := shf2) (amt := wid) (amt2 := wid2) (fun b b0 b1 => ⟨(h b b0 b1).1, (h b b0 b1).2.1⟩), sumW_congr (row := shf) (row2 := shf2) (amt := nd) (amt2 := nd2) (fun b b0 b1 => ⟨(h b b0 b1).1, (h b b0 b1).2.2⟩)]
theorem lsF_congr {len shf wid nd len2 shf2 wid2 nd2 : Int → Int} {n ns : Int} (hl : ∀ s, 0 ≤ s → s < ns → len s = len2 s) (h : ∀ b, 0 ≤ b → b < n → shf b = shf2 b ∧ wid b = wid2 b ∧ nd b = nd2 b) : lsF len shf wid nd n ns = lsF len2 shf2 wid2 nd2 n ns := by
  unfold lsF
  apply foI_congr
  intro i x h0 h1
  rw [cntW_congr (fun b b0 b1 => (h b b0 b1).1), yrF_congr (hl i h0 h1) h]
theorem dyF_congr {w u : Int → Int} {f l z : Int} (h : ∀ k, f ≤ k → k < f + z → w k = u k) : dyF w f l z = dyF u f l z := by
  unfold dyF
  apply foI_congr
  intro i x h0 h1
  rw [h (f + i) (by omega) (by omega)]
theorem trF_congr {a b a2 b2 : Int → Int} {f z : Int} (h : ∀ k, f ≤ k → k < f + z → a k = a2 k ∧ b k = b2 k) : trF a b f z = trF a2 b2 f z := by
  unfold trF
  apply foI_congr
  intro i x h0 h1
  by_cases e : i = 0
  · simp [e]
  · rw [(h (f + i) (by omega) (by omega)).1, (h (f + i) (by omega) (by omega)).2, (h (f + i - 1) (by omega) (by omega)).1, (h (f + i - 1) (by omega) (by omega)).2]
theorem rgF_congr {a b a2 b2 : Int → Int} {f z : Int} (h : ∀ k, f ≤ k → k < f + z → a k = a2 k ∧ b k = b2 k) : rgF a b f z = rgF a2 b2 f z := by
  unfold rgF
  apply foI_congr
  intro i x h0 h1
  rw [(h (f + i) (by omega) (by omega)).1, (h (f + i) (by omega) (by omega)).2]
theorem bst_cg {grp grp2 los los2 : Int → Int} {g n : Int} (h : ∀ b, 0 ≤ b → b < n → grp b = grp2 b ∧ los b = los2 b) : ∀ k : Nat, (k : Int) ≤ n → bstF grp los g k = bstF grp2 los2 g k := by
  intro k
  induction k with
  | zero => intro _; rfl
  | succ k ih =>
    intro hk
    rw [show ((k + 1 : Nat) : Int) = (k : Int) + 1 by omega, bstF_s _ _ _ (by omega), bstF_s _ _ _ (by omega), ← ih (by omega), (h k (by omega) (by omega)).1, (h k (by omega) (by omega)).2]
    rcases bstF_in grp los g k (by omega) with q | q
    · rw [q]; simp
    · rw [(h _ q.1 (by omega)).2]
theorem gvN_cg {grp grp2 : Int → Int} {g n : Int} {p q : (Int → Int) × (Int → Int)} (hn : 0 ≤ n) (hg : ∀ b, 0 ≤ b → b < n → grp b = grp2 b) (h : ∀ b, 0 ≤ b → b < n → p.1 b = q.1 b ∧ p.2 b = q.2 b) : ∀ k : Nat, ∀ b, 0 ≤ b → b < n → (gvN grp g n p k).1 b = (gvN grp2 g n q k).1 b ∧ (gvN grp g n p k).2 b = (gvN grp2 g n q k).2 b := by
  intro k
  induction k with
  | zero => exact h
  | succ k ih =>
    intro b b0 b1
    have hb := bst_cg (g := g) (n := n) (grp := grp) (grp2 := grp2) (los := (gvN grp g n p k).2) (los2 := (gvN grp2 g n q k).2) (fun b b0 b1 => ⟨hg b b0 b1, (ih b b0 b1).2⟩) n.toNat (by omega)
    rw [show ((n.toNat : Nat) : Int) = n by omega] at hb
    show upF _ _ _ b = upF _ _ _ b ∧ upF _ _ _ b = upF _ _ _ b
    unfold upF
    rw [← hb]
    have ib := ih b b0 b1
    by_cases e : b = bstF grp (gvN grp g n p k).2 g n
    · rw [← e]; simp [ib.1]
    · rw [if_neg e, if_neg e, if_neg e, if_neg e]; exact ib
theorem ndS_congr {grp grp2 wid wid2 : Int → Int} {n g G b : Int} (hn : 0 ≤ n) (h : ∀ b, 0 ≤ b → b < n → grp b = grp2 b ∧ wid b = wid2 b) (b0 : 0 ≤ b) (b1 : b < n) : ndS grp wid n g G b = ndS grp2 wid2 n g G b := by
  unfold ndS
  have e1 : sumW grp wid g n = sumW grp2 wid2 g n := sumW_congr h
  have e2 : lftF grp wid n g G = lftF grp2 wid2 n g G := by
    unfold lftF
    rw [e1, sumW_congr (row2 := grp2) (amt2 := fun b => G * wid2 b / sumW grp2 wid2 g n) (fun b b0 b1 => ⟨(h b b0 b1).1, by rw [(h b b0 b1).2]⟩)]
  rw [e1, e2]
  refine (gvN_cg hn (fun b b0 b1 => (h b b0 b1).1) (fun x x0 x1 => ?_) _ b b0 b1).1
  dsimp only
  unfold shI shL
  rw [(h x x0 x1).1, (h x x0 x1).2]
  exact ⟨rfl, rfl⟩
/-! a book of another group comes between -/
def shf1 (p x : Int) : Int := if x < p then x else x + 1
theorem shf1_inj {p x y : Int} (h : shf1 p x = shf1 p y) : x = y := by
  unfold shf1 at h
  split at h <;> split at h <;> omega
theorem sumW_sh {row amt row2 amt2 : Int → Int} {p v : Int} (hp : 0 ≤ p) (h1 : ∀ x, row2 (shf1 p x) = row x) (h2 : ∀ x, amt2 (shf1 p x) = amt x) (hv : row2 p ≠ v) : ∀ k : Nat, sumW row2 amt2 v (shf1 p k) = sumW row amt v k := by
  have low : ∀ k : Nat, (k : Int) ≤ p → sumW row2 amt2 v k = sumW row amt v k := by
    intro k hk
    apply sumW_congr
    intro b b0 b1
    have r1 := h1 b
    have r2 := h2 b
    unfold shf1 at r1 r2
    rw [if_pos (by omega)] at r1 r2
    exact ⟨r1, r2⟩
  intro k
  induction k with
  | zero =>
    by_cases q : 0 < p
    · rw [show shf1 p ((0 : Nat) : Int) = 0 by unfold shf1; exact if_pos q]
      rfl
    · have e : p = 0 := by omega
      subst e
      unfold shf1
      rw [if_neg (by omega), show ((0 : Nat) : Int) + 1 = 0 + 1 by rfl, sumW_s _ _ _ (by omega), if_neg hv, sumW_0]
      exact (sumW_0 _ _ _).symm
  | succ k ih =>
    by_cases q : ((k + 1 : Nat) : Int) < p
    · have := low (k + 1) (by omega)
      unfold shf1
      rw [if_pos q]
      exact this
    · by_cases q2 : ((k + 1 : Nat) : Int) = p
      · unfold shf1
        rw [if_neg q, sumW_s _ _ _ (by omega), q2, if_neg hv, ← q2]
        exact low (k + 1) (by omega)
      · have r1 := h1 k
        have r2 := h2 k
        unfold shf1 at r1 r2 ih ⊢
        rw [if_neg (by omega)] at r1 r2 ih
        rw [if_neg q, show ((k + 1 : Nat) : Int) + 1 = ((k : Int) + 1) + 1 by omega, sumW_s _ _ _ (by omega), ih, r1, r2, show ((k + 1 : Nat) : Int) = (k : Int) + 1 by omega, sumW_s _ _ _ (by omega)]
theorem bst_sh {row los row2 los2 : Int → Int} {p g : Int} (hp : 0 ≤ p) (h1 : ∀ x, row2 (shf1 p x) = row x) (h2 : ∀ x, los2 (shf1 p x) = los x) (hv : row2 p ≠ g) : ∀ k : Nat, bstF row2 los2 g (shf1 p k) = shf1 p (bstF row los g k) := by
  have low : ∀ k : Nat, (k : Int) ≤ p → bstF row2 los2 g k = bstF row los g k := by
    intro k hk
    refine bst_cg (n := k) (fun b b0 b1 => ?_) k (by omega)
    have r1 := h1 b
    have r2 := h2 b
    unfold shf1 at r1 r2
    rw [if_pos (by omega)] at r1 r2
    exact ⟨r1, r2⟩
  have idn : ∀ k : Nat, (k : Int) ≤ p → shf1 p (bstF row los g k) = bstF row los g k := by
    intro k hk
    unfold shf1
    rcases bstF_in row los g k (by omega) with q | q
    · rw [q, if_pos (by omega)]
    · rw [if_pos (by omega)]
  have neg1 : ∀ c : Int, shf1 p c = -1 ↔ c = -1 := by
    intro c
    unfold shf1
    split <;> omega
  intro k
  induction k with
  | zero =>
    by_cases q : 0 < p
    · rw [show shf1 p ((0 : Nat) : Int) = 0 by unfold shf1; exact if_pos q]
      show (-1 : Int) = if (-1 : Int) < p then -1 else -1 + 1
      rw [if_pos (by omega)]
    · have e : p = 0 := by omega
      subst e
      rw [show shf1 0 ((0 : Nat) : Int) = 0 + 1 from rfl, bstF_s _ _ _ (by omega), if_neg (fun h => hv h.1)]
      rfl
  | succ k ih =>
    by_cases q : ((k + 1 : Nat) : Int) < p
    · rw [idn (k + 1) (by omega), ← low (k + 1) (by omega)]
      unfold shf1
      rw [if_pos q]
    · by_cases q2 : ((k + 1 : Nat) : Int) = p
      · rw [idn (k + 1) (by omega)]
        unfold shf1
        rw [if_neg q, bstF_s _ _ _ (by omega), q2, if_neg (fun h => hv h.1), ← q2]
        exact low (k + 1) (by omega)
      · have e1 : shf1 p ((k + 1 : Nat) : Int) = shf1 p (k : Int) + 1 := by
          unfold shf1
          rw [if_neg q, if_neg (by omega)]
          omega
        have e2 : shf1 p (k : Int) = (k : Int) + 1 := by
          unfold shf1
          rw [if_neg (by omega)]
        rw [e1, bstF_s _ _ _ (by rw [e2]; omega), ih, h1, h2, h2, show ((k + 1 : Nat) : Int) = (k : Int) + 1 by omega, bstF_s _ _ _ (by omega)]
        by_cases c : row k = g ∧ (bstF row los g k = -1 ∨ los (bstF row los g k) < los k)
        · rw [if_pos c, if_pos ⟨c.1, c.2.elim (fun h => Or.inl ((neg1 _).mpr h)) Or.inr⟩]
        · rw [if_neg c, if_neg (fun d => c ⟨d.1, d.2.elim (fun h => Or.inl ((neg1 _).mp h)) Or.inr⟩)]
theorem gvN_sh {row row2 : Int → Int} {p g n : Int} {a c : (Int → Int) × (Int → Int)} (hp : 0 ≤ p ∧ p ≤ n) (h1 : ∀ x, row2 (shf1 p x) = row x) (hv : row2 p ≠ g) (h : ∀ x, c.1 (shf1 p x) = a.1 x ∧ c.2 (shf1 p x) = a.2 x) : ∀ (k : Nat) (x : Int), (gvN row2 g (n + 1) c k).1 (shf1 p x) = (gvN row g n a k).1 x ∧ (gvN row2 g (n + 1) c k).2 (shf1 p x) = (gvN row g n a k).2 x := by
  intro k
  induction k with
  | zero => exact h
  | succ k ih =>
    intro x
    have hb := bst_sh (g := g) hp.1 h1 (fun y => (ih y).2) hv n.toNat
    rw [show ((n.toNat : Nat) : Int) = n by omega, show shf1 p n = n + 1 by unfold shf1; rw [if_neg (by omega)]] at hb
    show upF _ _ _ _ = upF _ _ _ _ ∧ upF _ _ _ _ = upF _ _ _ _
    unfold upF
    rw [hb]
    by_cases e : x = bstF row (gvN row g n a k).2 g n
    · rw [← e]; simp [(ih x).1]
    · have e2 : ¬ shf1 p x = shf1 p (bstF row (gvN row g n a k).2 g n) := fun q => e (shf1_inj q)
      rw [if_neg e, if_neg e2, if_neg e, if_neg e2]
      exact ih x
theorem ins_sh (f : Int → Int) (p v x : Int) : ins f p v (shf1 p x) = f x := by
  unfold ins shf1
  by_cases q : x < p
  · rw [if_pos q, if_pos q]
  · rw [if_neg q, if_neg (by omega), if_neg (by omega)]
    congr 1
    omega
theorem nd_ins {grp wid : Int → Int} {n g G b p g0 w0 : Int} (hp : 0 ≤ p ∧ p ≤ n) (hg : g0 ≠ g) : ndS (ins grp p g0) (ins wid p w0) (n + 1) g G (shf1 p b) = ndS grp wid n g G b := by
  have hpp : ins grp p g0 p ≠ g := by unfold ins; rw [if_neg (by omega), if_pos rfl]; exact hg
  have en : shf1 p n = n + 1 := by unfold shf1; rw [if_neg (by omega)]
  have et : ((n.toNat : Nat) : Int) = n := by omega
  have e1 : sumW (ins grp p g0) (ins wid p w0) g (n + 1) = sumW grp wid g n := by
    have := sumW_sh (v := g) hp.1 (ins_sh grp p g0) (ins_sh wid p w0) hpp n.toNat
    rw [et, en] at this
    exact this
  have e2 : lftF (ins grp p g0) (ins wid p w0) (n + 1) g G = lftF grp wid n g G := by
    unfold lftF
    rw [e1]
    have := sumW_sh (v := g) (amt := fun b => G * wid b / sumW grp wid g n) (amt2 := fun b => G * ins wid p w0 b / sumW grp wid g n) hp.1 (ins_sh grp p g0) (fun x => by show G * ins wid p w0 (shf1 p x) / _ = _; rw [ins_sh]) hpp n.toNat
    rw [et, en] at this
    rw [this]
  unfold ndS
  rw [e1, e2]
  refine (gvN_sh hp (ins_sh grp p g0) hpp (fun x => ?_) _ b).1
  dsimp only
  unfold shI shL
  rw [ins_sh, ins_sh]
  have i1 : (0 ≤ shf1 p x ∧ shf1 p x < n + 1) ↔ (0 ≤ x ∧ x < n) := by
    unfold shf1
    split <;> omega
  by_cases q : 0 ≤ x ∧ x < n ∧ grp x = g
  · have q2 : 0 ≤ shf1 p x ∧ shf1 p x < n + 1 ∧ grp x = g := ⟨(i1.mpr ⟨q.1, q.2.1⟩).1, (i1.mpr ⟨q.1, q.2.1⟩).2, q.2.2⟩
    rw [if_pos q, if_pos q2, if_pos q, if_pos q2]
    exact ⟨rfl, rfl⟩
  · have q2 : ¬ (0 ≤ shf1 p x ∧ shf1 p x < n + 1 ∧ grp x = g) := fun h => q ⟨(i1.mp ⟨h.1, h.2.1⟩).1, (i1.mp ⟨h.1, h.2.1⟩).2, h.2.2⟩
    rw [if_neg q, if_neg q2, if_neg q, if_neg q2]
    exact ⟨rfl, rfl⟩
/-- the needs behind shareGrowth -/
theorem ShG.need {σ τ : St} {g G : Int} (h : ShG σ τ g G) (hn : 0 ≤ σ 0 6) (hw : ∀ b, 0 ≤ b → b < σ 0 6 → 1 ≤ σ 9 b) : ∀ b, 0 ≤ b → b < σ 0 6 → (σ 8 b = g → τ 10 b = ndS (σ 8) (σ 9) (σ 0 6) g G b) ∧ (σ 8 b ≠ g → τ 10 b = σ 10 b) := by
  intro b b0 b1
  by_cases q : 0 < sumW (σ 8) (σ 9) g (σ 0 6)
  · have e := h.2 q
    rw [e, putA_ne (by decide), putA_eq, if_pos rfl]
    refine ⟨fun hb => nd_of hn b0 b1 hb, fun hb => ?_⟩
    rw [gvN_out hn b0 hb]
    show shI _ _ _ _ _ _ _ b = _
    unfold shI
    rw [if_neg (fun q => hb q.2.2)]
  · have e := h.1 (by omega)
    refine ⟨fun hb => ?_, fun _ => by rw [e]⟩
    have := sumW_in (σ 8) (σ 9) g (σ 0 6) hn (fun x x0 x1 _ => by have := hw x x0 x1; omega) b b0 b1 hb
    have := hw b b0 b1
    omega
