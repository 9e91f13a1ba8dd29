/-! cuts: lengths, kinds, widths, spans, where books stand -/
abbrev CP : Type := (Int → Int) × (Int → Int) × (Int → Int) × (Int → Int) × (Int → Int)
def rmP (c : CP) (s : Int) : Int := if c.2.1 s = 2 then 0 else c.1 s
def pmP (c : CP) (s b : Int) : Int := if c.2.2.2.2 b = s ∨ c.2.2.2.2 b = -1 then 0 else 100 * c.2.2.1 b + 1
def fitP (c : CP) (n s f m : Int) : Prop := 0 ≤ m ∧ f + m ≤ n ∧ sumF c.2.2.2.1 f m ≤ rmP c s
def owP (c : CP) (s f m : Int) : Int := (if 0 < m ∧ c.2.1 s = 1 then 1000000 else 0) + sumF (pmP c s) f m
def IsMn (c : CP) (n : Int) (row : Int → Int) (s f v : Int) : Prop := (∀ m, fitP c n s f m → v ≤ owP c s f m + row (f + m)) ∧ ∃ m, fitP c n s f m ∧ v = owP c s f m + row (f + m)
def IsMost (c : CP) (n : Int) (row : Int → Int) (s f v m : Int) : Prop := fitP c n s f m ∧ v = owP c s f m + row (f + m) ∧ ∀ m2, m < m2 → fitP c n s f m2 → v ≠ owP c s f m2 + row (f + m2)
/-- bounds of what cuts are made from -/
def CPok (c : CP) (ns n : Int) : Prop := (0 ≤ ns ∧ ns ≤ 12) ∧ (0 ≤ n ∧ n ≤ 60) ∧ (∀ s, 0 ≤ s → s < ns → 0 ≤ c.1 s ∧ c.1 s ≤ 200 ∧ 0 ≤ c.2.1 s ∧ c.2.1 s ≤ 2) ∧ ∀ b, 0 ≤ b → b < n → 1 ≤ c.2.2.1 b ∧ c.2.2.1 b ≤ 40 ∧ 1 ≤ c.2.2.2.1 b ∧ c.2.2.2.1 b ≤ 1000000 ∧ -1 ≤ c.2.2.2.2 b ∧ c.2.2.2.2 b ≤ 12
theorem sumF_mono {w : Int → Int} {f n : Int} (h : ∀ k, f ≤ k → k < n → 0 ≤ w k) {a b : Int} (h0 : 0 ≤ a) (hab : a ≤ b) (hb : f + b ≤ n) : sumF w f a ≤ sumF w f b := by
  have key : ∀ k : Nat, f + (a + k) ≤ n → sumF w f a ≤ sumF w f (a + k) := by
    intro k
    induction k with
    | zero => intro _; rw [show a + ((0 : Nat) : Int) = a by omega]; exact Int.le_refl _
    | succ k ih =>
      intro hk
      rw [show a + ((k + 1 : Nat) : Int) = (a + k) + 1 by omega, sumF_s _ _ (by omega)]
      have h1 := ih (by omega)
      have h2 := h (f + (a + k)) (by omega) (by omega)
      omega
  have := key (b - a).toNat (by omega)
  rwa [show a + (((b - a).toNat : Nat) : Int) = b by omega] at this
theorem sumF_nn {w : Int → Int} {f n : Int} (h : ∀ k, f ≤ k → k < n → 0 ≤ w k) {a : Int} (h0 : 0 ≤ a) (hb : f + a ≤ n) : 0 ≤ sumF w f a := by
  have := sumF_mono h (Int.le_refl 0) h0 hb
  rwa [sumF_0] at this
theorem sumF_le {w : Int → Int} {f n hi : Int} (h : ∀ k, f ≤ k → k < n → w k ≤ hi) {a : Int} (h0 : 0 ≤ a) (hb : f + a ≤ n) : sumF w f a ≤ hi * a := by
  have key : ∀ k : Nat, f + k ≤ n → sumF w f k ≤ hi * k := by
    intro k
    induction k with
    | zero => intro _; rw [show ((0 : Nat) : Int) = 0 from rfl, sumF_0]; omega
    | succ k ih =>
      intro hk
      rw [show ((k + 1 : Nat) : Int) = (k : Int) + 1 by omega, sumF_s _ _ (by omega), Int.mul_add]
      have h1 := ih (by omega)
      have h2 := h (f + k) (by omega) (by omega)
      omega
  have := key a.toNat (by omega)
  rwa [show ((a.toNat : Nat) : Int) = a by omega] at this
theorem sumF_congr {w u : Int → Int} {f n : Int} (h : ∀ k, f ≤ k → k < n → w k = u k) {a : Int} (hb : f + a ≤ n) : sumF w f a = sumF u f a := by
  unfold sumF
  apply foI_congr
  intro i x h0 h1
  rw [h (f + i) (by omega) (by omega)]
theorem IsDay.uniq {w : Int → Int} {f e lim z y : Int} (hw : ∀ k, f ≤ k → k < e → 0 ≤ w k) (h : IsDay w f e lim z) (k : IsDay w f e lim y) : z = y := by
  obtain ⟨h1, h2, h3, h4⟩ := h
  obtain ⟨k1, k2, k3, k4⟩ := k
  rcases Int.lt_trichotomy z y with q | q | q
  · have := sumF_mono hw (a := z + 1) (b := y) (by omega) (by omega) k2
    omega
  · exact q
  · have := sumF_mono hw (a := y + 1) (b := z) (by omega) (by omega) h2
    omega
theorem IsDay.congr {w u : Int → Int} {f e lim z : Int} (h : IsDay w f e lim z) (hc : ∀ k, f ≤ k → k < e → w k = u k) : IsDay u f e lim z := by
  obtain ⟨h1, h2, h3, h4⟩ := h
  refine ⟨h1, h2, by rw [← sumF_congr hc h2]; exact h3, ?_⟩
  rcases h4 with h4 | h4
  · exact Or.inl h4
  · by_cases q : f + z = e
    · exact Or.inl q
    · exact Or.inr (by rw [← sumF_congr hc (by omega)]; exact h4)
theorem pmP_bd {c : CP} {ns n : Int} (hc : CPok c ns n) (s : Int) {b : Int} (h0 : 0 ≤ b) (h1 : b < n) : 0 ≤ pmP c s b ∧ pmP c s b ≤ 4001 := by
  have := hc.2.2.2 b h0 h1
  unfold pmP
  split <;> omega
theorem owP_bd {c : CP} {ns n : Int} (hc : CPok c ns n) (s : Int) {f m : Int} (hf : 0 ≤ f) (hm : 0 ≤ m) (h1 : f + m ≤ n) : 0 ≤ owP c s f m ∧ owP c s f m ≤ 1300000 := by
  have h2 := sumF_nn (w := pmP c s) (f := f) (n := n) (fun k k1 k2 => (pmP_bd hc s (by omega) k2).1) hm h1
  have h3 := sumF_le (w := pmP c s) (f := f) (n := n) (hi := 4001) (fun k k1 k2 => (pmP_bd hc s (by omega) k2).2) hm h1
  have h4 := hc.2.1
  unfold owP
  split <;> omega
theorem owP_0 (c : CP) (s f : Int) : owP c s f 0 = 0 := by
  unfold owP
  rw [if_neg (by omega), sumF_0]
  rfl
theorem fitP_0 {c : CP} {ns n : Int} (hc : CPok c ns n) {s f : Int} (hs : 0 ≤ s ∧ s < ns) (hf : f ≤ n) : fitP c n s f 0 := by
  refine ⟨Int.le_refl 0, by omega, ?_⟩
  rw [sumF_0]
  have := hc.2.2.1 s hs.1 hs.2
  unfold rmP
  split <;> omega
theorem IsMn.uniq {c : CP} {n : Int} {row : Int → Int} {s f v u : Int} (h : IsMn c n row s f v) (k : IsMn c n row s f u) : v = u := by
  obtain ⟨h1, m, h2, h3⟩ := h
  obtain ⟨k1, y, k2, k3⟩ := k
  have a := h1 y k2
  have b := k1 m h2
  omega
theorem IsMn.congr {c : CP} {n : Int} {row row2 : Int → Int} {s f v : Int} (h : IsMn c n row s f v) (hf : 0 ≤ f) (e : ∀ b, f ≤ b → b ≤ n → row b = row2 b) : IsMn c n row2 s f v := by
  obtain ⟨h1, m, h2, h3⟩ := h
  refine ⟨fun y hy => ?_, m, h2, ?_⟩
  · have := h1 y hy
    have e2 := e (f + y) (by have := hy.1; omega) hy.2.1
    omega
  · have e2 := e (f + m) (by have := h2.1; omega) h2.2.1
    omega
theorem IsMost.uniq {c : CP} {n : Int} {row : Int → Int} {s f v m y : Int} (h : IsMost c n row s f v m) (k : IsMost c n row s f v y) : m = y := by
  rcases Int.lt_trichotomy m y with q | q | q
  · exact absurd k.2.1 (h.2.2 y q k.1)
  · exact q
  · exact absurd h.2.1 (k.2.2 m q h.1)
theorem IsMost.congr {c : CP} {n : Int} {row row2 : Int → Int} {s f v m : Int} (h : IsMost c n row s f v m) (e : ∀ b, f ≤ b → b ≤ n → row b = row2 b) : IsMost c n row2 s f v m := by
  refine ⟨h.1, ?_, fun y hy hf => ?_⟩
  · rw [← e (f + m) (by have := h.1.1; omega) h.1.2.1]; exact h.2.1
  · rw [← e (f + y) (by have := hf.1; omega) hf.2.1]; exact h.2.2 y hy hf
/-- the table: the least price of all books from one on, over the shelves from one on -/
def TblL (c : CP) (ns n : Int) (L : Int → Int → Int) : Prop := (∀ b, 0 ≤ b → b ≤ n → L ns b = if b = n then 0 else 1000000000) ∧ ∀ s, 0 ≤ s → s < ns → ∀ f, 0 ≤ f → f ≤ n → IsMn c n (L (s + 1)) s f (L s f)
theorem TblL.uniq {c : CP} {ns n : Int} {L K : Int → Int → Int} (h : TblL c ns n L) (k : TblL c ns n K) : ∀ s, 0 ≤ s → s ≤ ns → ∀ f, 0 ≤ f → f ≤ n → L s f = K s f := by
  intro s h0 h1
  refine up_to ns (fun s => 0 ≤ s → ∀ f, 0 ≤ f → f ≤ n → L s f = K s f) (fun s hs ih h0 f hf hn => ?_) s h1 h0
  by_cases q : s = ns
  · subst q
    rw [h.1 f hf hn, k.1 f hf hn]
  · have ih := ih (by omega) (by omega)
    exact IsMn.uniq ((h.2 s h0 (by omega) f hf hn).congr hf (fun b b1 b2 => ih b (by omega) b2)) (k.2 s h0 (by omega) f hf hn)
theorem TblL.bd {c : CP} {ns n : Int} {L : Int → Int → Int} (hc : CPok c ns n) (h : TblL c ns n L) : ∀ s, 0 ≤ s → s ≤ ns → ∀ f, 0 ≤ f → f ≤ n → 0 ≤ L s f ∧ L s f ≤ 1000000000 := by
  intro s h0 h1
  refine up_to ns (fun s => 0 ≤ s → ∀ f, 0 ≤ f → f ≤ n → 0 ≤ L s f ∧ L s f ≤ 1000000000) (fun s hs ih h0 f hf hn => ?_) s h1 h0
  by_cases q : s = ns
  · subst q
    rw [h.1 f hf hn]
    split <;> omega
  · have ih := ih (by omega) (by omega)
    obtain ⟨a1, m, a2, a3⟩ := h.2 s h0 (by omega) f hf hn
    constructor
    · have b1 := owP_bd hc s hf a2.1 a2.2.1
      have b2 := ih (f + m) (by have := a2.1; omega) a2.2.1
      omega
    · have b1 := a1 0 (fitP_0 hc ⟨h0, by omega⟩ hn)
      rw [owP_0, show f + 0 = f by omega] at b1
      have b2 := ih f hf hn
      omega
/-- how many each shelf takes: of the cheapest the greatest -/
def IsCut (c : CP) (ns n : Int) (L : Int → Int → Int) (tk : Int → Int) : Prop := ∀ s, 0 ≤ s → s < ns → IsMost c n (L (s + 1)) s (sumF tk 0 s) (L s (sumF tk 0 s)) (tk s)
theorem pos_s (tk : Int → Int) {s : Int} (h : 0 ≤ s) : sumF tk 0 (s + 1) = sumF tk 0 s + tk s := by rw [sumF_s _ _ h, Int.zero_add]
theorem IsCut.pos {c : CP} {ns n : Int} {L : Int → Int → Int} {tk : Int → Int} (h : IsCut c ns n L tk) (hn : 0 ≤ n) : ∀ s, 0 ≤ s → s ≤ ns → 0 ≤ sumF tk 0 s ∧ sumF tk 0 s ≤ n := by
  intro s h0 h1
  have key : ∀ k : Nat, (k : Int) ≤ ns → 0 ≤ sumF tk 0 k ∧ sumF tk 0 k ≤ n := by
    intro k
    induction k with
    | zero => intro _; rw [show ((0 : Nat) : Int) = 0 from rfl, sumF_0]; omega
    | succ k ih =>
      intro hk
      have ih := ih (by omega)
      rw [show ((k + 1 : Nat) : Int) = (k : Int) + 1 by omega, pos_s _ (by omega)]
      have a := (h k (by omega) (by omega)).1
      have a1 := a.1
      have a2 := a.2.1
      omega
  have := key s.toNat (by omega)
  rwa [show ((s.toNat : Nat) : Int) = s by omega] at this
theorem IsCut.uniq {c : CP} {ns n : Int} {L K : Int → Int → Int} {tk uk : Int → Int} (hn : 0 ≤ n) (hL : TblL c ns n L) (hK : TblL c ns n K) (h : IsCut c ns n L tk) (k : IsCut c ns n K uk) : ∀ s, 0 ≤ s → s < ns → tk s = uk s := by
  have key : ∀ j : Nat, (j : Int) ≤ ns → ∀ s : Int, 0 ≤ s → s < j → tk s = uk s := by
    intro j
    induction j with
    | zero => intro _ s h1 h2; omega
    | succ j ih =>
      intro hj s h1 h2
      have ih := ih (by omega)
      by_cases q : s = j
      · subst q
        have e : sumF tk 0 j = sumF uk 0 j := sumF_congr (n := j) (fun k k1 k2 => ih k k1 k2) (by omega)
        have a := h j (by omega) (by omega)
        have b := k j (by omega) (by omega)
        have p := h.pos hn j (by omega) (by omega)
        rw [← e] at b
        rw [hL.uniq hK j (by omega) (by omega) _ p.1 p.2] at a
        exact IsMost.uniq (a.congr (fun x x1 x2 => hL.uniq hK (j + 1) (by omega) (by omega) x (by omega) x2)) b
      · exact ih s h1 (by omega)
  intro s h1 h2
  exact key ns.toNat (by omega) s h1 (by omega)
theorem IsCut.all {c : CP} {ns n : Int} {L : Int → Int → Int} {tk : Int → Int} (hc : CPok c ns n) (hL : TblL c ns n L) (h : IsCut c ns n L tk) (h0 : L 0 0 < 1000000000) : ∀ s, 0 ≤ s → s ≤ ns → L s (sumF tk 0 s) < 1000000000 := by
  intro s h1 h2
  have key : ∀ k : Nat, (k : Int) ≤ ns → L k (sumF tk 0 k) < 1000000000 := by
    intro k
    induction k with
    | zero => intro _; exact h0
    | succ k ih =>
      intro hk
      have ih := ih (by omega)
      have a := h k (by omega) (by omega)
      have p := h.pos hc.2.1.1 k (by omega) (by omega)
      have b := owP_bd hc k p.1 a.1.1 a.1.2.1
      have e := a.2.1
      rw [show ((k + 1 : Nat) : Int) = (k : Int) + 1 by omega, pos_s _ (by omega)]
      omega
  have := key s.toNat (by omega)
  rwa [show ((s.toNat : Nat) : Int) = s by omega] at this
theorem IsCut.ends {c : CP} {ns n : Int} {L : Int → Int → Int} {tk : Int → Int} (hc : CPok c ns n) (hL : TblL c ns n L) (h : IsCut c ns n L tk) (h0 : L 0 0 < 1000000000) : sumF tk 0 ns = n := by
  have a := h.all hc hL h0 ns hc.1.1 (by omega)
  have p := h.pos hc.2.1.1 ns hc.1.1 (by omega)
  rw [hL.1 _ p.1 p.2] at a
  by_cases q : sumF tk 0 ns = n
  · exact q
  · rw [if_neg q] at a; omega
/-- on which shelf each book is by the cuts -/
def GoIs (tk go : Int → Int) (ns : Int) : Prop := ∀ s b, 0 ≤ s → s < ns → sumF tk 0 s ≤ b → b < sumF tk 0 (s + 1) → go b = s
theorem pos_ex (tk : Int → Int) (ns b : Int) (h0 : 0 ≤ ns) (hb : 0 ≤ b) (h : b < sumF tk 0 ns) : ∃ s, 0 ≤ s ∧ s < ns ∧ sumF tk 0 s ≤ b ∧ b < sumF tk 0 (s + 1) := by
  have key : ∀ k : Nat, b < sumF tk 0 k → ∃ s : Int, 0 ≤ s ∧ s < k ∧ sumF tk 0 s ≤ b ∧ b < sumF tk 0 (s + 1) := by
    intro k
    induction k with
    | zero => intro q; rw [show ((0 : Nat) : Int) = 0 from rfl, sumF_0] at q; omega
    | succ k ih =>
      intro q
      by_cases q2 : b < sumF tk 0 k
      · obtain ⟨s, a1, a2, a3⟩ := ih q2
        exact ⟨s, a1, by omega, a3⟩
      · exact ⟨k, by omega, by omega, by omega, by rw [show (k : Int) + 1 = ((k + 1 : Nat) : Int) by omega]; exact q⟩
  have e : ((ns.toNat : Nat) : Int) = ns := by omega
  rw [← e] at h
  obtain ⟨s, a1, a2, a3⟩ := key ns.toNat h
  exact ⟨s, a1, by omega, a3⟩
theorem GoIs.uniq {tk uk go ho : Int → Int} {ns : Int} (h0 : 0 ≤ ns) (h : GoIs tk go ns) (k : GoIs uk ho ns) (e : ∀ s, 0 ≤ s → s < ns → tk s = uk s) : ∀ b, 0 ≤ b → b < sumF tk 0 ns → go b = ho b ∧ 0 ≤ go b ∧ go b < ns := by
  intro b b0 b1
  obtain ⟨s, a1, a2, a3, a4⟩ := pos_ex tk ns b h0 b0 b1
  have e1 : sumF tk 0 s = sumF uk 0 s := sumF_congr (n := ns) (fun k k1 k2 => e k k1 k2) (by omega)
  have e2 : sumF tk 0 (s + 1) = sumF uk 0 (s + 1) := sumF_congr (n := ns) (fun k k1 k2 => e k k1 k2) (by omega)
  rw [h s b a1 a2 a3 a4, k s b a1 a2 (by rw [← e1]; exact a3) (by rw [← e2]; exact a4)]
  exact ⟨rfl, a1, a2⟩
theorem CP_congr {c c2 : CP} {ns n : Int} (hs : ∀ s, 0 ≤ s → s < ns → c.1 s = c2.1 s ∧ c.2.1 s = c2.2.1 s) (hb : ∀ b, 0 ≤ b → b < n → c.2.2.1 b = c2.2.2.1 b ∧ c.2.2.2.1 b = c2.2.2.2.1 b ∧ c.2.2.2.2 b = c2.2.2.2.2 b) : (∀ s f m, 0 ≤ s → s < ns → 0 ≤ f → (fitP c n s f m ↔ fitP c2 n s f m)) ∧ ∀ s f m, 0 ≤ s → s < ns → 0 ≤ f → fitP c n s f m → owP c s f m = owP c2 s f m := by
  constructor
  · intro s f m s0 s1 f0
    have e1 : rmP c s = rmP c2 s := by unfold rmP; rw [(hs s s0 s1).1, (hs s s0 s1).2]
    constructor
    · intro ⟨a, b, d⟩
      exact ⟨a, b, by rw [← e1, ← sumF_congr (n := n) (fun k k1 k2 => (hb k (by omega) k2).2.1) b]; exact d⟩
    · intro ⟨a, b, d⟩
      exact ⟨a, b, by rw [e1, sumF_congr (n := n) (fun k k1 k2 => (hb k (by omega) k2).2.1) b]; exact d⟩
  · intro s f m s0 s1 f0 hf
    unfold owP
    rw [(hs s s0 s1).2, sumF_congr (w := pmP c s) (u := pmP c2 s) (n := n) (fun k k1 k2 => ?_) hf.2.1]
    have := hb k (by omega) k2
    unfold pmP
    rw [this.1, this.2.2]
theorem TblL.move {c c2 : CP} {ns n : Int} {L : Int → Int → Int} (hs : ∀ s, 0 ≤ s → s < ns → c.1 s = c2.1 s ∧ c.2.1 s = c2.2.1 s) (hb : ∀ b, 0 ≤ b → b < n → c.2.2.1 b = c2.2.2.1 b ∧ c.2.2.2.1 b = c2.2.2.2.1 b ∧ c.2.2.2.2 b = c2.2.2.2.2 b) (h : TblL c ns n L) : TblL c2 ns n L := by
  obtain ⟨g1, g2⟩ := CP_congr hs hb
  refine ⟨h.1, fun s s0 s1 f f0 f1 => ?_⟩
  obtain ⟨a1, m, a2, a3⟩ := h.2 s s0 s1 f f0 f1
  refine ⟨fun y hy => ?_, m, (g1 s f m s0 s1 f0).mp a2, ?_⟩
  · have hy2 := (g1 s f y s0 s1 f0).mpr hy
    rw [← g2 s f y s0 s1 f0 hy2]
    exact a1 y hy2
  · rw [← g2 s f m s0 s1 f0 a2]; exact a3
theorem IsCut.move {c c2 : CP} {ns n : Int} {L : Int → Int → Int} {tk : Int → Int} (hn : 0 ≤ n) (hs : ∀ s, 0 ≤ s → s < ns → c.1 s = c2.1 s ∧ c.2.1 s = c2.2.1 s) (hb : ∀ b, 0 ≤ b → b < n → c.2.2.1 b = c2.2.2.1 b ∧ c.2.2.2.1 b = c2.2.2.2.1 b ∧ c.2.2.2.2 b = c2.2.2.2.2 b) (h : IsCut c ns n L tk) : IsCut c2 ns n L tk := by
  obtain ⟨g1, g2⟩ := CP_congr hs hb
  intro s s0 s1
  have p := h.pos hn s s0 (by omega)
  obtain ⟨a1, a2, a3⟩ := h s s0 s1
  refine ⟨(g1 s _ _ s0 s1 p.1).mp a1, by rw [← g2 s _ _ s0 s1 p.1 a1]; exact a2, fun y hy hf => ?_⟩
  have hf2 := (g1 s _ y s0 s1 p.1).mpr hf
  rw [← g2 s _ y s0 s1 p.1 hf2]
  exact a3 y hy hf2

