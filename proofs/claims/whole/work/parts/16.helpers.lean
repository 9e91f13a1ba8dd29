/-- what holds between the calls: of the object's own cells -/
def InvC (σ : St) : Prop :=
  (0 ≤ σ 5 2 ∧ σ 5 2 ≤ 12) ∧ (∀ s, 0 ≤ s → s < σ 5 2 → 10 ≤ σ 55 s ∧ σ 55 s ≤ 200 ∧ 0 ≤ σ 56 s ∧ σ 56 s ≤ 2) ∧ (0 ≤ σ 2 1 ∧ σ 2 1 ≤ 8) ∧ (∀ g, 0 ≤ g → g < σ 2 1 → 0 ≤ σ 48 g ∧ σ 48 g ≤ 99) ∧ (0 ≤ σ 0 6 ∧ σ 0 6 ≤ 60) ∧ (∀ b, 0 ≤ b → b < σ 0 6 → 0 ≤ σ 8 b ∧ σ 8 b < σ 2 1 ∧ 1 ≤ σ 9 b ∧ σ 9 b ≤ 40 ∧ 0 ≤ σ 11 b ∧ σ 11 b < σ 5 2 ∧ 0 ≤ σ 10 b ∧ σ 10 b ≤ 1000) ∧ (40 ≤ σ 6 6 ∧ σ 6 6 ≤ 400) ∧ (0 ≤ σ 4 6 ∧ σ 4 6 ≤ σ 4 5 ∧ σ 4 5 ≤ 60 ∧ (σ 4 6 = σ 4 5 → σ 4 5 = 0)) ∧ (∀ k, 0 ≤ k → k < σ 4 5 → 0 ≤ σ 51 k ∧ σ 51 k < σ 0 6 ∧ σ 52 k = σ 9 (σ 51 k) ∧ 0 ≤ σ 54 k ∧ σ 54 k < σ 5 2) ∧ ∃ es, RepC σ es
theorem InvC.ns {σ : St} (h : InvC σ) : 0 ≤ σ 5 2 ∧ σ 5 2 ≤ 12 := h.1
theorem InvC.sh {σ : St} (h : InvC σ) : ∀ s, 0 ≤ s → s < σ 5 2 → 10 ≤ σ 55 s ∧ σ 55 s ≤ 200 ∧ 0 ≤ σ 56 s ∧ σ 56 s ≤ 2 := h.2.1
theorem InvC.ng {σ : St} (h : InvC σ) : 0 ≤ σ 2 1 ∧ σ 2 1 ≤ 8 := h.2.2.1
theorem InvC.gr {σ : St} (h : InvC σ) : ∀ g, 0 ≤ g → g < σ 2 1 → 0 ≤ σ 48 g ∧ σ 48 g ≤ 99 := h.2.2.2.1
theorem InvC.nb {σ : St} (h : InvC σ) : 0 ≤ σ 0 6 ∧ σ 0 6 ≤ 60 := h.2.2.2.2.1
theorem InvC.bk {σ : St} (h : InvC σ) : ∀ b, 0 ≤ b → b < σ 0 6 → 0 ≤ σ 8 b ∧ σ 8 b < σ 2 1 ∧ 1 ≤ σ 9 b ∧ σ 9 b ≤ 40 ∧ 0 ≤ σ 11 b ∧ σ 11 b < σ 5 2 ∧ 0 ≤ σ 10 b ∧ σ 10 b ≤ 1000 := h.2.2.2.2.2.1
theorem InvC.lm {σ : St} (h : InvC σ) : 40 ≤ σ 6 6 ∧ σ 6 6 ≤ 400 := h.2.2.2.2.2.2.1
theorem InvC.pl {σ : St} (h : InvC σ) : 0 ≤ σ 4 6 ∧ σ 4 6 ≤ σ 4 5 ∧ σ 4 5 ≤ 60 ∧ (σ 4 6 = σ 4 5 → σ 4 5 = 0) := h.2.2.2.2.2.2.2.1
theorem InvC.mv {σ : St} (h : InvC σ) : ∀ k, 0 ≤ k → k < σ 4 5 → 0 ≤ σ 51 k ∧ σ 51 k < σ 0 6 ∧ σ 52 k = σ 9 (σ 51 k) ∧ 0 ≤ σ 54 k ∧ σ 54 k < σ 5 2 := h.2.2.2.2.2.2.2.2.1
theorem InvC.lg {σ : St} (h : InvC σ) : ∃ es, RepC σ es := h.2.2.2.2.2.2.2.2.2
theorem InvC.pw {σ : St} (h : InvC σ) : ∀ k, 0 ≤ k → k < σ 4 5 → 0 ≤ σ 52 k ∧ σ 52 k ≤ 40 := by
  intro k k0 k1
  have a := h.mv k k0 k1
  have b := h.bk _ a.1 a.2.1
  rw [a.2.2.1]
  omega
def frC (σ τ : St) : Prop := ∀ k, k ≠ 1 → (k < 14 ∨ 47 < k) → τ k = σ k
/-- a plan is no more -/
def endP (σ : St) : St := put (put σ 4 5 0) 4 6 0
theorem IsFill.move {len kind span q len2 kind2 span2 : Int → Int} {kd ns n : Int} (hn : 0 ≤ n) (hs : ∀ s, 0 ≤ s → s < ns → len s = len2 s ∧ kind s = kind2 s) (hb : ∀ b, 0 ≤ b → b < n → span b = span2 b) (h : IsFill len kind span kd ns n q) : IsFill len2 kind2 span2 kd ns n q := by
  refine ⟨h.1, fun s s0 s1 => ?_⟩
  have a := h.2 s s0 s1
  have e := hs s s0 s1
  have p := h.bd hn s s0 (by omega)
  rw [e.1, e.2] at a
  exact ⟨fun c => (a.1 c).congr (fun x x1 x2 => hb x (by omega) x2), a.2⟩
def spanY (σ : St) (y : Int) : Int → Int := fun b => σ 9 b + y * σ 10 b
def cpY (σ : St) (y : Int) : CP := (σ 55, σ 56, σ 9, spanY σ y, σ 11)
theorem InvC.cp {σ : St} (h : InvC σ) {y : Int} (hy : 0 ≤ y ∧ y ≤ 999) : CPok (cpY σ y) (σ 5 2) (σ 0 6) := by
  refine ⟨h.ns, h.nb, fun s s0 s1 => ?_, fun b b0 b1 => ?_⟩
  · have := h.sh s s0 s1
    exact ⟨by show 0 ≤ σ 55 s; omega, this.2.1, this.2.2⟩
  · have a := h.bk b b0 b1
    have h1 : 0 ≤ y * σ 10 b := Int.mul_nonneg hy.1 a.2.2.2.2.2.2.1
    have h2 : y * σ 10 b ≤ 999 * 1000 := Int.le_trans (Int.mul_le_mul_of_nonneg_right hy.2 a.2.2.2.2.2.2.1) (Int.mul_le_mul_of_nonneg_left a.2.2.2.2.2.2.2 (by omega))
    have n1 := h.ns
    show 1 ≤ σ 9 b ∧ σ 9 b ≤ 40 ∧ 1 ≤ σ 9 b + y * σ 10 b ∧ σ 9 b + y * σ 10 b ≤ 1000000 ∧ -1 ≤ σ 11 b ∧ σ 11 b ≤ 12
    omega

set_option maxRecDepth 100000 in
set_option maxHeartbeats 4000000 in
theorem ct_X6_isWithin (σ : St) (v a b : Int) (hv : InR v) (ha : InR a) (hb : InR b) : Wp mX6_isWithin 0 (fun z τ => z = (if a ≤ v ∧ v ≤ b then 1 else 0) ∧ τ = σ) 0 [some (.inl v), some (.inl a), some (.inl b)] [] σ := by
  refine Wp.rg (fun hR => ?_)
  refine w_iload_n dX6_isWithin_0 rfl ?_
  refine w_iload_n dX6_isWithin_1 rfl ?_
  refine w_icmp_lt (tgt := 14) dX6_isWithin_2 (by decide) (by omega) (by omega) (fun c_2 => ?_) (fun c_2 => ?_)
  · refine w_iconst dX6_isWithin_14 ?_
    refine w_zret dX6_isWithin_15 rfl (by omega) ?_
    exact ⟨by first | rw [if_pos (by omega)] | rw [if_neg (by omega)], rfl⟩
  · refine w_iload_n dX6_isWithin_5 rfl ?_
    refine w_iload_n dX6_isWithin_6 rfl ?_
    refine w_icmp_gt (tgt := 14) dX6_isWithin_7 (by decide) (by omega) (by omega) (fun c_7 => ?_) (fun c_7 => ?_)
    · refine w_iconst dX6_isWithin_14 ?_
      refine w_zret dX6_isWithin_15 rfl (by omega) ?_
      exact ⟨by first | rw [if_pos (by omega)] | rw [if_neg (by omega)], rfl⟩
    · refine w_iconst dX6_isWithin_10 ?_
      refine w_goto (tgt := 15) dX6_isWithin_11 (by decide) ?_
      refine w_zret dX6_isWithin_15 rfl (by omega) ?_
      exact ⟨by first | rw [if_pos (by omega)] | rw [if_neg (by omega)], rfl⟩

set_option maxRecDepth 100000 in
set_option maxHeartbeats 4000000 in
theorem ct_X6_hasShelf (σ : St) (v : Int) (hv : InR v) : Wp mX6_hasShelf 0 (fun z τ => z = (if 0 ≤ v ∧ v < σ 5 2 then 1 else 0) ∧ τ = σ) 0 [some (.inr 6), some (.inl v)] [] σ := by
  refine Wp.rg (fun hR => ?_)
  refine w_iload_n dX6_hasShelf_0 rfl ?_
  refine w_if_lt (tgt := 19) dX6_hasShelf_1 (by decide) (by omega) (fun c_1 => ?_) (fun c_1 => ?_)
  · refine w_iconst dX6_hasShelf_19 ?_
    refine w_zret dX6_hasShelf_20 rfl (by omega) ?_
    exact ⟨by first | rw [if_pos (by omega)] | rw [if_neg (by omega)], rfl⟩
  · refine w_iload_n dX6_hasShelf_4 rfl ?_
    refine w_aload_n dX6_hasShelf_5 rfl ?_
    refine gf_X6_10 rfl dX6_hasShelf_6 ?_
    refine gf_X6_59 rfl dX6_hasShelf_9 ?_
    refine w_icmp_ge (tgt := 19) dX6_hasShelf_12 (by decide) hv (hR _ _) (fun c_12 => ?_) (fun c_12 => ?_)
    · refine w_iconst dX6_hasShelf_19 ?_
      refine w_zret dX6_hasShelf_20 rfl (by omega) ?_
      exact ⟨by first | rw [if_pos (by omega)] | rw [if_neg (by omega)], rfl⟩
    · refine w_iconst dX6_hasShelf_15 ?_
      refine w_goto (tgt := 20) dX6_hasShelf_16 (by decide) ?_
      refine w_zret dX6_hasShelf_20 rfl (by omega) ?_
      exact ⟨by first | rw [if_pos (by omega)] | rw [if_neg (by omega)], rfl⟩

set_option maxRecDepth 100000 in
set_option maxHeartbeats 4000000 in
theorem ct_X6_hasGroup (σ : St) (v : Int) (hv : InR v) : Wp mX6_hasGroup 0 (fun z τ => z = (if 0 ≤ v ∧ v < σ 2 1 then 1 else 0) ∧ τ = σ) 0 [some (.inr 6), some (.inl v)] [] σ := by
  refine Wp.rg (fun hR => ?_)
  refine w_iload_n dX6_hasGroup_0 rfl ?_
  refine w_if_lt (tgt := 19) dX6_hasGroup_1 (by decide) (by omega) (fun c_1 => ?_) (fun c_1 => ?_)
  · refine w_iconst dX6_hasGroup_19 ?_
    refine w_zret dX6_hasGroup_20 rfl (by omega) ?_
    exact ⟨by first | rw [if_pos (by omega)] | rw [if_neg (by omega)], rfl⟩
  · refine w_iload_n dX6_hasGroup_4 rfl ?_
    refine w_aload_n dX6_hasGroup_5 rfl ?_
    refine gf_X6_19 rfl dX6_hasGroup_6 ?_
    refine gf_X6_77 rfl dX6_hasGroup_9 ?_
    refine w_icmp_ge (tgt := 19) dX6_hasGroup_12 (by decide) hv (hR _ _) (fun c_12 => ?_) (fun c_12 => ?_)
    · refine w_iconst dX6_hasGroup_19 ?_
      refine w_zret dX6_hasGroup_20 rfl (by omega) ?_
      exact ⟨by first | rw [if_pos (by omega)] | rw [if_neg (by omega)], rfl⟩
    · refine w_iconst dX6_hasGroup_15 ?_
      refine w_goto (tgt := 20) dX6_hasGroup_16 (by decide) ?_
      refine w_zret dX6_hasGroup_20 rfl (by omega) ?_
      exact ⟨by first | rw [if_pos (by omega)] | rw [if_neg (by omega)], rfl⟩

set_option maxRecDepth 100000 in
set_option maxHeartbeats 4000000 in
theorem ct_X6_hasBook (σ : St) (v : Int) (hv : InR v) : Wp mX6_hasBook 0 (fun z τ => z = (if 0 ≤ v ∧ v < σ 0 6 then 1 else 0) ∧ τ = σ) 0 [some (.inr 6), some (.inl v)] [] σ := by
  refine Wp.rg (fun hR => ?_)
  refine w_iload_n dX6_hasBook_0 rfl ?_
  refine w_if_lt (tgt := 19) dX6_hasBook_1 (by decide) (by omega) (fun c_1 => ?_) (fun c_1 => ?_)
  · refine w_iconst dX6_hasBook_19 ?_
    refine w_zret dX6_hasBook_20 rfl (by omega) ?_
    exact ⟨by first | rw [if_pos (by omega)] | rw [if_neg (by omega)], rfl⟩
  · refine w_iload_n dX6_hasBook_4 rfl ?_
    refine w_aload_n dX6_hasBook_5 rfl ?_
    refine gf_X6_26 rfl dX6_hasBook_6 ?_
    refine gf_X6_91 rfl dX6_hasBook_9 ?_
    refine w_icmp_ge (tgt := 19) dX6_hasBook_12 (by decide) hv (hR _ _) (fun c_12 => ?_) (fun c_12 => ?_)
    · refine w_iconst dX6_hasBook_19 ?_
      refine w_zret dX6_hasBook_20 rfl (by omega) ?_
      exact ⟨by first | rw [if_pos (by omega)] | rw [if_neg (by omega)], rfl⟩
    · refine w_iconst dX6_hasBook_15 ?_
      refine w_goto (tgt := 20) dX6_hasBook_16 (by decide) ?_
      refine w_zret dX6_hasBook_20 rfl (by omega) ?_
      exact ⟨by first | rw [if_pos (by omega)] | rw [if_neg (by omega)], rfl⟩

set_option maxRecDepth 100000 in
set_option maxHeartbeats 4000000 in
theorem ct_X6_roomOn (σ : St) (s : Int) (hI : InvC σ) (hs : 0 ≤ s ∧ s < σ 5 2) : Wp mX6_roomOn 2 (fun z τ => z = σ 55 s - sumW (σ 11) (σ 9) s (σ 0 6) ∧ τ = σ) 0 [some (.inr 6), some (.inl s)] [] σ := by
  refine Wp.rg (fun hR => ?_)
  refine w_aload_n dX6_roomOn_0 rfl ?_
  refine gf_X6_10 rfl dX6_roomOn_1 ?_
  refine gf_X6_168 rfl dX6_roomOn_4 ?_
  refine w_iload_n dX6_roomOn_7 rfl ?_
  refine w_iald rfl (by have := hI.ns; omega) dX6_roomOn_8 ?_
  refine w_aload_n dX6_roomOn_9 rfl ?_
  refine gf_X6_26 rfl dX6_roomOn_10 ?_
  refine w_iload_n dX6_roomOn_13 rfl ?_
  refine cv_X6_171 rfl dX6_roomOn_14 (Nat.le_of_ble_eq_true rfl) (Nat.le_of_ble_eq_true rfl) (Wp.mono (ct_X0_loadOn σ s hI.nb (by have := hI.ns; omega)) (fun z_ τ_ hq_ => ?_))
  obtain ⟨hz_, hs_⟩ := hq_
  subst z_
  subst τ_
  refine w_isub dX6_roomOn_17 ?_
  refine w_iret dX6_roomOn_18 rfl ?_
  exact ⟨rfl, rfl⟩

def yrF (len shf wid nd : Int → Int) (s n : Int) : Int := if 0 < sumW shf nd s n then (if (len s - sumW shf wid s n).tdiv (sumW shf nd s n) < 999 then (len s - sumW shf wid s n).tdiv (sumW shf nd s n) else 999) else 999
theorem tdiv_bd {a b : Int} (h : 0 < b) (ha : -1000000 ≤ a ∧ a ≤ 1000000) : -1000000 ≤ a.tdiv b ∧ a.tdiv b ≤ 1000000 := by
  rcases Int.le_total 0 a with h0 | h0
  · rw [Int.tdiv_eq_ediv_of_nonneg h0]
    have h1 := Int.ediv_nonneg h0 (Int.le_of_lt h)
    have h2 := Int.ediv_le_self b h0
    omega
  · have e : a.tdiv b = -((-a).tdiv b) := by rw [Int.neg_tdiv, Int.neg_neg]
    rw [e, Int.tdiv_eq_ediv_of_nonneg (by omega)]
    have h1 := Int.ediv_nonneg (a := -a) (by omega) (Int.le_of_lt h)
    have h2 := Int.ediv_le_self (a := -a) b (by omega)
    omega

set_option maxRecDepth 100000 in
set_option maxHeartbeats 4000000 in
theorem ct_X6_yearsOn (σ : St) (s : Int) (hI : InvC σ) (hs : 0 ≤ s ∧ s < σ 5 2) : Wp mX6_yearsOn 3 (fun z τ => z = yrF (σ 55) (σ 11) (σ 9) (σ 10) s (σ 0 6) ∧ τ = σ) 0 [some (.inr 6), some (.inl s), none] [] σ := by
  refine Wp.rg (fun hR => ?_)
  have hsb := hI.sh s hs.1 hs.2
  have hnb := hI.nb
  have hw := sumW_bd (σ 11) (σ 9) s (σ 0 6) 0 40 (by omega) (by omega) (fun b b0 b1 _ => by have := hI.bk b b0 b1; omega) (σ 0 6) hnb.1 (by omega)
  have hr := sumW_bd (σ 11) (σ 10) s (σ 0 6) 0 1000 (by omega) (by omega) (fun b b0 b1 _ => by have := hI.bk b b0 b1; omega) (σ 0 6) hnb.1 (by omega)
  have hns := hI.ns
  refine w_aload_n dX6_yearsOn_0 rfl ?_
  refine gf_X6_26 rfl dX6_yearsOn_1 ?_
  refine w_iload_n dX6_yearsOn_4 rfl ?_
  refine cv_X6_177 rfl dX6_yearsOn_5 (Nat.le_of_ble_eq_true rfl) (Nat.le_of_ble_eq_true rfl) (Wp.mono (ct_X0_rateOn σ s hI.nb (by omega)) (fun z_ τ_ hq_ => ?_))
  obtain ⟨hz_, hs_⟩ := hq_
  subst z_
  subst τ_
  refine w_istore_n dX6_yearsOn_8 (Nat.le_of_ble_eq_true rfl) ?_
  refine w_iload_n dX6_yearsOn_9 rfl ?_
  refine w_if_le (tgt := 29) dX6_yearsOn_10 (by decide) (by omega) (fun c_10 => ?_) (fun c_10 => ?_)
  · refine w_sipush dX6_yearsOn_29 (by decide) ?_
    refine w_iret dX6_yearsOn_32 rfl ?_
    refine ⟨?_, rfl⟩
    unfold yrF
    first | rw [if_pos c_10] | rw [if_neg (Int.not_lt.mpr c_10)]
  · refine w_sipush dX6_yearsOn_13 (by decide) ?_
    refine w_aload_n dX6_yearsOn_16 rfl ?_
    refine w_iload_n dX6_yearsOn_17 rfl ?_
    refine cv_X6_174 rfl dX6_yearsOn_18 (Nat.le_of_ble_eq_true rfl) (Nat.le_of_ble_eq_true rfl) (Wp.mono (ct_X6_roomOn σ s hI hs) (fun z_ τ_ hq_ => ?_))
    obtain ⟨hz_, hs_⟩ := hq_
    subst z_
    subst τ_
    refine w_iload_n dX6_yearsOn_21 rfl ?_
    refine w_idiv dX6_yearsOn_22 (by omega) (by omega) c_10 ?_
    refine w_min dX6_yearsOn_23 tw_496 tw_413 tw_69 tw_414 (Nat.le_of_ble_eq_true rfl) (Nat.le_of_ble_eq_true rfl) (by omega) (by have := tdiv_bd c_10 (a := σ 55 s - sumW (σ 11) (σ 9) s (σ 0 6)) (by omega); omega) ?_
    refine w_goto (tgt := 32) dX6_yearsOn_26 (by decide) ?_
    refine w_iret dX6_yearsOn_32 rfl ?_
    refine ⟨?_, rfl⟩
    unfold yrF
    first | rw [if_pos c_10] | rw [if_neg (Int.not_lt.mpr c_10)]

theorem CPok.move {c c2 : CP} {ns n : Int} (h : CPok c ns n) (hs : ∀ s, 0 ≤ s → s < ns → c2.1 s = c.1 s ∧ c2.2.1 s = c.2.1 s) (hb : ∀ b, 0 ≤ b → b < n → c2.2.2.1 b = c.2.2.1 b ∧ c2.2.2.2.1 b = c.2.2.2.1 b ∧ c2.2.2.2.2 b = c.2.2.2.2 b) : CPok c2 ns n := by
  refine ⟨h.1, h.2.1, fun s s0 s1 => ?_, fun b b0 b1 => ?_⟩
  · rw [(hs s s0 s1).1, (hs s s0 s1).2]; exact h.2.2.1 s s0 s1
  · rw [(hb b b0 b1).1, (hb b b0 b1).2.1, (hb b b0 b1).2.2]; exact h.2.2.2 b b0 b1

set_option maxRecDepth 100000 in
set_option maxHeartbeats 4000000 in
theorem ct_X6_hasCuts (σ : St) (y : Int) (hI : InvC σ) (hy : InR y) : Wp mX6_hasCuts 3 (fun z τ => (¬ (0 ≤ y ∧ y ≤ 999) → z = 0) ∧ ((0 ≤ y ∧ y ≤ 999) → ∃ L, TblL (cpY σ y) (σ 5 2) (σ 0 6) L ∧ L 0 0 = τ 1 11 ∧ ((z = 1 ∧ L 0 0 < 1000000000 ∧ IsCut (cpY σ y) (σ 5 2) (σ 0 6) L (τ 15) ∧ GoIs (τ 15) (τ 14) (σ 5 2)) ∨ (z = 0 ∧ 1000000000 ≤ L 0 0))) ∧ frC σ τ) 0 [some (.inr 6), some (.inl y)] [] σ := by
  refine Wp.rg (fun hR => ?_)
  refine w_iload_n dX6_hasCuts_0 rfl ?_
  refine w_iconst dX6_hasCuts_1 ?_
  refine w_sipush dX6_hasCuts_2 (by decide) ?_
  refine cv_X6_55 rfl dX6_hasCuts_5 (Nat.le_of_ble_eq_true rfl) (Nat.le_of_ble_eq_true rfl) (Wp.mono (ct_X6_isWithin σ y 0 999 hy (by omega) (by omega)) (fun z_ τ_ hq_ => ?_))
  obtain ⟨hz_, hs_⟩ := hq_
  subst z_
  subst τ_
  refine w_if_ne (tgt := 13) dX6_hasCuts_8 (by decide) (by split <;> omega) (fun c_8 => ?_) (fun c_8 => ?_)
  · have hyy : 0 ≤ y ∧ y ≤ 999 := by
      by_cases q : 0 ≤ y ∧ y ≤ 999
      · exact q
      · rw [if_neg q] at c_8; exact absurd rfl c_8
    refine w_aload_n dX6_hasCuts_13 rfl ?_
    refine gf_X6_33 rfl dX6_hasCuts_14 ?_
    refine w_aload_n dX6_hasCuts_17 rfl ?_
    refine gf_X6_10 rfl dX6_hasCuts_18 ?_
    refine w_aload_n dX6_hasCuts_21 rfl ?_
    refine gf_X6_26 rfl dX6_hasCuts_22 ?_
    refine w_iload_n dX6_hasCuts_25 rfl ?_
    refine cv_X6_95 rfl dX6_hasCuts_26 (Nat.le_of_ble_eq_true rfl) (Nat.le_of_ble_eq_true rfl) (Wp.mono (ct_X1_load σ y hI.ns hI.nb hyy (fun b b0 b1 => by have := hI.bk b b0 b1; omega) (fun b b0 b1 => by have := hI.bk b b0 b1; omega)) (fun z_ τ_ hq_ => ?_))
    obtain ⟨f1, f2, f3, f4, f5, f6⟩ := hq_
    have hcv : (∀ s, 0 ≤ s → s < σ 5 2 → (τ_ 16, τ_ 17, τ_ 18, τ_ 19, τ_ 20).1 s = (cpY σ y).1 s ∧ (τ_ 16, τ_ 17, τ_ 18, τ_ 19, τ_ 20).2.1 s = (cpY σ y).2.1 s) := fun s s0 s1 => f4 s s0 s1
    have hbv : (∀ b, 0 ≤ b → b < σ 0 6 → (τ_ 16, τ_ 17, τ_ 18, τ_ 19, τ_ 20).2.2.1 b = (cpY σ y).2.2.1 b ∧ (τ_ 16, τ_ 17, τ_ 18, τ_ 19, τ_ 20).2.2.2.1 b = (cpY σ y).2.2.2.1 b ∧ (τ_ 16, τ_ 17, τ_ 18, τ_ 19, τ_ 20).2.2.2.2 b = (cpY σ y).2.2.2.2 b) := fun b b0 b1 => f5 b b0 b1
    refine w_aload_n dX6_hasCuts_29 rfl ?_
    refine gf_X6_33 rfl dX6_hasCuts_30 ?_
    refine cv_X6_102 rfl dX6_hasCuts_33 (Nat.le_of_ble_eq_true rfl) (Nat.le_of_ble_eq_true rfl) (Wp.mono (ct_X1_findCuts _ (by rw [f1, f2]; exact (hI.cp hyy).move hcv hbv)) (fun z_ τ_ hq_ => ?_))
    obtain ⟨L, g1, g2, g3, g4, g5⟩ := hq_
    rw [f1, f2] at g1 g3
    refine w_zret dX6_hasCuts_36 rfl (by omega) ?_
    refine ⟨fun q => absurd hyy q, fun _ => ⟨L, g1.move hcv hbv, g2, ?_⟩, fun k k1 k2 => ?_⟩
    · rcases g3 with ⟨a1, a2, a3, a4⟩ | a
      · exact Or.inl ⟨a1, a2, a3.move hI.nb.1 hcv hbv, a4⟩
      · exact Or.inr a
    · rw [g5 k k1 (by omega) (by omega) (by omega)]; exact f6 k k1 (by omega) (by omega) (by omega) (by omega) (by omega)
  · refine w_iconst dX6_hasCuts_11 ?_
    refine w_zret dX6_hasCuts_12 rfl (by omega) ?_
    refine ⟨fun _ => rfl, fun q => ?_, fun k _ _ => rfl⟩
    rw [if_pos q] at c_8
    exact absurd c_8 (by decide)

set_option maxRecDepth 100000 in
set_option maxHeartbeats 4000000 in
theorem ct_X6_isRoomFor (σ : St) (y kd : Int) (hI : InvC σ) (hyy : 0 ≤ y ∧ y ≤ 999) (hk : InR kd) : Wp mX6_isRoomFor 2 (fun z τ => (∃ q, IsFill (σ 55) (σ 56) (spanY σ y) kd (σ 5 2) (σ 0 6) q ∧ z = if q (σ 5 2) = σ 0 6 then 1 else 0) ∧ frC σ τ) 0 [some (.inr 6), some (.inl y), some (.inl kd)] [] σ := by
  refine Wp.rg (fun hR => ?_)
  refine w_aload_n dX6_isRoomFor_0 rfl ?_
  refine gf_X6_33 rfl dX6_isRoomFor_1 ?_
  refine w_aload_n dX6_isRoomFor_4 rfl ?_
  refine gf_X6_10 rfl dX6_isRoomFor_5 ?_
  refine w_aload_n dX6_isRoomFor_8 rfl ?_
  refine gf_X6_26 rfl dX6_isRoomFor_9 ?_
  refine w_iload_n dX6_isRoomFor_12 rfl ?_
  refine cv_X6_95 rfl dX6_isRoomFor_13 (Nat.le_of_ble_eq_true rfl) (Nat.le_of_ble_eq_true rfl) (Wp.mono (ct_X1_load σ y hI.ns hI.nb hyy (fun b b0 b1 => by have := hI.bk b b0 b1; omega) (fun b b0 b1 => by have := hI.bk b b0 b1; omega)) (fun z_ τ_ hq_ => ?_))
  obtain ⟨f1, f2, f3, f4, f5, f6⟩ := hq_
  have hcp := hI.cp hyy
  refine w_aload_n dX6_isRoomFor_16 rfl ?_
  refine gf_X6_33 rfl dX6_isRoomFor_17 ?_
  refine w_iload_n dX6_isRoomFor_20 rfl ?_
  refine cv_X6_235 rfl dX6_isRoomFor_21 (Nat.le_of_ble_eq_true rfl) (Nat.le_of_ble_eq_true rfl) (Wp.mono (ct_X1_shelvesFilled _ kd hk (by rw [f1]; exact hI.ns) (by rw [f2]; exact hI.nb) (fun s s0 s1 => by rw [f1] at s1; rw [(f4 s s0 s1).1]; have := hI.sh s s0 s1; omega) (fun b b0 b1 => by rw [f2] at b1; rw [(f5 b b0 b1).2.1]; have := (hcp.2.2.2 b b0 b1).2.2.1; unfold cpY spanY at this; dsimp only at this; omega)) (fun z_ τ_ hq_ => ?_))
  obtain ⟨⟨q, g1, g2⟩, hs_⟩ := hq_
  subst τ_
  rw [f1, f2] at g1 g2
  have g3 := g1.move (len2 := σ 55) (kind2 := σ 56) (span2 := spanY σ y) hI.nb.1 f4 (fun b b0 b1 => (f5 b b0 b1).2.1)
  refine w_iconst dX6_isRoomFor_24 ?_
  refine w_icmp_eq (tgt := 32) dX6_isRoomFor_25 (by decide) (by have := hI.ns; omega) (by omega) (fun c_25 => ?_) (fun c_25 => ?_)
  · refine w_iconst dX6_isRoomFor_32 ?_
    refine w_zret dX6_isRoomFor_33 rfl (by omega) ?_
    refine ⟨⟨q, g3, ?_⟩, fun k k1 k2 => f6 k k1 (by omega) (by omega) (by omega) (by omega) (by omega)⟩
    first | rw [if_pos (by omega)] | rw [if_neg (by omega)]
  · refine w_iconst dX6_isRoomFor_28 ?_
    refine w_goto (tgt := 33) dX6_isRoomFor_29 (by decide) ?_
    refine w_zret dX6_isRoomFor_33 rfl (by omega) ?_
    refine ⟨⟨q, g3, ?_⟩, fun k k1 k2 => f6 k k1 (by omega) (by omega) (by omega) (by omega) (by omega)⟩
    first | rw [if_pos (by omega)] | rw [if_neg (by omega)]

