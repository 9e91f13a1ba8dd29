def PR (κ μ : St) : Prop := (μ 7 21 = 0 ∧ κ 4 5 = 0 ∧ κ 4 6 = 0) ∨ (μ 7 21 = 1 ∧ 0 ≤ κ 4 6 ∧ κ 4 6 < κ 4 5 ∧ κ 4 5 ≤ 60 ∧ μ 7 22 = κ 4 7 ∧ μ 7 23 = κ 4 5 ∧ μ 7 24 = κ 4 6 ∧ (∀ k, 0 ≤ k → k < κ 4 5 → 0 ≤ κ 51 k ∧ κ 51 k < κ 0 6 ∧ κ 52 k = κ 9 (κ 51 k) ∧ 0 ≤ κ 54 k ∧ κ 54 k < κ 5 2 ∧ μ 71 k = κ 51 k ∧ μ 72 k = κ 53 k ∧ μ 73 k = κ 54 k) ∧ (∀ b, 0 ≤ b → b < κ 0 6 → μ 74 b = κ 50 b) ∧ (∀ k, κ 4 6 ≤ k → k < κ 4 5 → κ 53 k = κ 11 (κ 51 k)) ∧ ∀ i j, 0 ≤ i → i < κ 4 5 → 0 ≤ j → j < κ 4 5 → κ 51 i = κ 51 j → i = j)

def RelS (κ μ : St) : Prop := (0 ≤ κ 5 2 ∧ κ 5 2 ≤ 12) ∧ (∀ s, 0 ≤ s → s < κ 5 2 → 10 ≤ κ 55 s ∧ κ 55 s ≤ 200 ∧ 0 ≤ κ 56 s ∧ κ 56 s ≤ 2 ∧ μ 57 s = κ 55 s ∧ μ 58 s = κ 56 s) ∧ (0 ≤ κ 2 1 ∧ κ 2 1 ≤ 8) ∧ (∀ g, 0 ≤ g → g < κ 2 1 → 0 ≤ κ 48 g ∧ κ 48 g ≤ 99 ∧ μ 59 g = κ 48 g) ∧ (0 ≤ κ 0 6 ∧ κ 0 6 ≤ 60) ∧ (∀ b, 0 ≤ b → b < κ 0 6 → 0 ≤ κ 8 b ∧ κ 8 b < κ 2 1 ∧ 1 ≤ κ 9 b ∧ κ 9 b ≤ 40 ∧ 0 ≤ κ 11 b ∧ κ 11 b < κ 5 2 ∧ μ 60 b = κ 8 b ∧ μ 61 b = κ 9 b ∧ μ 62 b = κ 11 b ∧ μ 63 b = κ 12 b) ∧ (∀ b, 0 ≤ b → b < κ 0 6 → κ 10 b = ndS (κ 8) (κ 9) (κ 0 6) (κ 8 b) (κ 48 (κ 8 b)) b) ∧ (40 ≤ κ 6 6 ∧ κ 6 6 ≤ 400) ∧ (μ 7 1 = κ 5 2 ∧ μ 7 4 = κ 2 1 ∧ μ 7 6 = κ 0 6 ∧ μ 7 11 = κ 0 7 ∧ μ 7 12 = κ 6 6) ∧ (PR κ μ) ∧ (∃ es, RepC κ es ∧ RepM μ es)
theorem RelS.ns {κ μ : St} (h : RelS κ μ) : 0 ≤ κ 5 2 ∧ κ 5 2 ≤ 12 := h.1
theorem RelS.sh {κ μ : St} (h : RelS κ μ) : ∀ s, 0 ≤ s → s < κ 5 2 → 10 ≤ κ 55 s ∧ κ 55 s ≤ 200 ∧ 0 ≤ κ 56 s ∧ κ 56 s ≤ 2 ∧ μ 57 s = κ 55 s ∧ μ 58 s = κ 56 s := h.2.1
theorem RelS.ng {κ μ : St} (h : RelS κ μ) : 0 ≤ κ 2 1 ∧ κ 2 1 ≤ 8 := h.2.2.1
theorem RelS.gr {κ μ : St} (h : RelS κ μ) : ∀ g, 0 ≤ g → g < κ 2 1 → 0 ≤ κ 48 g ∧ κ 48 g ≤ 99 ∧ μ 59 g = κ 48 g := h.2.2.2.1
theorem RelS.nb {κ μ : St} (h : RelS κ μ) : 0 ≤ κ 0 6 ∧ κ 0 6 ≤ 60 := h.2.2.2.2.1
theorem RelS.bk {κ μ : St} (h : RelS κ μ) : ∀ b, 0 ≤ b → b < κ 0 6 → 0 ≤ κ 8 b ∧ κ 8 b < κ 2 1 ∧ 1 ≤ κ 9 b ∧ κ 9 b ≤ 40 ∧ 0 ≤ κ 11 b ∧ κ 11 b < κ 5 2 ∧ μ 60 b = κ 8 b ∧ μ 61 b = κ 9 b ∧ μ 62 b = κ 11 b ∧ μ 63 b = κ 12 b := h.2.2.2.2.2.1
theorem RelS.ne {κ μ : St} (h : RelS κ μ) : ∀ b, 0 ≤ b → b < κ 0 6 → κ 10 b = ndS (κ 8) (κ 9) (κ 0 6) (κ 8 b) (κ 48 (κ 8 b)) b := h.2.2.2.2.2.2.1
theorem RelS.lm {κ μ : St} (h : RelS κ μ) : 40 ≤ κ 6 6 ∧ κ 6 6 ≤ 400 := h.2.2.2.2.2.2.2.1
theorem RelS.eq {κ μ : St} (h : RelS κ μ) : μ 7 1 = κ 5 2 ∧ μ 7 4 = κ 2 1 ∧ μ 7 6 = κ 0 6 ∧ μ 7 11 = κ 0 7 ∧ μ 7 12 = κ 6 6 := h.2.2.2.2.2.2.2.2.1
theorem RelS.pr {κ μ : St} (h : RelS κ μ) : PR κ μ := h.2.2.2.2.2.2.2.2.2.1
theorem RelS.lg {κ μ : St} (h : RelS κ μ) : ∃ es, RepC κ es ∧ RepM μ es := h.2.2.2.2.2.2.2.2.2.2
def cEq (κ κ2 : St) : Prop := ∀ k, k ≠ 1 → k ≠ 7 → (k < 13 ∨ 47 < k) → k < 57 → κ2 k = κ k
def mEq (μ μ2 : St) : Prop := (∀ k, 56 < k → (k < 65 ∨ 70 < k) → μ2 k = μ k) ∧ ∀ j, j ≠ 0 → μ2 7 j = μ 7 j
theorem RelS.fc {κ κ2 μ : St} (h : RelS κ μ) (f : cEq κ κ2) : RelS κ2 μ := by
  have e0 := f 0 (by decide) (by decide) (by omega) (by decide)
  have e2 := f 2 (by decide) (by decide) (by omega) (by decide)
  have e3 := f 3 (by decide) (by decide) (by omega) (by decide)
  have e4 := f 4 (by decide) (by decide) (by omega) (by decide)
  have e5 := f 5 (by decide) (by decide) (by omega) (by decide)
  have e6 := f 6 (by decide) (by decide) (by omega) (by decide)
  have e8 := f 8 (by decide) (by decide) (by omega) (by decide)
  have e9 := f 9 (by decide) (by decide) (by omega) (by decide)
  have e10 := f 10 (by decide) (by decide) (by omega) (by decide)
  have e11 := f 11 (by decide) (by decide) (by omega) (by decide)
  have e12 := f 12 (by decide) (by decide) (by omega) (by decide)
  have e48 := f 48 (by decide) (by decide) (by omega) (by decide)
  have e49 := f 49 (by decide) (by decide) (by omega) (by decide)
  have e50 := f 50 (by decide) (by decide) (by omega) (by decide)
  have e51 := f 51 (by decide) (by decide) (by omega) (by decide)
  have e52 := f 52 (by decide) (by decide) (by omega) (by decide)
  have e53 := f 53 (by decide) (by decide) (by omega) (by decide)
  have e54 := f 54 (by decide) (by decide) (by omega) (by decide)
  have e55 := f 55 (by decide) (by decide) (by omega) (by decide)
  have e56 := f 56 (by decide) (by decide) (by omega) (by decide)
  have hl : ∀ es, RepC κ es → RepC κ2 es := fun es he => he.keep e3 e49
  unfold RelS PR at h ⊢
  rw [e0, e2, e4, e5, e6, e8, e9, e10, e11, e12, e48, e50, e51, e52, e53, e54, e55, e56]
  obtain ⟨h1, h2, h3, h4, h5, h6, h7, h8, h9, h10, es, h11, h12⟩ := h
  exact ⟨h1, h2, h3, h4, h5, h6, h7, h8, h9, h10, es, hl es h11, h12⟩
/-- as far as it is read -/
def mEqW (n : Int) (μ μ2 : St) : Prop := (∀ k, 56 < k → (k < 60 ∨ k = 64 ∨ 70 < k) → μ2 k = μ k) ∧ (∀ j, j ≠ 0 → μ2 7 j = μ 7 j) ∧ ∀ b, 0 ≤ b → b < n → μ2 60 b = μ 60 b ∧ μ2 61 b = μ 61 b ∧ μ2 62 b = μ 62 b ∧ μ2 63 b = μ 63 b
theorem mEq.w {μ μ2 : St} (h : mEq μ μ2) (n : Int) : mEqW n μ μ2 := ⟨fun k k1 k2 => h.1 k k1 (by omega), h.2, fun b _ _ => ⟨by rw [h.1 60 (by decide) (by omega)], by rw [h.1 61 (by decide) (by omega)], by rw [h.1 62 (by decide) (by omega)], by rw [h.1 63 (by decide) (by omega)]⟩⟩
theorem mEqW.trans {n : Int} {a b c : St} (h : mEqW n a b) (k : mEqW n b c) : mEqW n a c := ⟨fun j j1 j2 => (k.1 j j1 j2).trans (h.1 j j1 j2), fun j j0 => (k.2.1 j j0).trans (h.2.1 j j0), fun x x0 x1 => ⟨(k.2.2 x x0 x1).1.trans (h.2.2 x x0 x1).1, (k.2.2 x x0 x1).2.1.trans (h.2.2 x x0 x1).2.1, (k.2.2 x x0 x1).2.2.1.trans (h.2.2 x x0 x1).2.2.1, (k.2.2 x x0 x1).2.2.2.trans (h.2.2 x x0 x1).2.2.2⟩⟩
theorem RelS.fm {κ μ μ2 : St} (h : RelS κ μ) (f : mEqW (κ 0 6) μ μ2) : RelS κ μ2 := by
  obtain ⟨f1, f2, f3⟩ := f
  have e57 := f1 57 (by decide) (by omega)
  have e58 := f1 58 (by decide) (by omega)
  have e59 := f1 59 (by decide) (by omega)
  have e64 := f1 64 (by decide) (by omega)
  have e71 := f1 71 (by decide) (by omega)
  have e72 := f1 72 (by decide) (by omega)
  have e73 := f1 73 (by decide) (by omega)
  have e74 := f1 74 (by decide) (by omega)
  have hl : ∀ es, RepM μ es → RepM μ2 es := fun es he => he.keep (f2 14 (by decide)) e64
  unfold RelS PR at h ⊢
  rw [e57, e58, e59, e71, e72, e73, e74, f2 1 (by decide), f2 4 (by decide), f2 6 (by decide), f2 11 (by decide), f2 12 (by decide), f2 21 (by decide), f2 22 (by decide), f2 23 (by decide), f2 24 (by decide)]
  obtain ⟨h1, h2, h3, h4, h5, h6, h7, h8, h9, h10, es, h11, h12⟩ := h
  refine ⟨h1, h2, h3, h4, h5, fun b b0 b1 => ?_, h7, h8, h9, h10, es, h11, hl es h12⟩
  have r := f3 b b0 b1
  rw [r.1, r.2.1, r.2.2.1, r.2.2.2]
  exact h6 b b0 b1
theorem RelS.c {κ μ : St} (h : RelS κ μ) : InvC κ := by
  have hbk := h.bk
  have hnb := h.nb
  refine ⟨h.ns, fun s s0 s1 => ?_, h.ng, fun g g0 g1 => ?_, h.nb, fun b b0 b1 => ?_, h.lm, ?_, fun k k0 k1 => ?_, ?_⟩
  · have := h.sh s s0 s1; exact ⟨this.1, this.2.1, this.2.2.1, this.2.2.2.1⟩
  · have := h.gr g g0 g1; exact ⟨this.1, this.2.1⟩
  · have a := hbk b b0 b1
    have g := h.gr (κ 8 b) a.1 a.2.1
    have n := nd_bd (grp := κ 8) (wid := κ 9) (n := κ 0 6) (g := κ 8 b) (G := κ 48 (κ 8 b)) hnb ⟨g.1, g.2.1⟩ (fun x x0 x1 => ⟨(hbk x x0 x1).2.2.1, (hbk x x0 x1).2.2.2.1⟩) b0 b1 rfl
    rw [← h.ne b b0 b1] at n
    exact ⟨a.1, a.2.1, a.2.2.1, a.2.2.2.1, a.2.2.2.2.1, a.2.2.2.2.2.1, n.1, n.2⟩
  · rcases h.pr with p | p
    · omega
    · exact ⟨p.2.1, by omega, p.2.2.2.1, fun q => by omega⟩
  · rcases h.pr with p | p
    · omega
    · have r := p.2.2.2.2.2.2.2.1 k k0 k1
      exact ⟨r.1, r.2.1, r.2.2.1, r.2.2.2.1, r.2.2.2.2.1⟩
  · obtain ⟨es, he, -⟩ := h.lg
    exact ⟨es, he⟩
theorem RelS.w {κ μ : St} (h : RelS κ μ) : InvW μ := by
  obtain ⟨q1, q4, q6, q11, q12⟩ := h.eq
  refine ⟨by rw [q1]; exact h.ns, fun s s0 s1 => ?_, by rw [q4]; exact h.ng, fun g g0 g1 => ?_, by rw [q6]; exact h.nb, fun b b0 b1 => ?_⟩
  · have r := h.sh s s0 (by omega); omega
  · have r := h.gr g g0 (by omega); omega
  · have r := h.bk b b0 (by omega); omega
theorem RelS.m {κ μ : St} (h : RelS κ μ) : InvM μ := by
  obtain ⟨q1, q4, q6, q11, q12⟩ := h.eq
  refine ⟨h.w, fun b b0 b1 => ?_, by rw [q12]; exact h.lm, ?_, ?_, ?_⟩
  · have r := h.bk b b0 (by omega); omega
  · rcases h.pr with p | p
    · exact Or.inl p.1
    · exact Or.inr p.1
  · intro hp
    rcases h.pr with p | p
    · omega
    · refine ⟨by omega, fun k k0 k1 => ?_⟩
      have r := p.2.2.2.2.2.2.2.1 k k0 (by omega)
      omega
  · obtain ⟨es, -, he⟩ := h.lg
    exact ⟨es, he⟩
theorem RelS.nd {κ μ : St} (h : RelS κ μ) {b : Int} (b0 : 0 ≤ b) (b1 : b < κ 0 6) : ndM μ b = κ 10 b := by
  obtain ⟨q1, q4, q6, q11, q12⟩ := h.eq
  have a := h.bk b b0 b1
  have g := h.gr (κ 8 b) a.1 a.2.1
  unfold ndM
  rw [h.ne b b0 b1, a.2.2.2.2.2.2.1, g.2.2, q6]
  exact ndS_congr h.nb.1 (fun x x0 x1 => ⟨(h.bk x x0 x1).2.2.2.2.2.2.1, (h.bk x x0 x1).2.2.2.2.2.2.2.1⟩) b0 b1
theorem RelS.sp {κ μ : St} (h : RelS κ μ) (y : Int) {b : Int} (b0 : 0 ≤ b) (b1 : b < κ 0 6) : spM μ y b = spanY κ y b := by
  unfold spM spanY
  rw [h.nd b0 b1, (h.bk b b0 b1).2.2.2.2.2.2.2.1]
theorem RelS.cp1 {κ μ : St} (h : RelS κ μ) (y : Int) : (∀ s, 0 ≤ s → s < κ 5 2 → (cpM μ y).1 s = (cpY κ y).1 s ∧ (cpM μ y).2.1 s = (cpY κ y).2.1 s) ∧ (∀ b, 0 ≤ b → b < κ 0 6 → (cpM μ y).2.2.1 b = (cpY κ y).2.2.1 b ∧ (cpM μ y).2.2.2.1 b = (cpY κ y).2.2.2.1 b ∧ (cpM μ y).2.2.2.2 b = (cpY κ y).2.2.2.2 b) :=
  ⟨fun s s0 s1 => ⟨(h.sh s s0 s1).2.2.2.2.1, (h.sh s s0 s1).2.2.2.2.2⟩, fun b b0 b1 => ⟨(h.bk b b0 b1).2.2.2.2.2.2.2.1, h.sp y b0 b1, (h.bk b b0 b1).2.2.2.2.2.2.2.2.1⟩⟩
theorem RelS.fit {κ μ : St} (h : RelS κ μ) (kd y : Int) : FitM μ kd y ↔ FitY κ kd y := by
  obtain ⟨q1, q4, q6, q11, q12⟩ := h.eq
  unfold FitM FitY
  rw [q1, q6]
  constructor
  · rintro ⟨q, a, b⟩
    exact ⟨q, a.move h.nb.1 (fun s s0 s1 => ⟨(h.sh s s0 s1).2.2.2.2.1, (h.sh s s0 s1).2.2.2.2.2⟩) (fun b b0 b1 => h.sp y b0 b1), b⟩
  · rintro ⟨q, a, b⟩
    exact ⟨q, a.move h.nb.1 (fun s s0 s1 => ⟨(h.sh s s0 s1).2.2.2.2.1.symm, (h.sh s s0 s1).2.2.2.2.2.symm⟩) (fun b b0 b1 => (h.sp y b0 b1).symm), b⟩
theorem RelS.fitK {κ μ : St} (h : RelS κ μ) {p : Int} (w j : Int) (hp : 0 ≤ p ∧ p ≤ κ 0 6) (hj : 0 ≤ j) : FitMK μ p w j ↔ FitK κ p w j := by
  obtain ⟨q1, q4, q6, q11, q12⟩ := h.eq
  have hnb := h.nb
  have key : ∀ x, 0 ≤ x → x < κ 0 6 + j → insK (μ 61) p w j x = insK (κ 9) p w j x := by
    intro x x0 x1
    unfold insK
    by_cases e : x < p
    · rw [if_pos e, if_pos e]
      exact (h.bk x x0 (by omega)).2.2.2.2.2.2.2.1
    · rw [if_neg e, if_neg e]
      by_cases e2 : x < p + j
      · rw [if_pos e2, if_pos e2]
      · rw [if_neg e2, if_neg e2]
        exact (h.bk (x - j) (by omega) (by omega)).2.2.2.2.2.2.2.1
  unfold FitMK FitK
  rw [q1, q6]
  constructor
  · rintro ⟨q, a, b⟩
    exact ⟨q, a.move (by omega) (fun s s0 s1 => ⟨(h.sh s s0 s1).2.2.2.2.1, (h.sh s s0 s1).2.2.2.2.2⟩) key, b⟩
  · rintro ⟨q, a, b⟩
    exact ⟨q, a.move (by omega) (fun s s0 s1 => ⟨(h.sh s s0 s1).2.2.2.2.1.symm, (h.sh s s0 s1).2.2.2.2.2.symm⟩) (fun x x0 x1 => (key x x0 x1).symm), b⟩
theorem RelS.nb0 {κ μ : St} (h : RelS κ μ) : ∀ b, 0 ≤ b → b < κ 0 6 → μ 60 b = κ 8 b ∧ μ 61 b = κ 9 b ∧ μ 62 b = κ 11 b ∧ μ 63 b = κ 12 b := fun b b0 b1 => ⟨(h.bk b b0 b1).2.2.2.2.2.2.1, (h.bk b b0 b1).2.2.2.2.2.2.2.1, (h.bk b b0 b1).2.2.2.2.2.2.2.2.1, (h.bk b b0 b1).2.2.2.2.2.2.2.2.2⟩
/-- the widths of the plan's moves -/
theorem RelS.pw {κ μ : St} (h : RelS κ μ) (hd : κ 4 6 < κ 4 5) : μ 7 21 = 1 ∧ μ 7 22 = κ 4 7 ∧ μ 7 23 = κ 4 5 ∧ μ 7 24 = κ 4 6 ∧ 0 ≤ κ 4 6 ∧ κ 4 5 ≤ 60 ∧ (∀ k, 0 ≤ k → k < κ 4 5 → μ 71 k = κ 51 k ∧ μ 72 k = κ 53 k ∧ μ 73 k = κ 54 k ∧ μ 61 (μ 71 k) = κ 52 k) ∧ ∀ b, 0 ≤ b → b < κ 0 6 → μ 74 b = κ 50 b := by
  rcases h.pr with p | p
  · omega
  · obtain ⟨p1, p2, p3, p4, p5, p6, p7, p8, p9, p10, p11⟩ := p
    refine ⟨p1, p5, p6, p7, p2, p4, fun k k0 k1 => ?_, p9⟩
    have r := p8 k k0 k1
    refine ⟨r.2.2.2.2.2.1, r.2.2.2.2.2.2.1, r.2.2.2.2.2.2.2, ?_⟩
    rw [r.2.2.2.2.2.1, r.2.2.1]
    exact (h.bk (κ 51 k) r.1 r.2.1).2.2.2.2.2.2.2.1
theorem RelS.np {κ μ : St} (h : RelS κ μ) (hd : ¬ κ 4 6 < κ 4 5) : μ 7 21 = 0 ∧ κ 4 5 = 0 ∧ κ 4 6 = 0 := by
  rcases h.pr with p | p
  · exact p
  · exact absurd p.2.2.1 hd
theorem RelS.go {σ τ : St} (h : RelS σ σ) (f : ∀ k, k = 7 ∨ 56 < k → τ k = σ k) : RelS σ (put τ 7 0 0) := by
  refine h.fm ?_
  refine mEq.w ⟨fun k k1 k2 => ?_, fun j j0 => ?_⟩ _
  · rw [put_ne (by omega)]; exact f k (Or.inr k1)
  · rw [put_eq, if_pos rfl, if_neg j0, f 7 (Or.inl rfl)]
theorem frC.m {σ τ : St} (h : frC σ τ) : ∀ k, k = 7 ∨ 56 < k → τ k = σ k := fun k hk => h k (by omega) (by omega)
theorem frC.q {σ τ : St} (h : frC σ τ) : cEq σ τ := fun k k1 k7 k2 k3 => h k k1 (by omega)
theorem frM.q {σ τ : St} (h : frM σ τ) : mEq σ τ := ⟨fun k k1 k2 => h.1 k (by omega) (by omega), h.2⟩
theorem frM.k {σ τ : St} (h : frM σ τ) : cEq σ τ := fun k k1 k7 k2 k3 => h.1 k k7 (by omega)
theorem cEq.put0 (τ : St) : cEq τ (put τ 7 0 0) := fun k k1 k7 k2 k3 => put_ne k7
theorem cEq.trans {a b c : St} (h : cEq a b) (k : cEq b c) : cEq a c := fun j j1 j2 j3 j4 => (k j j1 j2 j3 j4).trans (h j j1 j2 j3 j4)

