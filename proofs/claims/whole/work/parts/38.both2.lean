theorem RelS.ch {κ μ κ2 μ2 : St} (h : RelS κ μ) (ns : 0 ≤ κ2 5 2 ∧ κ2 5 2 ≤ 12 ∧ κ 5 2 ≤ κ2 5 2) (sh : ∀ s, 0 ≤ s → s < κ2 5 2 → 10 ≤ κ2 55 s ∧ κ2 55 s ≤ 200 ∧ 0 ≤ κ2 56 s ∧ κ2 56 s ≤ 2 ∧ μ2 57 s = κ2 55 s ∧ μ2 58 s = κ2 56 s) (ng : 0 ≤ κ2 2 1 ∧ κ2 2 1 ≤ 8 ∧ κ 2 1 ≤ κ2 2 1) (gr : ∀ g, 0 ≤ g → g < κ2 2 1 → 0 ≤ κ2 48 g ∧ κ2 48 g ≤ 99 ∧ μ2 59 g = κ2 48 g) (ne : ∀ b, 0 ≤ b → b < κ 0 6 → κ2 10 b = ndS (κ 8) (κ 9) (κ 0 6) (κ 8 b) (κ2 48 (κ 8 b)) b) (eq : μ2 7 1 = κ2 5 2 ∧ μ2 7 4 = κ2 2 1 ∧ μ2 7 6 = κ 0 6 ∧ μ2 7 11 = κ2 0 7 ∧ μ2 7 12 = κ 6 6) (pr : μ2 7 21 = 0 ∧ κ2 4 5 = 0 ∧ κ2 4 6 = 0) (e8 : κ2 8 = κ 8) (e9 : κ2 9 = κ 9) (e11 : κ2 11 = κ 11) (e12 : κ2 12 = κ 12) (e60 : μ2 60 = μ 60) (e61 : μ2 61 = μ 61) (e62 : μ2 62 = μ 62) (e63 : μ2 63 = μ 63) (e06 : κ2 0 6 = κ 0 6) (e6 : κ2 6 = κ 6) (e3 : κ2 3 = κ 3) (e49 : κ2 49 = κ 49) (e14 : μ2 7 14 = μ 7 14) (e64 : μ2 64 = μ 64) : RelS κ2 μ2 := by
  refine ⟨⟨ns.1, ns.2.1⟩, sh, ⟨ng.1, ng.2.1⟩, gr, by rw [e06]; exact h.nb, fun b b0 b1 => ?_, fun b b0 b1 => ?_, by rw [e6]; exact h.lm, by rw [e06, e6]; exact eq, Or.inl pr, ?_⟩
  · have r := h.bk b b0 (by omega)
    rw [e8, e9, e11, e12, e60, e61, e62, e63]
    exact ⟨r.1, by omega, r.2.2.1, r.2.2.2.1, r.2.2.2.2.1, by omega, r.2.2.2.2.2.2⟩
  · rw [e8, e9, e06]; exact ne b b0 (by omega)
  · obtain ⟨es, a, c⟩ := h.lg
    exact ⟨es, a.keep e3 e49, c.keep e14 e64⟩

set_option maxRecDepth 100000 in
set_option maxHeartbeats 4000000 in
theorem bo_shelf (σ : St) (l k : Int) (hl : InR l) (hk : InR k) (h : RelS σ σ) : Wp mX6_shelf 1 (fun z τ => Wp mX7_shelf 1 (fun y υ => y = z ∧ RelS υ υ) 0 [some (.inr 7), some (.inl l), some (.inl k)] [] τ) 0 [some (.inr 6), some (.inl l), some (.inl k), none] [] σ := by
  refine Wp.mono (ct_X6_shelf σ l k h.c hl hk) (fun z τ hz => ?_)
  have h1 : RelS σ (put τ 7 0 0) := h.go (fun i hi => by
    by_cases c : 10 ≤ l ∧ l ≤ 200 ∧ 0 ≤ k ∧ k ≤ 2 ∧ σ 5 2 < 12
    · rw [(hz.1 c).2]; funext j; simp [endP, put_eq]; omega
    · rw [(hz.2 c).2])
  refine c0_shelf τ (Wp.mono (ct5_shelf (put τ 7 0 0) l k h1.m hl hk) (fun y υ hy => ?_))
  obtain ⟨ρ, hρ⟩ : ∃ ρ, ρ = put τ 7 0 0 := ⟨_, rfl⟩
  have h0 : cEq τ ρ := by rw [hρ]; exact cEq.put0 τ
  rw [← hρ] at h1 hy
  clear hρ
  have hI := h1.c
  have hW := h1.w
  obtain ⟨q1, q4, q6, q11, q12⟩ := h1.eq
  have hnb := h1.nb
  have hns := h1.ns
  by_cases hc : 10 ≤ l ∧ l ≤ 200 ∧ 0 ≤ k ∧ k ≤ 2 ∧ σ 5 2 < 12
  · obtain ⟨z1, z2⟩ := hz.1 hc
    obtain ⟨y1, y2⟩ := hy.1 (by rw [q1]; exact hc)
    refine ⟨by rw [z1, y1, q1], RelS.fc (κ := τ) ?_ (cEq.trans h0 (fun k k1 k7 k2 k3 => by rw [y2, put_ne k7, put_ne k7, put_ne (by omega), put_ne (by omega)]))⟩
    rw [q1] at y2
    have c52 : τ 5 2 = σ 5 2 + 1 := by rw [z2]; simp [endP, put_eq]
    have c21 : τ 2 1 = σ 2 1 := by rw [z2]; simp [endP, put_eq]
    have c48 : τ 48 = σ 48 := by rw [z2]; funext j; simp [endP, put_eq]
    have c10 : τ 10 = σ 10 := by rw [z2]; funext j; simp [endP, put_eq]
    refine h1.ch ⟨by omega, by omega, by omega⟩ (fun s s0 s1 => ?_) ⟨by rw [c21]; exact h1.ng.1, by rw [c21]; exact h1.ng.2, by omega⟩ ?_ ?_ ?_ ?_ (by rw [z2]; funext j; simp [endP, put_eq]) (by rw [z2]; funext j; simp [endP, put_eq]) (by rw [z2]; funext j; simp [endP, put_eq]) (by rw [z2]; funext j; simp [endP, put_eq]) (by rw [y2]; funext j; simp [put_eq]) (by rw [y2]; funext j; simp [put_eq]) (by rw [y2]; funext j; simp [put_eq]) (by rw [y2]; funext j; simp [put_eq]) (by rw [z2]; simp [endP, put_eq]) (by rw [z2]; funext j; simp [endP, put_eq]) (by rw [z2]; funext j; simp [endP, put_eq]) (by rw [z2]; funext j; simp [endP, put_eq]) (by rw [y2]; simp [put_eq]) (by rw [y2]; funext j; simp [put_eq])
    · rw [z2, y2]
      simp only [endP, put_eq]
      simp
      by_cases e : s = σ 5 2
      · simp [e]; omega
      · simp [e]; have r := h1.sh s s0 (by omega); omega
    · rw [c21, c48]
      intro g g0 g1
      have r := h1.gr g g0 g1
      exact ⟨r.1, r.2.1, by rw [y2]; simp [put_eq]; exact r.2.2⟩
    · rw [c10, c48]; exact h1.ne
    · rw [z2, y2]; simp [endP, put_eq]; exact ⟨q4, q6, q11, q12⟩
    · rw [z2, y2]; simp [endP, put_eq]
  · obtain ⟨z1, z2⟩ := hz.2 hc
    obtain ⟨y1, y2⟩ := hy.2 (by rw [q1]; exact hc)
    exact ⟨by rw [z1, y1], by rw [y2]; exact h1.fc (cEq.trans (by rw [z2]; exact fun k _ _ _ _ => rfl) h0)⟩

set_option maxRecDepth 100000 in
set_option maxHeartbeats 4000000 in
theorem bo_turn (σ : St) (s k : Int) (hs : InR s) (hk : InR k) (h : RelS σ σ) : Wp mX6_turn 1 (fun z τ => Wp mX7_turn 2 (fun y υ => y = z ∧ RelS υ υ) 0 [some (.inr 7), some (.inl s), some (.inl k)] [] τ) 0 [some (.inr 6), some (.inl s), some (.inl k)] [] σ := by
  refine Wp.mono (ct_X6_turn σ s k h.c hs hk) (fun z τ hz => ?_)
  have h1 : RelS σ (put τ 7 0 0) := h.go (fun i hi => by
    by_cases c : 0 ≤ s ∧ s < σ 5 2 ∧ 0 ≤ k ∧ k ≤ 2 ∧ σ 56 s ≠ k
    · rw [(hz.1 c).2]; funext j; simp [endP, put_eq]; omega
    · rw [(hz.2 c).2])
  refine c0_turn τ (Wp.mono (ct5_turn (put τ 7 0 0) s k h1.m hs hk) (fun y υ hy => ?_))
  obtain ⟨ρ, hρ⟩ : ∃ ρ, ρ = put τ 7 0 0 := ⟨_, rfl⟩
  have h0 : cEq τ ρ := by rw [hρ]; exact cEq.put0 τ
  rw [← hρ] at h1 hy
  clear hρ
  have hI := h1.c
  have hW := h1.w
  obtain ⟨q1, q4, q6, q11, q12⟩ := h1.eq
  have hnb := h1.nb
  have hns := h1.ns
  by_cases hc : 0 ≤ s ∧ s < σ 5 2 ∧ 0 ≤ k ∧ k ≤ 2 ∧ σ 56 s ≠ k
  · obtain ⟨z1, z2⟩ := hz.1 hc
    obtain ⟨y1, y2⟩ := hy.1 (by rw [q1]; exact ⟨hc.1, hc.2.1, hc.2.2.1, hc.2.2.2.1, by rw [(h1.sh s hc.1 hc.2.1).2.2.2.2.2]; exact hc.2.2.2.2⟩)
    refine ⟨by rw [z1, y1], RelS.fc (κ := τ) ?_ (cEq.trans h0 (fun k k1 k7 k2 k3 => by rw [y2, put_ne k7, put_ne (by omega)]))⟩
    have c52 : τ 5 2 = σ 5 2 := by rw [z2]; simp [endP, put_eq]
    have c21 : τ 2 1 = σ 2 1 := by rw [z2]; simp [endP, put_eq]
    have c48 : τ 48 = σ 48 := by rw [z2]; funext j; simp [endP, put_eq]
    have c10 : τ 10 = σ 10 := by rw [z2]; funext j; simp [endP, put_eq]
    refine h1.ch ⟨by omega, by omega, by omega⟩ (fun x x0 x1 => ?_) ⟨by rw [c21]; exact h1.ng.1, by rw [c21]; exact h1.ng.2, by omega⟩ ?_ ?_ ?_ ?_ (by rw [z2]; funext j; simp [endP, put_eq]) (by rw [z2]; funext j; simp [endP, put_eq]) (by rw [z2]; funext j; simp [endP, put_eq]) (by rw [z2]; funext j; simp [endP, put_eq]) (by rw [y2]; funext j; simp [put_eq]) (by rw [y2]; funext j; simp [put_eq]) (by rw [y2]; funext j; simp [put_eq]) (by rw [y2]; funext j; simp [put_eq]) (by rw [z2]; simp [endP, put_eq]) (by rw [z2]; funext j; simp [endP, put_eq]) (by rw [z2]; funext j; simp [endP, put_eq]) (by rw [z2]; funext j; simp [endP, put_eq]) (by rw [y2]; simp [put_eq]) (by rw [y2]; funext j; simp [put_eq])
    · have r := h1.sh x x0 (by omega)
      rw [z2, y2]
      simp only [endP, put_eq]
      simp
      by_cases e : x = s
      · simp [e]; rw [e] at r; omega
      · simp [e]; omega
    · rw [c21, c48]
      intro g g0 g1
      have r := h1.gr g g0 g1
      exact ⟨r.1, r.2.1, by rw [y2]; simp [put_eq]; exact r.2.2⟩
    · rw [c10, c48]; exact h1.ne
    · rw [z2, y2]; simp [endP, put_eq]; exact ⟨q1, q4, q6, q11, q12⟩
    · rw [z2, y2]; simp [endP, put_eq]
  · obtain ⟨z1, z2⟩ := hz.2 hc
    obtain ⟨y1, y2⟩ := hy.2 (fun q => hc (by rw [q1] at q; exact ⟨q.1, q.2.1, q.2.2.1, q.2.2.2.1, by rw [← (h1.sh s q.1 q.2.1).2.2.2.2.2]; exact q.2.2.2.2⟩))
    exact ⟨by rw [z1, y1], by rw [y2]; exact h1.fc (cEq.trans (by rw [z2]; exact fun k _ _ _ _ => rfl) h0)⟩

set_option maxRecDepth 100000 in
set_option maxHeartbeats 4000000 in
theorem bo_group (σ : St) (g : Int) (hg : InR g) (h : RelS σ σ) : Wp mX6_group 1 (fun z τ => Wp mX7_group 1 (fun y υ => y = z ∧ RelS υ υ) 0 [some (.inr 7), some (.inl g)] [] τ) 0 [some (.inr 6), some (.inl g)] [] σ := by
  refine Wp.mono (ct_X6_group σ g h.c hg) (fun z τ hz => ?_)
  have h1 : RelS σ (put τ 7 0 0) := h.go (fun i hi => by
    by_cases c : 0 ≤ g ∧ g ≤ 99 ∧ σ 2 1 < 8
    · rw [(hz.1 c).2]; funext j; simp [endP, put_eq]; omega
    · rw [(hz.2 c).2])
  refine c0_group τ (Wp.mono (ct5_group (put τ 7 0 0) g h1.m hg) (fun y υ hy => ?_))
  obtain ⟨ρ, hρ⟩ : ∃ ρ, ρ = put τ 7 0 0 := ⟨_, rfl⟩
  have h0 : cEq τ ρ := by rw [hρ]; exact cEq.put0 τ
  rw [← hρ] at h1 hy
  clear hρ
  have hI := h1.c
  have hW := h1.w
  obtain ⟨q1, q4, q6, q11, q12⟩ := h1.eq
  have hnb := h1.nb
  have hns := h1.ns
  by_cases hc : 0 ≤ g ∧ g ≤ 99 ∧ σ 2 1 < 8
  · obtain ⟨z1, z2⟩ := hz.1 hc
    obtain ⟨y1, y2⟩ := hy.1 (by rw [q4]; exact hc)
    refine ⟨by rw [z1, y1, q4], RelS.fc (κ := τ) ?_ (cEq.trans h0 (fun k k1 k7 k2 k3 => by rw [y2, put_ne k7, put_ne k7, put_ne (by omega)]))⟩
    rw [q4] at y2
    have hng := h1.ng
    have c52 : τ 5 2 = σ 5 2 := by rw [z2]; simp [endP, put_eq]
    have c21 : τ 2 1 = σ 2 1 + 1 := by rw [z2]; simp [endP, put_eq]
    have c10 : τ 10 = σ 10 := by rw [z2]; funext j; simp [endP, put_eq]
    refine h1.ch ⟨by omega, by omega, by omega⟩ (fun s s0 s1 => ?_) ⟨by omega, by omega, by omega⟩ (fun x x0 x1 => ?_) (fun b b0 b1 => ?_) ?_ ?_ (by rw [z2]; funext j; simp [endP, put_eq]) (by rw [z2]; funext j; simp [endP, put_eq]) (by rw [z2]; funext j; simp [endP, put_eq]) (by rw [z2]; funext j; simp [endP, put_eq]) (by rw [y2]; funext j; simp [put_eq]) (by rw [y2]; funext j; simp [put_eq]) (by rw [y2]; funext j; simp [put_eq]) (by rw [y2]; funext j; simp [put_eq]) (by rw [z2]; simp [endP, put_eq]) (by rw [z2]; funext j; simp [endP, put_eq]) (by rw [z2]; funext j; simp [endP, put_eq]) (by rw [z2]; funext j; simp [endP, put_eq]) (by rw [y2]; simp [put_eq]) (by rw [y2]; funext j; simp [put_eq])
    · have r := h1.sh s s0 (by omega)
      rw [z2, y2]
      simp only [endP, put_eq]
      simp
      omega
    · rw [z2, y2]
      simp only [endP, put_eq]
      simp
      by_cases e : x = σ 2 1
      · simp [e]; omega
      · simp [e]; have r := h1.gr x x0 (by omega); omega
    · rw [c10, h1.ne b b0 b1]
      have r := h1.bk b b0 b1
      rw [z2]
      simp only [endP, put_eq]
      simp [show ¬ σ 8 b = σ 2 1 by omega]
    · rw [z2, y2]; simp [endP, put_eq]; exact ⟨q1, q6, q11, q12⟩
    · rw [z2, y2]; simp [endP, put_eq]
  · obtain ⟨z1, z2⟩ := hz.2 hc
    obtain ⟨y1, y2⟩ := hy.2 (by rw [q4]; exact hc)
    exact ⟨by rw [z1, y1], by rw [y2]; exact h1.fc (cEq.trans (by rw [z2]; exact fun k _ _ _ _ => rfl) h0)⟩

set_option maxRecDepth 100000 in
set_option maxHeartbeats 4000000 in
theorem bo_limit (σ : St) (v : Int) (hv : InR v) (h : RelS σ σ) : Wp mX6_limit 1 (fun z τ => Wp mX7_limit 1 (fun y υ => y = z ∧ RelS υ υ) 0 [some (.inr 7), some (.inl v)] [] τ) 0 [some (.inr 6), some (.inl v)] [] σ := by
  refine Wp.mono (ct_X6_limit σ v hv) (fun z τ hz => ?_)
  have h1 : RelS σ (put τ 7 0 0) := h.go (fun i hi => by
    by_cases c : 40 ≤ v ∧ v ≤ 400 ∧ v ≠ σ 6 6
    · rw [(hz.1 c).2]; funext j; simp [endP, put_eq]; omega
    · rw [(hz.2 c).2])
  refine c0_limit τ (Wp.mono (ct5_limit (put τ 7 0 0) v hv) (fun y υ hy => ?_))
  obtain ⟨ρ, hρ⟩ : ∃ ρ, ρ = put τ 7 0 0 := ⟨_, rfl⟩
  have h0 : cEq τ ρ := by rw [hρ]; exact cEq.put0 τ
  rw [← hρ] at h1 hy
  clear hρ
  have hI := h1.c
  have hW := h1.w
  obtain ⟨q1, q4, q6, q11, q12⟩ := h1.eq
  have hnb := h1.nb
  have hns := h1.ns
  by_cases hc : 40 ≤ v ∧ v ≤ 400 ∧ v ≠ σ 6 6
  · obtain ⟨z1, z2⟩ := hz.1 hc
    obtain ⟨y1, y2⟩ := hy.1 (by rw [q12]; exact hc)
    refine ⟨by rw [z1, y1], RelS.fc (κ := τ) ?_ (cEq.trans h0 (fun k k1 k7 k2 k3 => by rw [y2, put_ne k7]))⟩
    have ck : ∀ k, k ≠ 6 → τ k = σ k := fun k k6 => by rw [z2, put_ne k6]
    have c6 : τ 6 6 = v := by rw [z2]; simp [put_eq]
    have mk : ∀ k, k ≠ 7 → υ k = ρ k := fun k k7 => by rw [y2, put_ne k7]
    have mj : ∀ j, j ≠ 12 → υ 7 j = ρ 7 j := fun j j12 => by rw [y2]; simp [put_eq, j12]
    have m12 : υ 7 12 = v := by rw [y2]; simp [put_eq]
    obtain ⟨g1, g2, g3, g4, g5, g6, g7, g8, g9, g10, es, g11, g12⟩ := h1
    refine ⟨?_, ?_, ?_, ?_, ?_, ?_, ?_, ?_, ?_, ?_, es, g11.keep (ck 3 (by decide)) (ck 49 (by decide)), g12.keep (mj 14 (by decide)) (mk 64 (by decide))⟩
    · rw [ck 5 (by decide)]; exact g1
    · rw [ck 5 (by decide), ck 55 (by decide), ck 56 (by decide), mk 57 (by decide), mk 58 (by decide)]; exact g2
    · rw [ck 2 (by decide)]; exact g3
    · rw [ck 2 (by decide), ck 48 (by decide), mk 59 (by decide)]; exact g4
    · rw [ck 0 (by decide)]; exact g5
    · rw [ck 0 (by decide), ck 8 (by decide), ck 2 (by decide), ck 9 (by decide), ck 11 (by decide), ck 5 (by decide), ck 12 (by decide), mk 60 (by decide), mk 61 (by decide), mk 62 (by decide), mk 63 (by decide)]; exact g6
    · rw [ck 0 (by decide), ck 8 (by decide), ck 9 (by decide), ck 10 (by decide), ck 48 (by decide)]; exact g7
    · rw [c6]; omega
    · rw [mj 1 (by decide), mj 4 (by decide), mj 6 (by decide), mj 11 (by decide), m12, c6, ck 5 (by decide), ck 2 (by decide), ck 0 (by decide)]; exact ⟨q1, q4, q6, q11, rfl⟩
    · unfold PR at g10 ⊢
      rw [mj 21 (by decide), mj 22 (by decide), mj 23 (by decide), mj 24 (by decide), ck 4 (by decide), ck 0 (by decide), ck 5 (by decide), ck 9 (by decide), ck 11 (by decide), ck 50 (by decide), ck 51 (by decide), ck 52 (by decide), ck 53 (by decide), ck 54 (by decide), mk 71 (by decide), mk 72 (by decide), mk 73 (by decide), mk 74 (by decide)]
      exact g10
  · obtain ⟨z1, z2⟩ := hz.2 hc
    obtain ⟨y1, y2⟩ := hy.2 (by rw [q12]; exact hc)
    exact ⟨by rw [z1, y1], by rw [y2]; exact h1.fc (cEq.trans (by rw [z2]; exact fun k _ _ _ _ => rfl) h0)⟩

set_option maxRecDepth 100000 in
set_option maxHeartbeats 4000000 in
theorem bo_drop (σ : St)  (h : RelS σ σ) : Wp mX6_drop 1 (fun z τ => Wp mX7_drop 1 (fun y υ => y = z ∧ RelS υ υ) 0 [some (.inr 7)] [] τ) 0 [some (.inr 6), none] [] σ := by
  refine Wp.mono (ct_X6_drop σ h.c) (fun z τ hz => ?_)
  have h1 : RelS σ (put τ 7 0 0) := h.go (fun i hi => by
    by_cases c : σ 4 6 < σ 4 5
    · rw [(hz.1 c).2]; funext j; simp [endP, put_eq]; omega
    · rw [(hz.2 c).2])
  refine c0_drop τ (Wp.mono (ct5_drop (put τ 7 0 0) h1.m) (fun y υ hy => ?_))
  obtain ⟨ρ, hρ⟩ : ∃ ρ, ρ = put τ 7 0 0 := ⟨_, rfl⟩
  have h0 : cEq τ ρ := by rw [hρ]; exact cEq.put0 τ
  rw [← hρ] at h1 hy
  clear hρ
  have hI := h1.c
  have hW := h1.w
  obtain ⟨q1, q4, q6, q11, q12⟩ := h1.eq
  have hnb := h1.nb
  have hns := h1.ns
  by_cases hc : σ 4 6 < σ 4 5
  · obtain ⟨z1, z2⟩ := hz.1 hc
    obtain ⟨y1, y2⟩ := hy.1 ((h1.pw hc).1)
    have hp := h1.pw hc
    refine ⟨by rw [z1, y1, hp.2.2.1, hp.2.2.2.1], RelS.fc (κ := τ) ?_ (cEq.trans h0 (fun k k1 k7 k2 k3 => by rw [y2, put_ne k7]))⟩
    have c52 : τ 5 2 = σ 5 2 := by rw [z2]; simp [endP, put_eq]
    have c21 : τ 2 1 = σ 2 1 := by rw [z2]; simp [endP, put_eq]
    have c48 : τ 48 = σ 48 := by rw [z2]; funext j; simp [endP, put_eq]
    have c10 : τ 10 = σ 10 := by rw [z2]; funext j; simp [endP, put_eq]
    refine h1.ch ⟨by omega, by omega, by omega⟩ (fun x x0 x1 => ?_) ⟨by rw [c21]; exact h1.ng.1, by rw [c21]; exact h1.ng.2, by omega⟩ ?_ ?_ ?_ ?_ (by rw [z2]; funext j; simp [endP, put_eq]) (by rw [z2]; funext j; simp [endP, put_eq]) (by rw [z2]; funext j; simp [endP, put_eq]) (by rw [z2]; funext j; simp [endP, put_eq]) (by rw [y2]; funext j; simp [put_eq]) (by rw [y2]; funext j; simp [put_eq]) (by rw [y2]; funext j; simp [put_eq]) (by rw [y2]; funext j; simp [put_eq]) (by rw [z2]; simp [endP, put_eq]) (by rw [z2]; funext j; simp [endP, put_eq]) (by rw [z2]; funext j; simp [endP, put_eq]) (by rw [z2]; funext j; simp [endP, put_eq]) (by rw [y2]; simp [put_eq]) (by rw [y2]; funext j; simp [put_eq])
    · have r := h1.sh x x0 (by omega)
      rw [z2, y2]
      simp only [endP, put_eq]
      simp
      omega
    · rw [c21, c48]
      intro g g0 g1
      have r := h1.gr g g0 g1
      exact ⟨r.1, r.2.1, by rw [y2]; simp [put_eq]; exact r.2.2⟩
    · rw [c10, c48]; exact h1.ne
    · rw [z2, y2]; simp [endP, put_eq]; exact ⟨q1, q4, q6, q11, q12⟩
    · rw [z2, y2]; simp [endP, put_eq]
  · obtain ⟨z1, z2⟩ := hz.2 hc
    obtain ⟨y1, y2⟩ := hy.2 (by rw [(h1.np hc).1]; decide)
    exact ⟨by rw [z1, y1], by rw [y2]; exact h1.fc (cEq.trans (by rw [z2]; exact fun k _ _ _ _ => rfl) h0)⟩

set_option maxRecDepth 100000 in
set_option maxHeartbeats 4000000 in
theorem bo_grow (σ : St) (g G : Int) (hg : InR g) (hG : InR G) (h : RelS σ σ) : Wp mX6_grow 3 (fun z τ => Wp mX7_grow 2 (fun y υ => y = z ∧ RelS υ υ) 0 [some (.inr 7), some (.inl g), some (.inl G)] [] τ) 0 [some (.inr 6), some (.inl g), some (.inl G)] [] σ := by
  refine Wp.mono (ct_X6_grow σ g G h.c hg hG) (fun z τ hz => ?_)
  have h1 : RelS σ (put τ 7 0 0) := h.go (fun i hi => by
    by_cases c : 0 ≤ g ∧ g < σ 2 1 ∧ 0 ≤ G ∧ G ≤ 99 ∧ σ 48 g ≠ G
    · obtain ⟨-, β, b1, b2⟩ := hz.1 c
      rw [b2]; unfold endP; rw [put_ne (by omega), put_ne (by omega), b1.fr (by omega) (by omega), put_ne (by omega)]
    · rw [(hz.2 c).2])
  refine c0_grow τ (Wp.mono (ct5_grow (put τ 7 0 0) g G h1.m hg hG) (fun y υ hy => ?_))
  obtain ⟨ρ, hρ⟩ : ∃ ρ, ρ = put τ 7 0 0 := ⟨_, rfl⟩
  have h0 : cEq τ ρ := by rw [hρ]; exact cEq.put0 τ
  rw [← hρ] at h1 hy
  clear hρ
  have hI := h1.c
  have hW := h1.w
  obtain ⟨q1, q4, q6, q11, q12⟩ := h1.eq
  have hnb := h1.nb
  have hns := h1.ns
  by_cases hc : 0 ≤ g ∧ g < σ 2 1 ∧ 0 ≤ G ∧ G ≤ 99 ∧ σ 48 g ≠ G
  · obtain ⟨z1, β, z3, z2⟩ := hz.1 hc
    have e59 := (h1.gr g hc.1 hc.2.1).2.2
    obtain ⟨y1, y2⟩ := hy.1 (by rw [q4, e59]; exact hc)
    have bk : ∀ k, k ≠ 10 → k ≠ 13 → β k = put σ 48 g G k := fun k k1 k2 => z3.fr k1 k2
    have ck : ∀ k, k ≠ 4 → k ≠ 10 → k ≠ 13 → k ≠ 48 → τ k = σ k := fun k k4 k10 k13 k48 => by
      rw [z2]; unfold endP; rw [put_ne k4, put_ne k4, bk k k10 k13, put_ne k48]
    have c48 : τ 48 = put σ 48 g G 48 := by rw [z2]; unfold endP; rw [put_ne (by decide), put_ne (by decide), bk 48 (by decide) (by decide)]
    have c10 : τ 10 = β 10 := by rw [z2]; unfold endP; rw [put_ne (by decide), put_ne (by decide)]
    have mk : ∀ k, k ≠ 7 → k ≠ 59 → υ k = ρ k := fun k k7 k59 => by rw [y2, put_ne k7, put_ne k59]
    have mj : ∀ j, j ≠ 21 → υ 7 j = ρ 7 j := fun j j21 => by rw [y2]; simp [put_eq, j21]
    have m59 : υ 59 = put ρ 59 g G 59 := by rw [y2, put_ne (by decide)]
    refine ⟨by rw [z1, y1], RelS.fc (κ := τ) ?_ (cEq.trans h0 (fun k k1 k7 k2 k3 => mk k k7 (by omega)))⟩
    have k5 := ck 5 (by decide) (by decide) (by decide) (by decide)
    have k2 := ck 2 (by decide) (by decide) (by decide) (by decide)
    have k0 := ck 0 (by decide) (by decide) (by decide) (by decide)
    have hng := h1.ng
    refine h1.ch ⟨by rw [k5]; exact hns.1, by rw [k5]; exact hns.2, by rw [k5]; omega⟩ ?_ ⟨by rw [k2]; omega, by rw [k2]; omega, by rw [k2]; omega⟩ (fun x x0 x1 => ?_) (fun b b0 b1 => ?_) ?_ ⟨?_, ?_, ?_⟩ (ck 8 (by decide) (by decide) (by decide) (by decide)) (ck 9 (by decide) (by decide) (by decide) (by decide)) (ck 11 (by decide) (by decide) (by decide) (by decide)) (ck 12 (by decide) (by decide) (by decide) (by decide)) (mk 60 (by decide) (by decide)) (mk 61 (by decide) (by decide)) (mk 62 (by decide) (by decide)) (mk 63 (by decide) (by decide)) (by rw [k0]) (ck 6 (by decide) (by decide) (by decide) (by decide)) (ck 3 (by decide) (by decide) (by decide) (by decide)) (ck 49 (by decide) (by decide) (by decide) (by decide)) (mj 14 (by decide)) (mk 64 (by decide) (by decide))
    · rw [k5, ck 55 (by decide) (by decide) (by decide) (by decide), ck 56 (by decide) (by decide) (by decide) (by decide), mk 57 (by decide) (by decide), mk 58 (by decide) (by decide)]; exact h1.sh
    · rw [k2] at x1
      have r := h1.gr x x0 x1
      rw [c48, m59, put_eq, put_eq, if_pos rfl, if_pos rfl]
      by_cases e : x = g
      · rw [if_pos e, if_pos e]; omega
      · rw [if_neg e, if_neg e]; exact r
    · have r := z3.need (by rw [put_ne (by decide)]; exact hnb.1) (fun b b0 b1 => by rw [put_ne (by decide)]; rw [put_ne (by decide)] at b1; exact (h1.bk b b0 b1).2.2.1) b b0 (by rw [put_ne (by decide)]; exact b1)
      rw [put_ne (show (8 : Nat) ≠ 48 by decide), put_ne (show (9 : Nat) ≠ 48 by decide), put_ne (show (0 : Nat) ≠ 48 by decide), put_ne (show (10 : Nat) ≠ 48 by decide)] at r
      rw [c10, c48, put_eq, if_pos rfl]
      by_cases e : σ 8 b = g
      · rw [if_pos e, r.1 e, e]
      · rw [if_neg e, r.2 e]; exact h1.ne b b0 b1
    · rw [mj 1 (by decide), mj 4 (by decide), mj 6 (by decide), mj 11 (by decide), mj 12 (by decide), k5, k2, k0]; exact ⟨q1, q4, q6, q11, q12⟩
    · rw [y2]; simp [put_eq]
    · rw [z2]; simp [endP, put_eq]
    · rw [z2]; simp [endP, put_eq]
  · obtain ⟨z1, z2⟩ := hz.2 hc
    obtain ⟨y1, y2⟩ := hy.2 (fun q => hc (by rw [q4] at q; exact ⟨q.1, q.2.1, q.2.2.1, q.2.2.2.1, by rw [← (h1.gr g q.1 q.2.1).2.2]; exact q.2.2.2.2⟩))
    exact ⟨by rw [z1, y1], by rw [y2]; exact h1.fc (cEq.trans (by rw [z2]; exact fun k _ _ _ _ => rfl) h0)⟩

