set_option maxRecDepth 100000 in
set_option maxHeartbeats 4000000 in
theorem bo_lasts (σ : St)  (h : RelS σ σ) : Wp mX6_lasts 4 (fun z τ => Wp mX7_lasts 4 (fun y υ => y = z ∧ RelS υ υ) 0 [some (.inr 7), none, none] [] τ) 0 [some (.inr 6), none, none] [] σ := by
  refine Wp.mono (ct_X6_lasts σ h.c) (fun z τ hz => ?_)
  have h1 : RelS σ (put τ 7 0 0) := h.go (fun k _ => by rw [hz.2])
  refine c0_lasts τ (Wp.mono (ct5_lasts (put τ 7 0 0) h1.w) (fun y υ hy => ?_))
  obtain ⟨ρ, hρ⟩ : ∃ ρ, ρ = put τ 7 0 0 := ⟨_, rfl⟩
  have h0 : cEq τ ρ := by rw [hρ]; exact cEq.put0 τ
  rw [← hρ] at h1 hy
  clear hρ
  have hI := h1.c
  have hW := h1.w
  obtain ⟨q1, q4, q6, q11, q12⟩ := h1.eq
  have hnb := h1.nb
  have hns := h1.ns
  obtain ⟨z1, z2⟩ := hz
  obtain ⟨y1, y2⟩ := hy
  refine ⟨?_, (h1.fm (y2.q.w _)).fc (cEq.trans (by subst τ; exact fun k _ _ _ _ => rfl) (h0.trans y2.k))⟩
  rw [z1, y1, q1, q6]
  exact lsF_congr (fun s s0 s1 => (h1.sh s s0 s1).2.2.2.2.1) (fun b b0 b1 => ⟨(h1.nb0 b b0 b1).2.2.1, (h1.nb0 b b0 b1).2.1, h1.nd b0 b1⟩)

set_option maxRecDepth 100000 in
set_option maxHeartbeats 4000000 in
theorem bo_count (σ : St) (w : Int) (hw : InR w) (h : RelS σ σ) : Wp mX6_count 1 (fun z τ => Wp mX7_count 1 (fun y υ => y = z ∧ RelS υ υ) 0 [some (.inr 7), some (.inl w)] [] τ) 0 [some (.inr 6), some (.inl w)] [] σ := by
  refine Wp.mono (ct_X6_count σ w h.c hw) (fun z τ hz => ?_)
  have h1 : RelS σ (put τ 7 0 0) := h.go (fun k _ => by rw [hz.2])
  refine c0_count τ (Wp.mono (ct5_count (put τ 7 0 0) w h1.m hw) (fun y υ hy => ?_))
  obtain ⟨ρ, hρ⟩ : ∃ ρ, ρ = put τ 7 0 0 := ⟨_, rfl⟩
  have h0 : cEq τ ρ := by rw [hρ]; exact cEq.put0 τ
  rw [← hρ] at h1 hy
  clear hρ
  have hI := h1.c
  have hW := h1.w
  obtain ⟨q1, q4, q6, q11, q12⟩ := h1.eq
  have hnb := h1.nb
  have hns := h1.ns
  obtain ⟨z1, z2⟩ := hz
  obtain ⟨y1, y2⟩ := hy
  subst y2
  refine ⟨?_, h1.fc (cEq.trans (by rw [z2]; exact fun k _ _ _ _ => rfl) h0)⟩
  have ea : sumA (υ 61) (σ 0 6) = sumA (σ 9) (σ 0 6) := sumA_congr (fun b b0 b1 => (h1.nb0 b b0 b1).2.1)
  have es : sumW (υ 58) (υ 57) 0 (σ 5 2) = sumW (σ 56) (σ 55) 0 (σ 5 2) := sumW_congr (fun s s0 s1 => ⟨(h1.sh s s0 s1).2.2.2.2.2, (h1.sh s s0 s1).2.2.2.2.1⟩)
  have el : υ 7 14 = σ 3 2 := by
    obtain ⟨es, e1, e2⟩ := h1.lg
    rw [e2.1, e1.2.1]
  rw [q1, q4, q6, ea, es, q11, q12, el] at y1
  have hp : (if υ 7 21 = 0 then 0 else υ 7 23) = σ 4 5 ∧ (if υ 7 21 = 0 then 0 else υ 7 24) = σ 4 6 ∧ (if υ 7 21 = 0 then -1 else υ 7 22) = (if σ 4 6 < σ 4 5 then σ 4 7 else -1) := by
    by_cases hd : σ 4 6 < σ 4 5
    · have r := h1.pw hd
      rw [if_neg (by omega), if_neg (by omega), if_neg (by omega), if_pos hd]
      exact ⟨r.2.2.1, r.2.2.2.1, r.2.1⟩
    · have r := h1.np hd
      rw [if_pos r.1, if_pos r.1, if_pos r.1, if_neg hd]
      omega
  rw [hp.1, hp.2.1, hp.2.2] at y1
  rw [z1]
  rcases y1 with ⟨rfl, rfl⟩ | ⟨rfl, rfl⟩ | ⟨rfl, rfl⟩ | ⟨rfl, rfl⟩ | ⟨rfl, rfl⟩ | ⟨rfl, rfl⟩ | ⟨rfl, rfl⟩ | ⟨rfl, rfl⟩ | ⟨rfl, rfl⟩ | ⟨rfl, rfl⟩ | ⟨rfl, rfl⟩ | ⟨hw2, rfl⟩
  all_goals first | rfl | skip
  rw [if_neg (by omega), if_neg (by omega), if_neg (by omega), if_neg (by omega), if_neg (by omega), if_neg (by omega), if_neg (by omega), if_neg (by omega), if_neg (by omega), if_neg (by omega), if_neg (by omega)]

set_option maxRecDepth 100000 in
set_option maxHeartbeats 4000000 in
theorem bo_cut (σ : St) (yy s : Int) (hyy : InR yy) (hs : InR s) (h : RelS σ σ) : Wp mX6_cut 4 (fun z τ => Wp mX7_cut 3 (fun y υ => y = z ∧ RelS υ υ) 0 [some (.inr 7), some (.inl yy), some (.inl s)] [] τ) 0 [some (.inr 6), some (.inl yy), some (.inl s)] [] σ := by
  refine Wp.mono (ct_X6_cut σ yy s h.c hyy hs) (fun z τ hz => ?_)
  have h1 : RelS σ (put τ 7 0 0) := h.go hz.1.m
  refine c0_cut τ (Wp.mono (ct5_cut (put τ 7 0 0) yy s h1.m hyy hs) (fun y υ hy => ?_))
  obtain ⟨ρ, hρ⟩ : ∃ ρ, ρ = put τ 7 0 0 := ⟨_, rfl⟩
  have h0 : cEq τ ρ := by rw [hρ]; exact cEq.put0 τ
  rw [← hρ] at h1 hy
  clear hρ
  have hI := h1.c
  have hW := h1.w
  obtain ⟨q1, q4, q6, q11, q12⟩ := h1.eq
  have hnb := h1.nb
  have hns := h1.ns
  obtain ⟨z0, z1, z2⟩ := hz
  obtain ⟨y0, y1, y2⟩ := hy
  refine ⟨?_, (h1.fm (y0.q.w _)).fc (z0.q.trans (h0.trans y0.k))⟩
  by_cases hc : 0 ≤ s ∧ s < σ 5 2 ∧ 0 ≤ yy ∧ yy ≤ 999
  · obtain ⟨L, L1, L2⟩ := z2 hc
    obtain ⟨K, K1, K2⟩ := y2 (by rw [q1]; exact hc)
    rw [q1, q6] at K1
    have cpe := h1.cp1 yy
    have K3 := K1.move cpe.1 cpe.2
    have e0 := L1.uniq K3 0 (by omega) hns.1 0 (by omega) hnb.1
    rcases L2 with L2 | ⟨L2, tk, L3, L4⟩
    · rcases K2 with K2 | K2
      · rw [L2.2, K2.2]
      · omega
    · rcases K2 with K2 | ⟨K2, uk, K4, K5⟩
      · omega
      · rw [q1, q6] at K4
        rw [L4, K5]
        exact ((L3.uniq hnb.1 L1 K3 (K4.move hnb.1 cpe.1 cpe.2)) s hc.1 hc.2.1).symm
  · rw [z1 hc, y1 (by rw [q1]; exact hc)]

set_option maxRecDepth 100000 in
set_option maxHeartbeats 4000000 in
theorem bo_price (σ : St) (yy w : Int) (hyy : InR yy) (hw : InR w) (h : RelS σ σ) : Wp mX6_price 4 (fun z τ => Wp mX7_price 3 (fun y υ => y = z ∧ RelS υ υ) 0 [some (.inr 7), some (.inl yy), some (.inl w)] [] τ) 0 [some (.inr 6), some (.inl yy), some (.inl w)] [] σ := by
  refine Wp.mono (ct_X6_price σ yy w h.c hyy hw) (fun z τ hz => ?_)
  have h1 : RelS σ (put τ 7 0 0) := h.go hz.1.m
  refine c0_price τ (Wp.mono (ct5_price (put τ 7 0 0) yy w h1.m hyy hw) (fun y υ hy => ?_))
  obtain ⟨ρ, hρ⟩ : ∃ ρ, ρ = put τ 7 0 0 := ⟨_, rfl⟩
  have h0 : cEq τ ρ := by rw [hρ]; exact cEq.put0 τ
  rw [← hρ] at h1 hy
  clear hρ
  have hI := h1.c
  have hW := h1.w
  obtain ⟨q1, q4, q6, q11, q12⟩ := h1.eq
  have hnb := h1.nb
  have hns := h1.ns
  obtain ⟨z0, z1, z2⟩ := hz
  obtain ⟨y0, y1, y2⟩ := hy
  refine ⟨?_, (h1.fm (y0.q.w _)).fc (z0.q.trans (h0.trans y0.k))⟩
  by_cases hc : 0 ≤ w ∧ w ≤ 2 ∧ 0 ≤ yy ∧ yy ≤ 999
  · obtain ⟨L, L1, L2⟩ := z2 hc
    obtain ⟨K, K1, K2⟩ := y2 hc
    rw [q1, q6] at K1
    have cpe := h1.cp1 yy
    have K3 := K1.move cpe.1 cpe.2
    have e0 := L1.uniq K3 0 (by omega) hns.1 0 (by omega) hnb.1
    rcases L2 with L2 | L2
    · rcases K2 with K2 | K2
      · rw [L2.2, K2.2]
      · omega
    · rcases K2 with K2 | K2
      · omega
      · rw [L2.2, K2.2, e0]
  · rw [z1 hc, y1 hc]

set_option maxRecDepth 100000 in
set_option maxHeartbeats 4000000 in
theorem bo_tight (σ : St)  (h : RelS σ σ) : Wp mX6_tight 2 (fun z τ => Wp mX7_tight 0 (fun y υ => y = z ∧ RelS υ υ) 0 [some (.inr 7), none, none, none, none] [] τ) 0 [some (.inr 6), none] [] σ := by
  refine Wp.mono (ct_X6_tight σ h.c) (fun z τ hz => ?_)
  have h1 : RelS σ (put τ 7 0 0) := h.go hz.2.m
  refine c0_tight τ (Wp.mono (ct5_tight (put τ 7 0 0) h1.w) (fun y υ hy => ?_))
  obtain ⟨ρ, hρ⟩ : ∃ ρ, ρ = put τ 7 0 0 := ⟨_, rfl⟩
  have h0 : cEq τ ρ := by rw [hρ]; exact cEq.put0 τ
  rw [← hρ] at h1 hy
  clear hρ
  have hI := h1.c
  have hW := h1.w
  obtain ⟨q1, q4, q6, q11, q12⟩ := h1.eq
  have hnb := h1.nb
  have hns := h1.ns
  obtain ⟨⟨q, z1, z2⟩, z0⟩ := hz
  obtain ⟨⟨r, y1, y2⟩, y0⟩ := hy
  subst y0
  refine ⟨?_, h1.fc (z0.q.trans h0)⟩
  rw [q1, q6] at y1 y2
  have hqr := IsFill.uniq hnb.1 (fun s s0 s1 => ⟨(h1.sh s s0 s1).2.2.2.2.1.symm, (h1.sh s s0 s1).2.2.2.2.2.symm⟩) (fun b b0 b1 => ⟨(h1.nb0 b b0 b1).2.1.symm, by have := h1.bk b b0 b1; omega⟩) z1 y1
  have hb := z1.bd hnb.1
  have en := hqr (σ 5 2) hns.1 (by omega)
  have hcs : ∀ (t : Int), 0 ≤ t → t ≤ σ 5 2 → (∀ s, t ≤ s → s < σ 5 2 → r (s + 1) = r s) → q t = q (σ 5 2) := by
    intro t t0 t1 hst
    have key : ∀ i, t ≤ i → i ≤ σ 5 2 → q i = q t := by
      intro i i0 i1
      have key2 : ∀ k : Nat, t + k ≤ σ 5 2 → q (t + k) = q t := by
        intro k
        induction k with
        | zero => intro _; rw [show t + ((0 : Nat) : Int) = t by omega]
        | succ k ih =>
          intro hk
          have a1 := hst (t + k) (by omega) (by omega)
          rw [show t + ((k + 1 : Nat) : Int) = t + (k : Int) + 1 by omega, hqr _ (by omega) (by omega), a1, ← hqr _ (by omega) (by omega)]
          exact ih (by omega)
      have := key2 (i - t).toNat (by omega)
      rw [show t + (((i - t).toNat : Nat) : Int) = i by omega] at this
      exact this
    exact (key (σ 5 2) t1 (by omega)).symm
  have q00 : q 0 = 0 := z1.1
  rcases z2 with ⟨f, f1, f2, f3, f4, f5, f6⟩ | ⟨f1, f2⟩
  · rcases y2 with ⟨g1, g2⟩ | ⟨g1, g2⟩
    · rcases g2 with ⟨g2, g3⟩ | ⟨g2, g3, g4, g5⟩
      · have := hcs 0 (by omega) hns.1 g3
        rw [g2, f6]
        by_cases e : 0 < f
        · have a := f5 0 (by omega) e
          omega
        · rw [if_neg e]
      · have a := hcs (y + 1) (by omega) (by omega) (fun s s0 s1 => g5 s (by omega) s1)
        rw [← hqr y g2 (by omega), ← hqr (y + 1) (by omega) (by omega)] at g4
        have b := z1.monoL (s := f) (t := y)
        have c := f5 (y + 1)
        rw [f6]
        have e0 := hb y g2 (by omega)
        by_cases e : 0 < f
        · rw [if_pos e]
          by_cases e1 : f ≤ y
          · have := b f2 e1 (by omega)
            omega
          · by_cases e2 : y + 1 < f
            · have := c (by omega) e2
              omega
            · omega
        · have e3 : f = 0 := by omega
          rw [e3, q00] at f4
          have := hb (y + 1) (by omega) (by omega)
          omega
    · omega
  · rcases y2 with ⟨g1, g2⟩ | ⟨g1, g2⟩
    · omega
    · rw [f2, g2]

set_option maxRecDepth 100000 in
set_option maxHeartbeats 4000000 in
theorem bo_more (σ : St) (g w : Int) (hg : InR g) (hw : InR w) (h : RelS σ σ) : Wp mX6_more 2 (fun z τ => Wp mX7_more 3 (fun y υ => y = z ∧ RelS υ υ) 0 [some (.inr 7), some (.inl g), some (.inl w), none, none, none, none] [] τ) 0 [some (.inr 6), some (.inl g), some (.inl w), none, none, none] [] σ := by
  refine Wp.mono (ct_X6_more σ g w h.c hg hw) (fun z τ hz => ?_)
  have h1 : RelS σ (put τ 7 0 0) := h.go hz.2.2.m
  refine c0_more τ (Wp.mono (ct5_more (put τ 7 0 0) g w h1.m hg hw) (fun y υ hy => ?_))
  obtain ⟨ρ, hρ⟩ : ∃ ρ, ρ = put τ 7 0 0 := ⟨_, rfl⟩
  have h0 : cEq τ ρ := by rw [hρ]; exact cEq.put0 τ
  rw [← hρ] at h1 hy
  clear hρ
  have hI := h1.c
  have hW := h1.w
  obtain ⟨q1, q4, q6, q11, q12⟩ := h1.eq
  have hnb := h1.nb
  have hns := h1.ns
  obtain ⟨z1, z2, z0⟩ := hz
  obtain ⟨y1, y2⟩ := hy
  by_cases hc : 0 ≤ g ∧ g < σ 2 1 ∧ 1 ≤ w ∧ w ≤ 40
  · obtain ⟨p, a1, a2, a3, a4, a5⟩ := z2 hc
    obtain ⟨p2, b1, b2, b3, b4, b5, b6⟩ := y2 (by rw [q4]; exact hc)
    rw [q6] at b1 b3 b5
    have b1' := b1.congr (fun b b0 b1 => (h1.nb0 b b0 b1).1)
    have ep := a1.uniq b1'
    subst ep
    have hpp : 0 ≤ p ∧ p ≤ σ 0 6 := ⟨a1.1, a1.2.1⟩
    refine ⟨?_, ?_⟩
    · rcases Int.lt_trichotomy y z with q | q | q
      · rcases b5 with b5 | b5
        · omega
        · exact absurd ((h1.fitK w (y + 1) hpp (by omega)).mpr (a4 (y + 1) (by omega) (by omega))) b5
      · exact q
      · rcases a5 with a5 | a5
        · omega
        · exact absurd ((h1.fitK w (z + 1) hpp (by omega)).mp (b4 (z + 1) (by omega) (by omega))) a5
    · refine (h1.fm ⟨fun k k1 k2 => b6.2.2 k (by omega) (by omega), b6.2.1, fun b b0 b1 => b6.1 b b0 (by rw [q6]; exact b1)⟩).fc (z0.q.trans (h0.trans (fun k k1 k7 k2 k3 => b6.2.2 k k7 (by omega))))
  · have r := y1 (by rw [q4]; exact hc)
    rw [z1 hc, r.1]
    obtain ⟨-, r2⟩ := r
    subst r2
    exact ⟨rfl, h1.fc (z0.q.trans h0)⟩

set_option maxRecDepth 100000 in
set_option maxHeartbeats 4000000 in
theorem bo_planned (σ : St) (k w : Int) (hk : InR k) (hw : InR w) (h : RelS σ σ) : Wp mX6_planned 1 (fun z τ => Wp mX7_planned 1 (fun y υ => y = z ∧ RelS υ υ) 0 [some (.inr 7), some (.inl k), some (.inl w)] [] τ) 0 [some (.inr 6), some (.inl k), some (.inl w)] [] σ := by
  refine Wp.mono (ct_X6_planned σ k w h.c hk hw) (fun z τ hz => ?_)
  have h1 : RelS σ (put τ 7 0 0) := h.go (fun i _ => by
    by_cases c : 0 ≤ k ∧ k < σ 4 5
    · rw [(hz.1 c).2]
    · rw [(hz.2 c).2])
  refine c0_planned τ (Wp.mono (ct5_planned (put τ 7 0 0) k w h1.m hk hw) (fun y υ hy => ?_))
  obtain ⟨ρ, hρ⟩ : ∃ ρ, ρ = put τ 7 0 0 := ⟨_, rfl⟩
  have h0 : cEq τ ρ := by rw [hρ]; exact cEq.put0 τ
  rw [← hρ] at h1 hy
  clear hρ
  have hI := h1.c
  have hW := h1.w
  obtain ⟨q1, q4, q6, q11, q12⟩ := h1.eq
  have hnb := h1.nb
  have hns := h1.ns
  have ht : τ = σ := by
    by_cases c : 0 ≤ k ∧ k < σ 4 5
    · exact (hz.1 c).2
    · exact (hz.2 c).2
  have hu : υ = ρ := by
    by_cases c : ρ 7 21 = 1 ∧ 0 ≤ k ∧ k < ρ 7 23
    · exact (hy.1 c).2
    · exact (hy.2 c).2
  refine ⟨?_, by rw [hu]; exact h1.fc (cEq.trans (by rw [ht]; exact fun k _ _ _ _ => rfl) h0)⟩
  by_cases hd : σ 4 6 < σ 4 5
  · obtain ⟨p1, p2, p3, p4, p5, p6, p7, p8⟩ := h1.pw hd
    by_cases c : 0 ≤ k ∧ k < σ 4 5
    · have z1 := (hz.1 c).1
      have y1 := (hy.1 ⟨p1, c.1, by omega⟩).1
      have r := p7 k c.1 c.2
      have ed : (dyF (fun i => ρ 61 (ρ 71 i)) 0 (ρ 7 12) (k + 1 - 0)).1 = (dyF (σ 52) 0 (σ 6 6) (k + 1 - 0)).1 := by
        rw [q12, dyF_congr (u := σ 52) (fun i i0 i1 => (p7 i i0 (by omega)).2.2.2)]
      have et : trF (ρ 72) (ρ 73) 0 (k + 1 - 0) = trF (σ 53) (σ 54) 0 (k + 1 - 0) := trF_congr (fun i i0 i1 => ⟨(p7 i i0 (by omega)).2.1, (p7 i i0 (by omega)).2.2.1⟩)
      have ec : cntW (ρ 72) (σ 54 k) k = cntW (σ 53) (σ 54 k) k := cntW_congr (fun i i0 i1 => (p7 i i0 (by omega)).2.1)
      rw [r.1, r.2.1, r.2.2.1, ed, et, ec] at y1
      rw [z1]
      rcases y1 with ⟨rfl, e⟩ | ⟨rfl, e⟩ | ⟨rfl, e⟩ | ⟨rfl, e⟩ | ⟨rfl, e⟩ | ⟨rfl, e⟩ | ⟨rfl, e⟩ | ⟨e2, e⟩
      · exact e
      · exact e
      · exact e
      · exact e
      · show y = (dyF (σ 52) 0 (σ 6 6) (k + 1 - 0)).1 - 1
        omega
      · show y = trF (σ 53) (σ 54) 0 (k + 1 - 0) - 1
        omega
      · exact e
      · rw [if_neg (by omega), if_neg (by omega), if_neg (by omega), if_neg (by omega), if_neg (by omega), if_neg (by omega), if_neg (by omega)]; exact e
    · rw [(hz.2 c).1, (hy.2 (fun q => c ⟨q.2.1, by omega⟩)).1]
  · have r := h1.np hd
    rw [(hz.2 (by omega)).1, (hy.2 (by omega)).1]

set_option maxRecDepth 100000 in
set_option maxHeartbeats 4000000 in
theorem bo_left (σ : St) (w : Int) (hw : InR w) (h : RelS σ σ) : Wp mX6_left 2 (fun z τ => Wp mX7_left 1 (fun y υ => y = z ∧ RelS υ υ) 0 [some (.inr 7), some (.inl w)] [] τ) 0 [some (.inr 6), some (.inl w)] [] σ := by
  refine Wp.mono (ct_X6_left σ w h.c hw) (fun z τ hz => ?_)
  have h1 : RelS σ (put τ 7 0 0) := h.go (fun i _ => by
    by_cases c : σ 4 6 < σ 4 5
    · rw [(hz.1 c).2]
    · rw [(hz.2 c).2])
  refine c0_left τ (Wp.mono (ct5_left (put τ 7 0 0) w h1.m hw) (fun y υ hy => ?_))
  obtain ⟨ρ, hρ⟩ : ∃ ρ, ρ = put τ 7 0 0 := ⟨_, rfl⟩
  have h0 : cEq τ ρ := by rw [hρ]; exact cEq.put0 τ
  rw [← hρ] at h1 hy
  clear hρ
  have hI := h1.c
  have hW := h1.w
  obtain ⟨q1, q4, q6, q11, q12⟩ := h1.eq
  have hnb := h1.nb
  have hns := h1.ns
  by_cases hd : σ 4 6 < σ 4 5
  · obtain ⟨z1, z2⟩ := hz.1 hd
    obtain ⟨p1, p2, p3, p4, p5, p6, p7, p8⟩ := h1.pw hd
    obtain ⟨y1, y2⟩ := hy.1 p1
    refine ⟨?_, by rw [y2]; exact h1.fc (cEq.trans (by rw [z2]; exact fun k _ _ _ _ => rfl) h0)⟩
    rw [p3, p4, show σ 4 5 - 1 + 1 - σ 4 6 = σ 4 5 - σ 4 6 by omega] at y1
    have ed : (dyF (fun i => ρ 61 (ρ 71 i)) (σ 4 6) (ρ 7 12) (σ 4 5 - σ 4 6)).1 = (dyF (σ 52) (σ 4 6) (σ 6 6) (σ 4 5 - σ 4 6)).1 := by
      rw [q12, dyF_congr (u := σ 52) (fun i i0 i1 => (p7 i (by omega) (by omega)).2.2.2)]
    have es : sumF (fun i => ρ 61 (ρ 71 i)) (σ 4 6) (σ 4 5 - σ 4 6) = sumF (σ 52) (σ 4 6) (σ 4 5 - σ 4 6) := sumF_congr (n := σ 4 5) (fun i i0 i1 => (p7 i (by omega) (by omega)).2.2.2) (by omega)
    have et : trF (ρ 72) (ρ 73) (σ 4 6) (σ 4 5 - σ 4 6) = trF (σ 53) (σ 54) (σ 4 6) (σ 4 5 - σ 4 6) := trF_congr (fun i i0 i1 => ⟨(p7 i (by omega) (by omega)).2.1, (p7 i (by omega) (by omega)).2.2.1⟩)
    have er : rgF (ρ 72) (ρ 73) (σ 4 6) (σ 4 5 - σ 4 6) = rgF (σ 53) (σ 54) (σ 4 6) (σ 4 5 - σ 4 6) := rgF_congr (fun i i0 i1 => ⟨(p7 i (by omega) (by omega)).2.1, (p7 i (by omega) (by omega)).2.2.1⟩)
    rw [ed, es, et, er] at y1
    rw [z1]
    rcases y1 with ⟨rfl, e⟩ | ⟨rfl, e⟩ | ⟨rfl, e⟩ | ⟨rfl, e⟩ | ⟨rfl, e⟩ | ⟨e2, e⟩
    · exact e
    · exact e
    · exact e
    · exact e
    · exact e
    · rw [if_neg (by omega), if_neg (by omega), if_neg (by omega), if_neg (by omega), if_neg (by omega)]; exact e
  · obtain ⟨z1, z2⟩ := hz.2 hd
    obtain ⟨y1, y2⟩ := hy.2 (by rw [(h1.np hd).1]; decide)
    exact ⟨by rw [z1, y1], by rw [y2]; exact h1.fc (cEq.trans (by rw [z2]; exact fun k _ _ _ _ => rfl) h0)⟩

set_option maxRecDepth 100000 in
set_option maxHeartbeats 4000000 in
theorem bo_enough (σ : St) (e : Int) (he : InR e) (h : RelS σ σ) : Wp mX6_enough 1 (fun z τ => Wp mX7_enough 1 (fun y υ => y = z ∧ RelS υ υ) 0 [some (.inr 7), some (.inl e), none] [] τ) 0 [some (.inr 6), some (.inl e), none, none, none] [] σ := by
  refine Wp.mono (ct_X6_enough σ e h.c he) (fun z τ hz => ?_)
  have h1 : RelS σ (put τ 7 0 0) := h.go (fun k _ => by rw [hz.2.2])
  refine c0_enough τ (Wp.mono (ct5_enough (put τ 7 0 0) e h1.m he) (fun y υ hy => ?_))
  obtain ⟨ρ, hρ⟩ : ∃ ρ, ρ = put τ 7 0 0 := ⟨_, rfl⟩
  have h0 : cEq τ ρ := by rw [hρ]; exact cEq.put0 τ
  rw [← hρ] at h1 hy
  clear hρ
  have hI := h1.c
  have hW := h1.w
  obtain ⟨q1, q4, q6, q11, q12⟩ := h1.eq
  have hnb := h1.nb
  have hns := h1.ns
  obtain ⟨z1, z2, z3⟩ := hz
  obtain ⟨y1, y2⟩ := hy
  refine ⟨?_, by rw [y2]; exact h1.fc (cEq.trans (by rw [z3]; exact fun k _ _ _ _ => rfl) h0)⟩
  by_cases hd : σ 4 6 < σ 4 5
  · obtain ⟨p1, p2, p3, p4, p5, p6, p7, p8⟩ := h1.pw hd
    have ed : ∀ l, dmF ρ l = dlF σ l := by
      intro l
      unfold dmF dlF
      rw [p3, p4, dyF_congr (u := σ 52) (fun i i0 i1 => (p7 i (by omega) (by omega)).2.2.2)]
    rcases y1 with ⟨-, y1⟩ | ⟨y1, -⟩
    · rcases y1 with ⟨y1, y2, y3, y4⟩ | ⟨y1, y2⟩
      · rw [ed] at y3
        have hl : dlF σ 400 ≤ e := Int.le_trans (hI.dl y2) y3
        obtain ⟨a1, a2, a3, a4⟩ := z1 ⟨hd, hl⟩
        rcases Int.lt_trichotomy y z with q | q | q
        · have := a4 y y1 q; omega
        · exact q
        · have := y4 z a1 q; rw [ed] at this; omega
      · have hl : ¬ (σ 4 6 < σ 4 5 ∧ dlF σ 400 ≤ e) := fun q => by
          have := y2 400 (by omega) (by omega)
          rw [ed] at this
          omega
        rw [z2 hl, y1]
    · omega
  · rw [z2 (fun q => hd q.1)]
    rcases y1 with ⟨y1, -⟩ | ⟨-, y1⟩
    · have := (h1.np hd).1
      omega
    · exact y1

theorem bo_log (σ : St) (k w : Int) (hk : InR k) (hw : InR w) (h : RelS σ σ) : Wp mX6_log 1 (fun z τ => Wp mX7_log 1 (fun y υ => y = z ∧ RelS υ υ) 0 [some (.inr 7), some (.inl k), some (.inl w)] [] τ) 0 [some (.inr 6), some (.inl k), some (.inl w)] [] σ := by
  obtain ⟨es, e1, e2⟩ := h.lg
  refine Wp.mono (ct_X6_log σ k w es e1 hk hw) (fun z τ hz => ?_)
  obtain ⟨z1, z2⟩ := hz
  subst z2
  refine Wp.mono (cm_log τ k w es e2 hk hw) (fun y υ hy => ?_)
  obtain ⟨y1, y2⟩ := hy
  subst y2
  exact ⟨by rw [y1, z1], (h.go (fun _ _ => rfl)).fc (cEq.put0 τ)⟩
theorem bo_best (σ : St) (op : Int) (ho : InR op) (h : RelS σ σ) : Wp mX6_best 3 (fun z τ => Wp mX7_best 3 (fun y υ => y = z ∧ RelS υ υ) 0 [some (.inr 7), some (.inl op), none] [] τ) 0 [some (.inr 6), some (.inl op), none, none, none] [] σ := by
  refine Wp.mono (ct_X6_best σ op h.c ho) (fun z τ hz => ?_)
  obtain ⟨z1, z2⟩ := hz
  have h1 : RelS σ τ := h.fm (mEq.w ⟨fun k k1 k2 => z2.m k (Or.inr k1), fun j _ => by rw [z2.m 7 (Or.inl rfl)]⟩ _)
  refine Wp.mono (cm_best τ op (if op = 0 then 1 else 0) h1.w ho (by split <;> omega)) (fun y υ hy => ?_)
  obtain ⟨y1, y2⟩ := hy
  refine ⟨?_, (h1.fm (y2.q.w _)).fc (z2.q.trans y2.k)⟩
  generalize (if op = 0 then (1 : Int) else 0) = kd at z1 y1
  rcases z1 with ⟨z1, z3⟩ | ⟨z1, z3, z4, z5⟩
  · rcases y1 with ⟨y1, y3⟩ | ⟨y1, y3, y4, y5⟩
    · rw [z1, y1]
    · exact absurd ((h1.fit kd y).mp y4) (z3 y y1)
  · rcases y1 with ⟨y1, y3⟩ | ⟨y1, y3, y4, y5⟩
    · exact absurd ((h1.fit kd z).mpr z4) (y3 z z1 z3)
    · rcases Int.lt_trichotomy y z with q | q | q
      · exact absurd ((h1.fit kd z).mpr z4) (y5 z q z3)
      · exact q
      · exact absurd ((h1.fit kd y).mp y4) (z5 y q y3)

theorem bo_on (σ : St) (s w : Int) (hs : InR s) (hw : InR w) (h : RelS σ σ) (hok : 0 ≤ s ∧ s < σ 5 2 ∧ 0 ≤ w ∧ w ≤ 7) : Wp mX6_on 4 (fun z τ => Wp mX7_on 4 (fun y υ => y = z ∧ υ 7 0 = 0 ∧ RelS υ υ) 0 [some (.inr 7), some (.inl s), some (.inl w)] [] τ) 0 [some (.inr 6), some (.inl s), some (.inl w)] [] σ := by
  refine Wp.mono (ct_X6_on σ s w h.c ⟨hok.1, hok.2.1⟩ hok.2.2) (fun z τ hz => ?_)
  obtain ⟨z1, z2⟩ := hz
  subst z2
  obtain ⟨q1, q4, q6, q11, q12⟩ := h.eq
  refine Wp.mono (cm_on τ s w h.w hs hw) (fun y υ hy => ?_)
  obtain ⟨y1, y2⟩ := hy.1 (by first | exact hok | (rw [q1]; exact hok) | (rw [q4]; exact hok) | (rw [q6]; exact hok))
  have h1 := h.go (τ := τ) (fun _ _ => rfl)
  have f : frM (put τ 7 0 0) υ := frM.of y2
  refine ⟨?_, by rw [y2 7 (by omega)]; simp [put_eq], (h1.fm (f.q.w _)).fc ((cEq.put0 τ).trans f.k)⟩
  have hb := h.nb0
  rw [q6] at y1
  have es := h.sh s hok.1 hok.2.1
  rcases z1 with ⟨rfl, z1⟩ | ⟨rfl, z1⟩ | ⟨rfl, z1⟩ | ⟨rfl, z1⟩ | ⟨rfl, z1⟩ | ⟨rfl, z1⟩ | ⟨rfl, z1⟩ | ⟨rfl, z1⟩
  all_goals simp at y1
  · rw [z1, y1, es.2.2.2.2.1]
  · rw [z1, y1, es.2.2.2.2.2]
  · rw [z1, y1]; exact sumW_congr (fun b b0 b1 => ⟨(hb b b0 b1).2.2.1, (hb b b0 b1).2.1⟩)
  · rw [z1, y1, es.2.2.2.2.1, sumW_congr (row2 := τ 11) (amt2 := τ 9) (fun b b0 b1 => ⟨(hb b b0 b1).2.2.1, (hb b b0 b1).2.1⟩)]
  · rw [z1, y1]; exact sumW_congr (fun b b0 b1 => ⟨(hb b b0 b1).2.2.1, h.nd b0 b1⟩)
  · rw [z1, y1]; exact yrF_congr es.2.2.2.2.1 (fun b b0 b1 => ⟨(hb b b0 b1).2.2.1, (hb b b0 b1).2.1, h.nd b0 b1⟩)
  · exact (y1.congr (fun b b0 b1 => (hb b b0 b1).2.2.1)).uniq z1
  · rw [z1, y1]; exact cntW_congr (fun b b0 b1 => (hb b b0 b1).2.2.1)

theorem bx_on (σ : St) (s w : Int) (hs : InR s) (hw : InR w) (h : RelS σ σ) (hno : ¬ (0 ≤ s ∧ s < σ 5 2 ∧ 0 ≤ w ∧ w ≤ 7)) : Wp mX7_on 4 (fun y υ => υ 7 0 = 1 ∧ RelS υ υ) 0 [some (.inr 7), some (.inl s), some (.inl w)] [] σ := by
  obtain ⟨q1, q4, q6, q11, q12⟩ := h.eq
  refine Wp.mono (cm_on σ s w h.w hs hw) (fun y υ hy => ?_)
  obtain ⟨-, y2⟩ := hy.2 (by first | exact hno | (rw [q1]; exact hno) | (rw [q4]; exact hno) | (rw [q6]; exact hno))
  subst y2
  refine ⟨by simp [put_eq], (h.fm ((frM.raised σ 1).q.w _)).fc (frM.raised σ 1).k⟩

theorem bo_in (σ : St) (g w : Int) (hs : InR g) (hw : InR w) (h : RelS σ σ) (hok : 0 ≤ g ∧ g < σ 2 1 ∧ 0 ≤ w ∧ w ≤ 4) : Wp mX6_in 2 (fun z τ => Wp mX7_in 2 (fun y υ => y = z ∧ υ 7 0 = 0 ∧ RelS υ υ) 0 [some (.inr 7), some (.inl g), some (.inl w)] [] τ) 0 [some (.inr 6), some (.inl g), some (.inl w)] [] σ := by
  refine Wp.mono (ct_X6_in σ g w h.c ⟨hok.1, hok.2.1⟩ hok.2.2) (fun z τ hz => ?_)
  obtain ⟨z1, z2⟩ := hz
  subst z2
  obtain ⟨q1, q4, q6, q11, q12⟩ := h.eq
  refine Wp.mono (cm_in τ g w h.w hs hw) (fun y υ hy => ?_)
  obtain ⟨y1, y2⟩ := hy.1 (by first | exact hok | (rw [q1]; exact hok) | (rw [q4]; exact hok) | (rw [q6]; exact hok))
  have h1 := h.go (τ := τ) (fun _ _ => rfl)
  have f : frM (put τ 7 0 0) υ := frM.of y2
  refine ⟨?_, by rw [y2 7 (by omega)]; simp [put_eq], (h1.fm (f.q.w _)).fc ((cEq.put0 τ).trans f.k)⟩
  have hb := h.nb0
  rw [q6] at y1
  have es := h.gr g hok.1 hok.2.1
  rcases z1 with ⟨rfl, z1⟩ | ⟨rfl, z1⟩ | ⟨rfl, z1⟩ | ⟨rfl, z1⟩ | ⟨rfl, z1⟩
  all_goals simp at y1
  · rw [z1, y1, es.2.2]
  · rw [z1, y1]; exact cntW_congr (fun b b0 b1 => (hb b b0 b1).1)
  · rw [z1, y1]; exact sumW_congr (fun b b0 b1 => ⟨(hb b b0 b1).1, (hb b b0 b1).2.1⟩)
  · exact (y1.congr (fun b b0 b1 => (hb b b0 b1).1)).uniq z1
  · rw [z1, y1, shlF_congr (grp2 := τ 8) (shf2 := τ 11) (fun b b0 b1 => ⟨(hb b b0 b1).1, (hb b b0 b1).2.2.1⟩)]

theorem bx_in (σ : St) (g w : Int) (hs : InR g) (hw : InR w) (h : RelS σ σ) (hno : ¬ (0 ≤ g ∧ g < σ 2 1 ∧ 0 ≤ w ∧ w ≤ 4)) : Wp mX7_in 2 (fun y υ => υ 7 0 = 1 ∧ RelS υ υ) 0 [some (.inr 7), some (.inl g), some (.inl w)] [] σ := by
  obtain ⟨q1, q4, q6, q11, q12⟩ := h.eq
  refine Wp.mono (cm_in σ g w h.w hs hw) (fun y υ hy => ?_)
  obtain ⟨-, y2⟩ := hy.2 (by first | exact hno | (rw [q1]; exact hno) | (rw [q4]; exact hno) | (rw [q6]; exact hno))
  subst y2
  refine ⟨by simp [put_eq], (h.fm ((frM.raised σ 1).q.w _)).fc (frM.raised σ 1).k⟩

theorem bo_of (σ : St) (b w : Int) (hs : InR b) (hw : InR w) (h : RelS σ σ) (hok : 0 ≤ b ∧ b < σ 0 6 ∧ 0 ≤ w ∧ w ≤ 6) : Wp mX6_of 1 (fun z τ => Wp mX7_of 3 (fun y υ => y = z ∧ υ 7 0 = 0 ∧ RelS υ υ) 0 [some (.inr 7), some (.inl b), some (.inl w)] [] τ) 0 [some (.inr 6), some (.inl b), some (.inl w)] [] σ := by
  refine Wp.mono (ct_X6_of σ b w h.c ⟨hok.1, hok.2.1⟩ hok.2.2) (fun z τ hz => ?_)
  obtain ⟨z1, z2⟩ := hz
  subst z2
  obtain ⟨q1, q4, q6, q11, q12⟩ := h.eq
  refine Wp.mono (cm_of τ b w h.w hs hw) (fun y υ hy => ?_)
  obtain ⟨y1, y2⟩ := hy.1 (by first | exact hok | (rw [q1]; exact hok) | (rw [q4]; exact hok) | (rw [q6]; exact hok))
  have h1 := h.go (τ := τ) (fun _ _ => rfl)
  have f : frM (put τ 7 0 0) υ := frM.of y2
  refine ⟨?_, by rw [y2 7 (by omega)]; simp [put_eq], (h1.fm (f.q.w _)).fc ((cEq.put0 τ).trans f.k)⟩
  have hb := h.nb0
  have es := hb b hok.1 hok.2.1
  rcases z1 with ⟨rfl, z1⟩ | ⟨rfl, z1⟩ | ⟨rfl, z1⟩ | ⟨rfl, z1⟩ | ⟨rfl, z1⟩ | ⟨rfl, z1⟩ | ⟨rfl, z1⟩
  all_goals simp at y1
  · rw [z1, y1, es.1]
  · rw [z1, y1, es.2.1]
  · rw [z1, y1, h.nd hok.1 hok.2.1]
  · rw [z1, y1, es.2.2.1]
  · rw [z1, y1, es.2.2.1]; exact sumW_congr (fun x x0 x1 => ⟨(hb x x0 (by omega)).2.2.1, (hb x x0 (by omega)).2.1⟩)
  · rw [z1, y1, es.2.2.2]
  · rcases z1 with ⟨z1, z2⟩ | ⟨z1, z2⟩
    · obtain ⟨p1, p2, p3, p4, p5, p6, p7, p8⟩ := h.pw z1
      rw [z2, y1, if_neg (by omega)]
      exact p8 b hok.1 hok.2.1
    · rw [z2, y1, if_pos (h.np (by omega)).1]

theorem bx_of (σ : St) (b w : Int) (hs : InR b) (hw : InR w) (h : RelS σ σ) (hno : ¬ (0 ≤ b ∧ b < σ 0 6 ∧ 0 ≤ w ∧ w ≤ 6)) : Wp mX7_of 3 (fun y υ => υ 7 0 = 1 ∧ RelS υ υ) 0 [some (.inr 7), some (.inl b), some (.inl w)] [] σ := by
  obtain ⟨q1, q4, q6, q11, q12⟩ := h.eq
  refine Wp.mono (cm_of σ b w h.w hs hw) (fun y υ hy => ?_)
  obtain ⟨-, y2⟩ := hy.2 (by first | exact hno | (rw [q1]; exact hno) | (rw [q4]; exact hno) | (rw [q6]; exact hno))
  subst y2
  refine ⟨by simp [put_eq], (h.fm ((frM.raised σ 1).q.w _)).fc (frM.raised σ 1).k⟩

