theorem RelS.step {κ μ κ2 μ2 : St} (h : RelS κ μ) (hd : κ 4 6 < κ 4 5) (hc : StC κ κ2) (hm : StM μ μ2) : RelS κ2 μ2 := by
  obtain ⟨c1, c2, c3, c4, c5, c6, c7, c8, c9⟩ := hc
  obtain ⟨m1, m2, m3, m4, m5, m6, m7, m8⟩ := hm
  obtain ⟨q1, q4, q6, q11, q12⟩ := h.eq
  rcases h.pr with p | p
  · omega
  obtain ⟨p1, p2, p3, p4, p5, p6, p7, p8, p9, p10, p11⟩ := p
  have r := p8 (κ 4 6) p2 p3
  have rb := h.bk (κ 51 (κ 4 6)) r.1 r.2.1
  have r10 := p10 (κ 4 6) (Int.le_refl _) p3
  rw [p7, r.2.2.2.2.2.1, r.2.2.2.2.2.2.2] at m1 m2
  rw [p7, r.2.2.2.2.2.1] at m3
  rw [p7, p6, p1] at m6
  rw [p7] at m5
  have k2 := c9 2 (by decide) (by decide) (by decide) (by decide) (by decide) (by decide)
  have k5 := c9 5 (by decide) (by decide) (by decide) (by decide) (by decide) (by decide)
  have k6 := c9 6 (by decide) (by decide) (by decide) (by decide) (by decide) (by decide)
  have k8 := c9 8 (by decide) (by decide) (by decide) (by decide) (by decide) (by decide)
  have k9 := c9 9 (by decide) (by decide) (by decide) (by decide) (by decide) (by decide)
  have k10 := c9 10 (by decide) (by decide) (by decide) (by decide) (by decide) (by decide)
  have k48 := c9 48 (by decide) (by decide) (by decide) (by decide) (by decide) (by decide)
  have k50 := c9 50 (by decide) (by decide) (by decide) (by decide) (by decide) (by decide)
  have k51 := c9 51 (by decide) (by decide) (by decide) (by decide) (by decide) (by decide)
  have k52 := c9 52 (by decide) (by decide) (by decide) (by decide) (by decide) (by decide)
  have k53 := c9 53 (by decide) (by decide) (by decide) (by decide) (by decide) (by decide)
  have k54 := c9 54 (by decide) (by decide) (by decide) (by decide) (by decide) (by decide)
  have k55 := c9 55 (by decide) (by decide) (by decide) (by decide) (by decide) (by decide)
  have k56 := c9 56 (by decide) (by decide) (by decide) (by decide) (by decide) (by decide)
  have g57 := m8 57 (by decide) (by decide) (by decide) (by decide)
  have g58 := m8 58 (by decide) (by decide) (by decide) (by decide)
  have g59 := m8 59 (by decide) (by decide) (by decide) (by decide)
  have g60 := m8 60 (by decide) (by decide) (by decide) (by decide)
  have g61 := m8 61 (by decide) (by decide) (by decide) (by decide)
  have g71 := m8 71 (by decide) (by decide) (by decide) (by decide)
  have g72 := m8 72 (by decide) (by decide) (by decide) (by decide)
  have g73 := m8 73 (by decide) (by decide) (by decide) (by decide)
  have g74 := m8 74 (by decide) (by decide) (by decide) (by decide)
  refine ⟨by rw [k5]; exact h.ns, by rw [k5, k55, k56, g57, g58]; exact h.sh, by rw [k2]; exact h.ng, by rw [k2, k48, g59]; exact h.gr, by rw [c4]; exact h.nb, fun b b0 b1 => ?_, by rw [c4, k8, k9, k10, k48]; exact h.ne, by rw [k6]; exact h.lm, ?_, ?_, ?_⟩
  · rw [c4] at b1
    have a := h.bk b b0 b1
    rw [k8, k2, k9, k5, c2, c3, g60, g61, m2, m3]
    unfold upF
    by_cases e : b = κ 51 (κ 4 6)
    · rw [if_pos e, if_pos e, if_pos e, if_pos e]
      refine ⟨a.1, a.2.1, a.2.2.1, a.2.2.2.1, r.2.2.2.1, r.2.2.2.2.1, a.2.2.2.2.2.2.1, a.2.2.2.2.2.2.2.1, rfl, ?_⟩
      rw [rb.2.2.2.2.2.2.2.2.2]
    · rw [if_neg e, if_neg e, if_neg e, if_neg e]
      exact a
  · rw [m7 1 (by decide) (by decide) (by decide) (by decide), m7 4 (by decide) (by decide) (by decide) (by decide), m7 6 (by decide) (by decide) (by decide) (by decide), m7 12 (by decide) (by decide) (by decide) (by decide), m4, k5, k2, c4, c5, k6, q11]
    exact ⟨q1, q4, q6, rfl, q12⟩
  · by_cases hl : κ 4 6 + 1 < κ 4 5
    · rw [if_pos hl] at c6 c7
      rw [if_neg (by omega)] at m6
      right
      rw [c6, c7, c8, c4, k51, k52, k9, k54, k5, k53, k50, c2, m6, m5, m7 22 (by decide) (by decide) (by decide) (by decide), m7 23 (by decide) (by decide) (by decide) (by decide), g71, g72, g73, g74]
      refine ⟨rfl, by omega, hl, p4, p5, p6, rfl, p8, p9, fun k k0 k1 => ?_, p11⟩
      have hne : κ 51 k ≠ κ 51 (κ 4 6) := fun q => by
        have := p11 k (κ 4 6) (by omega) k1 p2 p3 q
        omega
      unfold upF
      rw [if_neg hne]
      exact p10 k (by omega) k1
    · rw [if_neg hl] at c6 c7
      rw [if_pos (by omega)] at m6
      exact Or.inl ⟨m6, c6, c7⟩
  · obtain ⟨es, e1, e2⟩ := h.lg
    refine ⟨_, c1 es e1, ?_⟩
    have x := m1 es e2
    rw [rb.2.2.2.2.2.2.2.1, rb.2.2.2.2.2.2.2.2.1, ← r10, ← r.2.2.1] at x
    exact x
theorem ItC.m {σ : St} : ∀ (k : Nat) (τ : St), ItC k σ τ → ∀ i, i = 7 ∨ 56 < i → τ i = σ i := by
  intro k
  induction k with
  | zero => intro τ h i _; rw [h]
  | succ k ih =>
    rintro τ ⟨υ, h1, h2⟩ i hi
    rw [h2.2.2.2.2.2.2.2.2 i (by omega) (by omega) (by omega) (by omega) (by omega) (by omega)]
    exact ih υ h1 i hi
theorem ItM.c {σ : St} : ∀ (k : Nat) (τ : St), ItM k σ τ → ∀ i, i ≠ 7 → i < 57 → τ i = σ i := by
  intro k
  induction k with
  | zero => intro τ h i _ _; rw [h]
  | succ k ih =>
    rintro τ ⟨υ, h1, h2⟩ i i7 hi
    rw [h2.2.2.2.2.2.2.2 i i7 (by omega) (by omega) (by omega)]
    exact ih υ h1 i i7 hi
theorem RelS.it {κ μ : St} (h : RelS κ μ) (hd : κ 4 6 < κ 4 5) : ∀ (k : Nat) (κ2 μ2 : St), (k : Int) ≤ κ 4 5 - κ 4 6 → ItC k κ κ2 → ItM k μ μ2 → RelS κ2 μ2 ∧ ((k : Int) < κ 4 5 - κ 4 6 → κ2 4 6 = κ 4 6 + k ∧ κ2 4 5 = κ 4 5) := by
  intro k
  induction k with
  | zero => intro κ2 μ2 _ h1 h2; rw [h1, h2]; exact ⟨h, fun _ => ⟨by omega, rfl⟩⟩
  | succ k ih =>
    rintro κ2 μ2 hk ⟨κ1, a1, a2⟩ ⟨μ1, b1, b2⟩
    have r := ih κ1 μ1 (by omega) a1 b1
    have r2 := r.2 (by omega)
    refine ⟨r.1.step (by omega) a2 b2, fun hk2 => ?_⟩
    have s6 := a2.2.2.2.2.2.1
    have s7 := a2.2.2.2.2.2.2.1
    rw [if_pos (by omega)] at s6 s7
    omega

set_option maxRecDepth 100000 in
set_option maxHeartbeats 4000000 in
theorem bo_move (σ : St)  (h : RelS σ σ) : Wp mX6_move 3 (fun z τ => Wp mX7_move 3 (fun y υ => y = z ∧ RelS υ υ) 0 [some (.inr 7)] [] τ) 0 [some (.inr 6)] [] σ := by
  refine Wp.mono (ct_X6_move σ h.c) (fun z τ hz => ?_)
  have h1 : RelS σ (put τ 7 0 0) := h.go (fun i hi => by
    by_cases c : σ 4 6 < σ 4 5
    · exact (hz.1 c).2.2.2.2.2.2.2.2.2 i (by omega) (by omega) (by omega) (by omega) (by omega) (by omega)
    · rw [(hz.2 c).2])
  refine c0_move τ (Wp.mono (ct5_move (put τ 7 0 0) h1.m) (fun y υ hy => ?_))
  obtain ⟨ρ, hρ⟩ : ∃ ρ, ρ = put τ 7 0 0 := ⟨_, rfl⟩
  have h0 : cEq τ ρ := by rw [hρ]; exact cEq.put0 τ
  rw [← hρ] at h1 hy
  clear hρ
  have hI := h1.c
  have hW := h1.w
  obtain ⟨q1, q4, q6, q11, q12⟩ := h1.eq
  have hnb := h1.nb
  have hns := h1.ns
  by_cases hd : σ 4 6 < σ 4 5
  · obtain ⟨z1, z2⟩ := hz.1 hd
    have hp := h1.pw hd
    obtain ⟨y1, y2⟩ := hy.1 hp.1
    refine ⟨?_, (h1.step hd z2 y2).fc (cEq.trans h0 (fun k k1 k7 k2 k3 => y2.2.2.2.2.2.2.2 k k7 (by omega) (by omega) (by omega)))⟩
    rw [z1, y1, hp.2.2.2.1]
    exact (hp.2.2.2.2.2.2.1 (σ 4 6) hp.2.2.2.2.1 hd).1
  · obtain ⟨z1, z2⟩ := hz.2 hd
    obtain ⟨y1, y2⟩ := hy.2 (by rw [(h1.np hd).1]; decide)
    exact ⟨by rw [z1, y1], by rw [y2]; exact h1.fc (cEq.trans (by rw [z2]; exact fun k _ _ _ _ => rfl) h0)⟩

set_option maxRecDepth 100000 in
set_option maxHeartbeats 4000000 in
theorem bo_day (σ : St)  (h : RelS σ σ) : Wp mX6_day 3 (fun z τ => Wp mX7_day 3 (fun y υ => y = z ∧ RelS υ υ) 0 [some (.inr 7), none, none, none] [] τ) 0 [some (.inr 6), none, none] [] σ := by
  refine Wp.mono (ct_X6_day σ h.c) (fun z τ hz => ?_)
  have h1 : RelS σ (put τ 7 0 0) := h.go (fun i hi => by
    by_cases c : σ 4 6 < σ 4 5
    · exact ItC.m _ _ (hz.1 c).2 i hi
    · rw [(hz.2 c).2])
  refine c0_day τ (Wp.mono (ct5_day (put τ 7 0 0) h1.m) (fun y υ hy => ?_))
  obtain ⟨ρ, hρ⟩ : ∃ ρ, ρ = put τ 7 0 0 := ⟨_, rfl⟩
  have h0 : cEq τ ρ := by rw [hρ]; exact cEq.put0 τ
  rw [← hρ] at h1 hy
  clear hρ
  have hI := h1.c
  have hW := h1.w
  obtain ⟨q1, q4, q6, q11, q12⟩ := h1.eq
  have hnb := h1.nb
  have hns := h1.ns
  by_cases hd : σ 4 6 < σ 4 5
  · obtain ⟨z1, z2⟩ := hz.1 hd
    have hp := h1.pw hd
    obtain ⟨y1, y2⟩ := hy.1 hp.1
    rw [hp.2.2.2.1, hp.2.2.1, q12] at y1
    have y3 := y1.congr (u := σ 52) (fun k k0 k1 => (hp.2.2.2.2.2.2.1 k (by omega) k1).2.2.2)
    have e := y3.uniq (fun k k0 k1 => (hI.pw k (by omega) k1).1) z1
    subst e
    have hz1 := z1.1
    have hz2 := z1.2.1
    have r := (h1.it hd y.toNat τ υ (by omega) z2 y2).1
    exact ⟨rfl, r.fc (cEq.trans h0 (fun k k1 k7 k2 k3 => ItM.c _ _ y2 k k7 k3))⟩
  · obtain ⟨z1, z2⟩ := hz.2 hd
    obtain ⟨y1, y2⟩ := hy.2 (by rw [(h1.np hd).1]; decide)
    exact ⟨by rw [z1, y1], by rw [y2]; exact h1.fc (cEq.trans (by rw [z2]; exact fun k _ _ _ _ => rfl) h0)⟩

set_option maxRecDepth 100000 in
set_option maxHeartbeats 4000000 in
theorem bo_plan (σ : St) (yy : Int) (hyy : InR yy) (h : RelS σ σ) : Wp mX6_plan 4 (fun z τ => Wp mX7_plan 3 (fun y υ => y = z ∧ RelS υ υ) 0 [some (.inr 7), some (.inl yy), none] [] τ) 0 [some (.inr 6), some (.inl yy)] [] σ := by
  refine Wp.mono (ct_X6_plan σ yy h.c hyy) (fun z τ hz => ?_)
  have h1 : RelS σ (put τ 7 0 0) := h.go (fun i hi => by
    by_cases c : 0 ≤ yy ∧ yy ≤ 999
    · obtain ⟨L, -, zz⟩ := hz.2 c
      rcases zz with ⟨-, -, zc⟩ | ⟨-, tk, go, -, -, -, -, -, -, -, z9⟩
      · exact zc.m i hi
      · exact z9 i (by omega) (by omega) (by omega) (by omega)
    · exact (hz.1 c).2.m i hi)
  refine c0_plan τ (Wp.mono (ct5_plan (put τ 7 0 0) yy h1.m hyy) (fun y υ hy => ?_))
  obtain ⟨ρ, hρ⟩ : ∃ ρ, ρ = put τ 7 0 0 := ⟨_, rfl⟩
  have h0 : cEq τ ρ := by rw [hρ]; exact cEq.put0 τ
  rw [← hρ] at h1 hy
  clear hρ
  have hI := h1.c
  have hW := h1.w
  obtain ⟨q1, q4, q6, q11, q12⟩ := h1.eq
  have hnb := h1.nb
  have hns := h1.ns
  by_cases hc : 0 ≤ yy ∧ yy ≤ 999
  · obtain ⟨L, L1, zz⟩ := hz.2 hc
    obtain ⟨K, K1, yz⟩ := hy.2 hc
    have cpe := h1.cp1 yy
    rw [q1, q6] at K1
    have K3 := K1.move cpe.1 cpe.2
    have e0 := L1.uniq K3 0 (by omega) hns.1 0 (by omega) hnb.1
    rcases zz with ⟨za, zb, zc⟩ | ⟨za, tk, go, z3, z4, z1, z5, z6, z7, z8, z9⟩
    · rcases yz with ⟨ya, yb, yc⟩ | yz
      · exact ⟨by rw [zb, yb], (h1.fm (yc.q.w _)).fc (zc.q.trans (h0.trans yc.k))⟩
      · have := yz.1; omega
    · rcases yz with ⟨ya, yb, yc⟩ | ⟨ya, uk, ho, y3, y4, y1, y5, y6, y7, y8, y9, y10, y11⟩
      · omega
      · rw [q1, q6] at y3
        rw [q1] at y4
        rw [q6] at y1 y5 y8 y9
        have hbb := h1.nb0
        have y3' := y3.move hnb.1 cpe.1 cpe.2
        have hsum := z3.sum (h1.c.cp hc) L1 za
        have hgo := z4.uniq hns.1 y4 (z3.uniq hnb.1 L1 K3 y3')
        rw [hsum] at hgo
        have hml : mvL ho (ρ 62) (σ 0 6) = mvL go (σ 11) (σ 0 6) := mvL_congr (fun b b0 b1 => ⟨(hgo b b0 b1).1.symm, (hbb b b0 b1).2.2.1⟩)
        rw [hml] at y1 y5 y8
        have hmm := fun b => mvL_mem go (σ 11) (b := b) hnb.1
        have hnd := mvL_nd go (σ 11) (σ 0 6)
        have hlen := mv_len go (σ 11) (σ 0 6).toNat
        have hlen2 : (mvL go (σ 11) (σ 0 6)).length ≤ 60 := by unfold mvL; rw [List.length_append]; omega
        clear hlen
        generalize mvL go (σ 11) (σ 0 6) = l at *
        have cs : ∀ k, k ≠ 1 → k ≠ 4 → (k < 14 ∨ 47 < k) → (k < 50 ∨ 54 < k) → τ k = σ k := z9
        have c0 := cs 0 (by decide) (by decide) (by omega) (by omega)
        have c2 := cs 2 (by decide) (by decide) (by omega) (by omega)
        have c3 := cs 3 (by decide) (by decide) (by omega) (by omega)
        have c5 := cs 5 (by decide) (by decide) (by omega) (by omega)
        have c6 := cs 6 (by decide) (by decide) (by omega) (by omega)
        have c8 := cs 8 (by decide) (by decide) (by omega) (by omega)
        have c9 := cs 9 (by decide) (by decide) (by omega) (by omega)
        have c10 := cs 10 (by decide) (by decide) (by omega) (by omega)
        have c11 := cs 11 (by decide) (by decide) (by omega) (by omega)
        have c12 := cs 12 (by decide) (by decide) (by omega) (by omega)
        have c48 := cs 48 (by decide) (by decide) (by omega) (by omega)
        have c49 := cs 49 (by decide) (by decide) (by omega) (by omega)
        have c55 := cs 55 (by decide) (by decide) (by omega) (by omega)
        have c56 := cs 56 (by decide) (by decide) (by omega) (by omega)
        have mk : ∀ k, k ≠ 7 → (k < 65 ∨ 74 < k) → υ k = ρ k := y11
        have hpr : PR τ υ := by
          by_cases hl : 0 < l.length
          · rw [if_pos hl] at y8
            right
            have get : ∀ k, 0 ≤ k → k < τ 4 5 → ∃ b, l[k.toNat]? = some b ∧ b ∈ l ∧ τ 51 k = b ∧ τ 52 k = σ 9 b ∧ τ 53 k = σ 11 b ∧ τ 54 k = go b ∧ υ 71 k = b ∧ υ 72 k = ρ 62 b ∧ υ 73 k = ho b := by
              intro k k0 k1
              rw [z5.1] at k1
              have hk : k.toNat < l.length := by omega
              have hb := List.getElem?_eq_getElem hk
              have a := z5.2 _ _ hb
              have c := y5.2 _ _ hb
              rw [show ((k.toNat : Nat) : Int) = k by omega] at a c
              exact ⟨_, hb, List.getElem_mem hk, a.1, a.2.1, a.2.2.1, a.2.2.2, c.1, c.2.1, c.2.2⟩
            refine ⟨y8, by omega, by rw [z5.1, z6]; omega, by rw [z5.1]; omega, by rw [y7, z7], by rw [y5.1, z5.1], by rw [y6, z6], fun k k0 k1 => ?_, fun b b0 b1 => ?_, fun k k0 k1 => ?_, fun i j i0 i1 j0 j1 hij => ?_⟩
            · obtain ⟨b, -, bm, b1, b2, b3, b4, b5, b6, b7⟩ := get k k0 k1
              have bm2 := (hmm b).mp bm
              have gg := hgo b bm2.1 bm2.2.1
              rw [b1, b2, b3, b4, b5, b6, b7, c0, c9, c5]
              exact ⟨bm2.1, bm2.2.1, rfl, gg.2.1, gg.2.2, rfl, (hbb b bm2.1 bm2.2.1).2.2.1, gg.1.symm⟩
            · rw [c0] at b1
              rw [z8 b b0 b1, y9 b b0 b1]
              exact (hgo b b0 b1).1.symm
            · obtain ⟨b, -, bm, b1, b2, b3, b4, b5, b6, b7⟩ := get k (by omega) k1
              rw [b3, b1, c11]
            · obtain ⟨b, x1, -, b1, -⟩ := get i i0 i1
              obtain ⟨c, x2, -, c1, -⟩ := get j j0 j1
              rw [b1, c1] at hij
              rw [← hij] at x2
              have hi := (List.getElem?_eq_some_iff.mp x1)
              have hj := (List.getElem?_eq_some_iff.mp x2)
              obtain ⟨hi1, hi2⟩ := hi
              obtain ⟨hj1, hj2⟩ := hj
              have := (List.pairwise_iff_getElem.mp hnd)
              rcases Nat.lt_trichotomy i.toNat j.toNat with q | q | q
              · exact absurd (hi2.trans hj2.symm) (this _ _ hi1 hj1 q)
              · omega
              · exact absurd (hj2.trans hi2.symm) (this _ _ hj1 hi1 q)
          · rw [if_neg hl] at y8
            exact Or.inl ⟨y8, by rw [z5.1]; omega, z6⟩
        refine ⟨by rw [z1, y1], RelS.fc (κ := τ) ?_ (cEq.trans h0 (fun k k1 k7 k2 k3 => mk k k7 (by omega)))⟩
        refine ⟨by rw [c5]; exact hns, ?_, by rw [c2]; exact h1.ng, by rw [c2, c48, mk 59 (by decide) (by omega)]; exact h1.gr, by rw [c0]; exact hnb, ?_, by rw [c0, c8, c9, c10, c48]; exact h1.ne, by rw [c6]; exact h1.lm, ?_, hpr, ?_⟩
        · rw [c5, c55, c56, mk 57 (by decide) (by omega), mk 58 (by decide) (by omega)]; exact h1.sh
        · rw [c0, c8, c2, c9, c11, c5, c12, mk 60 (by decide) (by omega), mk 61 (by decide) (by omega), mk 62 (by decide) (by omega), mk 63 (by decide) (by omega)]; exact h1.bk
        · rw [c5, c2, c0, c6, y10 1 (by decide) (by decide) (by decide) (by decide), y10 4 (by decide) (by decide) (by decide) (by decide), y10 6 (by decide) (by decide) (by decide) (by decide), y10 11 (by decide) (by decide) (by decide) (by decide), y10 12 (by decide) (by decide) (by decide) (by decide)]
          exact ⟨q1, q4, q6, q11, q12⟩
        · obtain ⟨es, e1, e2⟩ := h1.lg
          exact ⟨es, e1.keep c3 c49, e2.keep (y10 14 (by decide) (by decide) (by decide) (by decide)) (mk 64 (by decide) (by omega))⟩
  · obtain ⟨z1, z2⟩ := hz.1 hc
    obtain ⟨y1, y2⟩ := hy.1 hc
    exact ⟨by rw [z1, y1], (h1.fm (y2.q.w _)).fc (z2.q.trans (h0.trans y2.k))⟩

