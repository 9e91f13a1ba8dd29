theorem del_sh (f : Int → Int) (p j : Int) : del f p j = f (shf1 p j) := by
  unfold del shf1
  by_cases e : j < p
  · rw [if_pos e, if_pos e]
  · rw [if_neg e, if_neg e]
theorem insd (f : Int → Int) (p : Int) : ins (del f p) p (f p) = f := funext (fun _ => ins_del)
theorem nd_del {grp wid : Int → Int} {n g G j p : Int} (hp : 0 ≤ p ∧ p < n) (hg : grp p ≠ g) : ndS (del grp p) (del wid p) (n - 1) g G j = ndS grp wid n g G (shf1 p j) := by
  have r := nd_ins (grp := del grp p) (wid := del wid p) (n := n - 1) (g := g) (G := G) (b := j) (p := p) (g0 := grp p) (w0 := wid p) (by omega) hg
  rw [insd, insd, show n - 1 + 1 = n by omega] at r
  exact r.symm
theorem IsCut.sum {c : CP} {ns n : Int} {L : Int → Int → Int} {tk : Int → Int} (hc : CPok c ns n) (hL : TblL c ns n L) (h : IsCut c ns n L tk) (h0 : L 0 0 < 1000000000) : sumF tk 0 ns = n := by
  have a := h.all hc hL h0 ns hc.1.1 (Int.le_refl ns)
  have b := h.pos hc.2.1.1 ns hc.1.1 (Int.le_refl ns)
  rw [hL.1 _ b.1 b.2] at a
  by_cases e : sumF tk 0 ns = n
  · exact e
  · rw [if_neg e] at a
    omega

set_option maxRecDepth 100000 in
set_option maxHeartbeats 4000000 in
theorem bo_gone (σ : St) (b : Int) (hb : InR b) (h : RelS σ σ) : Wp mX6_gone 3 (fun z τ => Wp mX7_gone 2 (fun y υ => y = z ∧ RelS υ υ) 0 [some (.inr 7), some (.inl b), none] [] τ) 0 [some (.inr 6), some (.inl b), none, none] [] σ := by
  refine Wp.mono (ct_X6_gone σ b h.c hb) (fun z τ hz => ?_)
  have h1 : RelS σ (put τ 7 0 0) := h.go (fun i hi => by
    by_cases c : 0 ≤ b ∧ b < σ 0 6
    · obtain ⟨-, β, γ, ⟨-, -, -, -, a5⟩, z3, z2⟩ := hz.1 c
      rw [z2]; unfold endP; rw [put_ne (by omega), put_ne (by omega), z3.fr (by omega) (by omega)]
      exact a5 i (by omega) (by omega) (by omega) (by omega) (by omega) (by omega) (by omega) (by omega)
    · rw [(hz.2 c).2])
  refine c0_gone τ (Wp.mono (ct5_gone (put τ 7 0 0) b h1.m hb) (fun y υ hy => ?_))
  obtain ⟨ρ, hρ⟩ : ∃ ρ, ρ = put τ 7 0 0 := ⟨_, rfl⟩
  have h0 : cEq τ ρ := by rw [hρ]; exact cEq.put0 τ
  rw [← hρ] at h1 hy
  clear hρ
  have hI := h1.c
  have hW := h1.w
  obtain ⟨q1, q4, q6, q11, q12⟩ := h1.eq
  have hnb := h1.nb
  have hns := h1.ns
  by_cases hc : 0 ≤ b ∧ b < σ 0 6
  · obtain ⟨z1, β, γ, ⟨a1, a2, a3, a4, a5⟩, z3, z2⟩ := hz.1 hc
    obtain ⟨y1, y2, y3, y4, y5, y6, y7⟩ := hy.1 (by rw [q6]; exact hc)
    rw [q6] at y3 y4
    have rb := h1.bk b hc.1 hc.2
    have ck : ∀ k, k ≠ 4 → k ≠ 10 → k ≠ 13 → τ k = β k := fun k k4 k10 k13 => by
      rw [z2]; unfold endP; rw [put_ne k4, put_ne k4, z3.fr k10 k13]
    have cs : ∀ k, k ≠ 0 → k ≠ 3 → k ≠ 4 → (k < 8 ∨ 13 < k) → k ≠ 49 → τ k = σ k := fun k k0 k3 k4 k8 k49 => by
      rw [ck k k4 (by omega) (by omega)]; exact a5 k k0 k3 (by omega) (by omega) (by omega) (by omega) (by omega) k49
    have c10 : τ 10 = γ 10 := by rw [z2]; unfold endP; rw [put_ne (by decide), put_ne (by decide)]
    have c0 := ck 0 (by decide) (by decide) (by decide)
    have c8 := ck 8 (by decide) (by decide) (by decide)
    have c9 := ck 9 (by decide) (by decide) (by decide)
    have c11 := ck 11 (by decide) (by decide) (by decide)
    have c12 := ck 12 (by decide) (by decide) (by decide)
    have c5 := cs 5 (by decide) (by decide) (by decide) (by omega) (by decide)
    have c2 := cs 2 (by decide) (by decide) (by decide) (by omega) (by decide)
    have c6 := cs 6 (by decide) (by decide) (by decide) (by omega) (by decide)
    have c48 := cs 48 (by decide) (by decide) (by decide) (by omega) (by decide)
    have c55 := cs 55 (by decide) (by decide) (by decide) (by omega) (by decide)
    have c56 := cs 56 (by decide) (by decide) (by decide) (by omega) (by decide)
    have m57 := y7 57 (by decide) (by omega)
    have m58 := y7 58 (by decide) (by omega)
    have m59 := y7 59 (by decide) (by omega)
    have hsx : ∀ j, 0 ≤ j → j < σ 0 6 - 1 → 0 ≤ shf1 b j ∧ shf1 b j < σ 0 6 := fun j j0 j1 => by unfold shf1; split <;> omega
    refine ⟨by rw [z1, y1]; exact rb.2.2.2.2.2.2.2.2.1, RelS.fc (κ := τ) ?_ (cEq.trans h0 (fun k k1 k7 k2 k3 => y7 k k7 (by omega)))⟩
    refine ⟨by rw [c5]; exact hns, by rw [c5, c55, c56, m57, m58]; exact h1.sh, by rw [c2]; exact h1.ng, by rw [c2, c48, m59]; exact h1.gr, by rw [c0, a2]; omega, fun j j0 j1 => ?_, fun j j0 j1 => ?_, by rw [c6]; exact h1.lm, ?_, Or.inl ⟨y5, ?_, ?_⟩, ?_⟩
    · rw [c0, a2] at j1
      have r := a1 j j0 j1
      have m := y3 j j0 j1
      have s := hsx j j0 j1
      have t := h1.bk (shf1 b j) s.1 s.2
      rw [c8, c9, c11, c12, c2, c5, r.1, r.2.1, r.2.2.2.1, r.2.2.2.2, m.1, m.2.1, m.2.2.1, m.2.2.2, del_sh, del_sh, del_sh, del_sh, del_sh, del_sh, del_sh, del_sh]
      exact t
    · rw [c0, a2] at j1
      have r := a1 j j0 j1
      have s := hsx j j0 j1
      have t := h1.bk (shf1 b j) s.1 s.2
      have nn := z3.need (by omega) (fun x x0 x1 => by
        rw [a2] at x1
        rw [(a1 x x0 x1).2.1, del_sh]
        exact (h1.bk _ (hsx x x0 x1).1 (hsx x x0 x1).2).2.2.1) j j0 (by omega)
      rw [c8, c9, c0, c48, c10]
      by_cases e : β 8 j = σ 8 b
      · rw [nn.1 e, e]
      · rw [nn.2 e, r.2.2.1, del_sh, h1.ne _ s.1 s.2]
        have e8 : β 8 j = σ 8 (shf1 b j) := by rw [r.1, del_sh]
        have hne : σ 8 b ≠ σ 8 (shf1 b j) := fun q => e (by rw [e8, ← q])
        rw [e8, a2, ← nd_del (wid := σ 9) hc hne]
        exact (ndS_congr (by omega) (fun x x0 x1 => ⟨(a1 x x0 x1).1, (a1 x x0 x1).2.1⟩) j0 j1).symm
    · rw [c5, c2, c0, c6, a2, a3, y6 1 (by decide) (by decide) (by decide), y6 4 (by decide) (by decide) (by decide), y4, y6 11 (by decide) (by decide) (by decide), y6 12 (by decide) (by decide) (by decide)]
      exact ⟨q1, q4, rfl, q11, q12⟩
    · rw [z2]; simp [endP, put_eq]
    · rw [z2]; simp [endP, put_eq]
    · obtain ⟨es, e1, e2⟩ := h1.lg
      refine ⟨_, (a4 es e1).keep (ck 3 (by decide) (by decide) (by decide)) (ck 49 (by decide) (by decide) (by decide)), ?_⟩
      have r := y2 es e2
      rw [rb.2.2.2.2.2.2.2.1, rb.2.2.2.2.2.2.2.2.1] at r
      exact r
  · obtain ⟨z1, z2⟩ := hz.2 hc
    obtain ⟨y1, y2⟩ := hy.2 (by rw [q6]; exact hc)
    exact ⟨by rw [z1, y1], by rw [y2]; exact h1.fc (cEq.trans (by rw [z2]; exact fun k _ _ _ _ => rfl) h0)⟩

set_option maxRecDepth 100000 in
set_option maxHeartbeats 4000000 in
theorem bo_book (σ : St) (g w : Int) (hg : InR g) (hw : InR w) (h : RelS σ σ) : Wp mX6_book 4 (fun z τ => Wp mX7_book 3 (fun y υ => y = z ∧ RelS υ υ) 0 [some (.inr 7), some (.inl g), some (.inl w), none, none, none] [] τ) 0 [some (.inr 6), some (.inl g), some (.inl w), none, none] [] σ := by
  refine Wp.mono (ct_X6_book σ g w h.c hg hw) (fun z τ hz => ?_)
  have h1 : RelS σ (put τ 7 0 0) := h.go (fun i hi => by
    by_cases c : 0 ≤ g ∧ g < σ 2 1 ∧ 1 ≤ w ∧ w ≤ 40 ∧ σ 0 6 < 60
    · obtain ⟨p, L, -, -, zz⟩ := hz.2 c
      rcases zz with ⟨-, -, zc⟩ | ⟨-, -, tk, go, β, γ, -, -, ⟨-, -, -, -, -, a6⟩, z5, -, z7⟩
      · exact zc.m i hi
      · rw [z7 i (by omega) (by omega), z5.fr (by omega) (by omega)]
        exact a6 i (by omega) (by omega) (by omega) (by omega) (by omega) (by omega) (by omega)
    · rw [(hz.1 c).2])
  refine c0_book τ (Wp.mono (ct5_book (put τ 7 0 0) g w h1.m hg hw) (fun y υ hy => ?_))
  obtain ⟨ρ, hρ⟩ : ∃ ρ, ρ = put τ 7 0 0 := ⟨_, rfl⟩
  have h0 : cEq τ ρ := by rw [hρ]; exact cEq.put0 τ
  rw [← hρ] at h1 hy
  clear hρ
  have hI := h1.c
  have hW := h1.w
  obtain ⟨q1, q4, q6, q11, q12⟩ := h1.eq
  have hnb := h1.nb
  have hns := h1.ns
  by_cases hc : 0 ≤ g ∧ g < σ 2 1 ∧ 1 ≤ w ∧ w ≤ 40 ∧ σ 0 6 < 60
  · obtain ⟨p, L, n1, L1, zz⟩ := hz.2 hc
    obtain ⟨p2, K, n2, K1, yy⟩ := hy.2 (by rw [q4, q6]; exact hc)
    have hbb := h1.nb0
    rw [q6] at n2
    have ep := n1.uniq (n2.congr (fun b b0 b1 => (hbb b b0 b1).1))
    subst ep
    have hpp : 0 ≤ p ∧ p ≤ σ 0 6 := ⟨n1.1, n1.2.1⟩
    have cps : ∀ s, 0 ≤ s → s < σ 5 2 → ((ρ 57, ρ 58, ins (ρ 61) p w, ins (ρ 61) p w, ins (ρ 62) p (-1)) : CP).1 s = ((σ 55, σ 56, ins (σ 9) p w, ins (σ 9) p w, ins (σ 11) p (-1)) : CP).1 s ∧ ((ρ 57, ρ 58, ins (ρ 61) p w, ins (ρ 61) p w, ins (ρ 62) p (-1)) : CP).2.1 s = ((σ 55, σ 56, ins (σ 9) p w, ins (σ 9) p w, ins (σ 11) p (-1)) : CP).2.1 s := fun s s0 s1 => ⟨(h1.sh s s0 s1).2.2.2.2.1, (h1.sh s s0 s1).2.2.2.2.2⟩
    have i9 : ∀ b, 0 ≤ b → b < σ 0 6 + 1 → ins (ρ 61) p w b = ins (σ 9) p w b := fun b b0 b1 => ins_congr (fun x x0 x1 => (hbb x x0 x1).2.1) hpp b0 (by omega)
    have cpb : ∀ b, 0 ≤ b → b < σ 0 6 + 1 → ((ρ 57, ρ 58, ins (ρ 61) p w, ins (ρ 61) p w, ins (ρ 62) p (-1)) : CP).2.2.1 b = ((σ 55, σ 56, ins (σ 9) p w, ins (σ 9) p w, ins (σ 11) p (-1)) : CP).2.2.1 b ∧ ((ρ 57, ρ 58, ins (ρ 61) p w, ins (ρ 61) p w, ins (ρ 62) p (-1)) : CP).2.2.2.1 b = ((σ 55, σ 56, ins (σ 9) p w, ins (σ 9) p w, ins (σ 11) p (-1)) : CP).2.2.2.1 b ∧ ((ρ 57, ρ 58, ins (ρ 61) p w, ins (ρ 61) p w, ins (ρ 62) p (-1)) : CP).2.2.2.2 b = ((σ 55, σ 56, ins (σ 9) p w, ins (σ 9) p w, ins (σ 11) p (-1)) : CP).2.2.2.2 b := fun b b0 b1 => ⟨i9 b b0 b1, i9 b b0 b1, ins_congr (fun x x0 x1 => (hbb x x0 x1).2.2.1) hpp b0 (by omega)⟩
    rw [q1, q6] at K1
    have K3 := K1.move cps cpb
    have e0 := L1.uniq K3 0 (by omega) hns.1 0 (by omega) (by omega)
    rcases zz with ⟨za, zb, zc⟩ | ⟨za, z1, tk, go, β, γ, z3, z4, ⟨a1, a2, a3, a4, a5, a6⟩, z5, z6, z7⟩
    · rcases yy with ⟨ya, yb, yc⟩ | yy
      · refine ⟨by rw [zb, yb], (h1.fm ⟨fun k k1 k2 => yc.2.2 k (by omega) (by omega), yc.2.1, fun b b0 b1 => yc.1 b b0 (by rw [q6]; exact b1)⟩).fc (zc.q.trans (h0.trans (fun k k1 k7 k2 k3 => yc.2.2 k k7 (by omega))))⟩
      · have := yy.1; omega
    · rcases yy with ⟨ya, yb, yc⟩ | ⟨ya, y1, uk, ho, y3, y4, y5, y6, y7, y8, y9, y10, y11⟩
      · omega
      · rw [q1, q6] at y3
        rw [q1] at y4
        rw [q6] at y5 y6 y7 y10
        have y3' := y3.move (by omega) cps cpb
        have hCP := h1.c.cp2 hpp hc.2.2.2.2 ⟨hc.2.2.1, hc.2.2.2.1⟩
        have hsum := z3.sum hCP L1 za
        have htk := z3.uniq (by omega) L1 K3 y3'
        have hgo := z4.uniq hns.1 y4 htk
        rw [hsum] at hgo
        have hdg : ∀ b, 0 ≤ b → b < σ 0 6 → del go p b = del ho p b := fun b b0 b1 => by
          rw [del_sh, del_sh]
          exact (hgo _ (by unfold shf1; split <;> omega) (by unfold shf1; split <;> omega)).1
        have hml : mvL (del ho p) (ρ 62) (σ 0 6) = mvL (del go p) (σ 11) (σ 0 6) := mvL_congr (fun b b0 b1 => ⟨(hdg b b0 b1).symm, (hbb b b0 b1).2.2.1⟩)
        have hme : (mvL (del go p) (σ 11) (σ 0 6)).map (mvE (ρ 61) (ρ 62) (del ho p)) = (mvL (del go p) (σ 11) (σ 0 6)).map (mvE (σ 9) (σ 11) (del go p)) := mvE_congr (fun b hb => by
          have hb2 := (mvL_mem _ _ hnb.1).mp hb
          exact ⟨(hbb b hb2.1 hb2.2.1).2.1, (hbb b hb2.1 hb2.2.1).2.2.1, (hdg b hb2.1 hb2.2.1).symm⟩)
        rw [hml] at y7 y10
        rw [hme] at y10
        have ck : ∀ k, k ≠ 3 → k ≠ 49 → k ≠ 10 → k ≠ 13 → τ k = β k := fun k k3 k49 k10 k13 => by rw [z7 k k3 k49, z5.fr k10 k13]
        have cs : ∀ k, k ≠ 0 → k ≠ 1 → k ≠ 3 → k ≠ 4 → k ≠ 49 → (k < 8 ∨ 47 < k) → (k < 50 ∨ 54 < k) → τ k = σ k := fun k k0 k1 k3 k4 k49 k8 k50 => by
          rw [ck k k3 k49 (by omega) (by omega)]; exact a6 k k0 k1 k3 k4 k49 k8 k50
        have c10 : τ 10 = γ 10 := z7 10 (by decide) (by decide)
        have c0 := ck 0 (by decide) (by decide) (by decide) (by decide)
        have c4 := ck 4 (by decide) (by decide) (by decide) (by decide)
        have c8 := ck 8 (by decide) (by decide) (by decide) (by decide)
        have c9 := ck 9 (by decide) (by decide) (by decide) (by decide)
        have c11 := ck 11 (by decide) (by decide) (by decide) (by decide)
        have c12 := ck 12 (by decide) (by decide) (by decide) (by decide)
        have c5 := cs 5 (by decide) (by decide) (by decide) (by decide) (by decide) (by omega) (by omega)
        have c2 := cs 2 (by decide) (by decide) (by decide) (by decide) (by decide) (by omega) (by omega)
        have c6 := cs 6 (by decide) (by decide) (by decide) (by decide) (by decide) (by omega) (by omega)
        have c48 := cs 48 (by decide) (by decide) (by decide) (by decide) (by decide) (by omega) (by omega)
        have c55 := cs 55 (by decide) (by decide) (by decide) (by decide) (by decide) (by omega) (by omega)
        have c56 := cs 56 (by decide) (by decide) (by decide) (by decide) (by decide) (by omega) (by omega)
        have m57 := y11 57 (by decide) (by omega)
        have m58 := y11 58 (by decide) (by omega)
        have m59 := y11 59 (by decide) (by omega)
        have hwd : ∀ x, 0 ≤ x → x ≤ σ 0 6 → 1 ≤ ins (σ 9) p w x ∧ ins (σ 9) p w x ≤ 40 := fun x x0 x1 => by
          unfold ins
          by_cases e : x < p
          · rw [if_pos e]; have := h1.bk x x0 (by omega); omega
          · rw [if_neg e]
            by_cases e2 : x = p
            · rw [if_pos e2]; omega
            · rw [if_neg e2]; have := h1.bk (x - 1) (by omega) (by omega); omega
        have hgp : ∀ x, 0 ≤ x → x ≤ σ 0 6 → 0 ≤ ins (σ 8) p g x ∧ ins (σ 8) p g x < σ 2 1 := fun x x0 x1 => by
          unfold ins
          by_cases e : x < p
          · rw [if_pos e]; have := h1.bk x x0 (by omega); omega
          · rw [if_neg e]
            by_cases e2 : x = p
            · rw [if_pos e2]; omega
            · rw [if_neg e2]; have := h1.bk (x - 1) (by omega) (by omega); omega
        refine ⟨by rw [z1, y1], RelS.fc (κ := τ) ?_ (cEq.trans h0 (fun k k1 k7 k2 k3 => y11 k k7 (by omega)))⟩
        refine ⟨by rw [c5]; exact hns, by rw [c5, c55, c56, m57, m58]; exact h1.sh, by rw [c2]; exact h1.ng, by rw [c2, c48, m59]; exact h1.gr, by rw [c0, a2]; omega, fun j j0 j1 => ?_, fun j j0 j1 => ?_, by rw [c6]; exact h1.lm, ?_, Or.inl ⟨y8, ?_, ?_⟩, ?_⟩
        · rw [c0, a2] at j1
          have r := a1 j j0 (by omega)
          have m := y5 j j0 (by omega)
          have gg := hgo j j0 (by omega)
          have ww := hwd j j0 (by omega)
          have gp := hgp j j0 (by omega)
          rw [c8, c9, c11, c12, c2, c5, r.1, r.2.1, r.2.2.2.1, r.2.2.2.2, m.1, m.2.1, m.2.2.1, m.2.2.2]
          refine ⟨gp.1, gp.2, ww.1, ww.2, gg.2.1, gg.2.2, ins_congr (fun x x0 x1 => (hbb x x0 x1).1) hpp j0 (by omega), i9 j j0 (by omega), gg.1.symm, ins_congr (fun x x0 x1 => ?_) hpp j0 (by omega)⟩
          rw [← hdg x x0 x1, (hbb x x0 x1).2.2.1, (hbb x x0 x1).2.2.2]
        · rw [c0, a2] at j1
          have r := a1 j j0 (by omega)
          have nn := z5.need (by omega) (fun x x0 x1 => by
            rw [a2] at x1
            rw [(a1 x x0 (by omega)).2.1]
            exact (hwd x x0 (by omega)).1) j j0 (by omega)
          rw [c8, c9, c0, c48, c10]
          by_cases e : β 8 j = g
          · rw [nn.1 e, e]
          · rw [nn.2 e, r.2.2.1, a2]
            have hj : ∃ x, j = shf1 p x ∧ 0 ≤ x ∧ x < σ 0 6 := by
              by_cases q : j < p
              · exact ⟨j, by unfold shf1; rw [if_pos q], j0, by omega⟩
              · by_cases q2 : j = p
                · exfalso
                  apply e
                  rw [r.1, q2]
                  unfold ins
                  rw [if_neg (by omega), if_pos rfl]
                · exact ⟨j - 1, by unfold shf1; rw [if_neg (by omega)]; omega, by omega, by omega⟩
            obtain ⟨x, rfl, x0, x1⟩ := hj
            have e8 : β 8 (shf1 p x) = σ 8 x := by rw [r.1, ins_sh]
            have hne : g ≠ σ 8 x := fun q => e (by rw [e8, q])
            rw [ins_sh, h1.ne x x0 x1, e8, ndS_congr (grp2 := ins (σ 8) p g) (wid2 := ins (σ 9) p w) (by omega) (fun y y0 y1 => ⟨(a1 y y0 (by omega)).1, (a1 y y0 (by omega)).2.1⟩) j0 j1]
            exact (nd_ins hpp hne).symm
        · rw [c5, c2, c0, c6, a2, a3, y9 1 (by decide) (by decide) (by decide) (by decide), y9 4 (by decide) (by decide) (by decide) (by decide), y6, y7, y9 12 (by decide) (by decide) (by decide) (by decide), q11]
          exact ⟨q1, q4, rfl, rfl, q12⟩
        · rw [c4]; exact a4
        · rw [c4]; exact a5
        · obtain ⟨es, e1, e2⟩ := h1.lg
          refine ⟨_, z6 es e1, ?_⟩
          have r := y10 es e2
          rw [← (hgo p hpp.1 (by omega)).1] at r
          exact r
  · obtain ⟨z1, z2⟩ := hz.1 hc
    obtain ⟨y1, y2⟩ := hy.1 (by rw [q4, q6]; exact hc)
    exact ⟨by rw [z1, y1], by rw [y2]; exact h1.fc (cEq.trans (by rw [z2]; exact fun k _ _ _ _ => rfl) h0)⟩

