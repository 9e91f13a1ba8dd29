/-- the state again, as far as it is read -/
def SmM (σ τ : St) : Prop := (∀ j, 0 ≤ j → j < σ 7 6 → τ 60 j = σ 60 j ∧ τ 61 j = σ 61 j ∧ τ 62 j = σ 62 j ∧ τ 63 j = σ 63 j) ∧ (∀ j, j ≠ 0 → τ 7 j = σ 7 j) ∧ ∀ k, k ≠ 7 → (k < 60 ∨ k = 64 ∨ 69 < k) → τ k = σ k
def MI2 (σ : St) (p g w c : Int) (τ : St) : Prop := (∀ j, 0 ≤ j → j < σ 7 6 + c → τ 60 j = insK (σ 60) p g c j ∧ τ 61 j = insK (σ 61) p w c j ∧ τ 62 j = insK (σ 62) p (-1) c j ∧ τ 63 j = insK (σ 63) p 0 c j) ∧ τ 7 6 = σ 7 6 + c ∧ (∀ j, j ≠ 0 → j ≠ 6 → τ 7 j = σ 7 j) ∧ ∀ k, k ≠ 7 → (k < 60 ∨ k = 64 ∨ 69 < k) → τ k = σ k
theorem MI2.z {σ : St} (p g w : Int) : MI2 σ p g w 0 σ := by
  refine ⟨fun j _ _ => ?_, by omega, fun j _ _ => rfl, fun k _ _ => rfl⟩
  rw [insK_0, insK_0, insK_0, insK_0]
  exact ⟨rfl, rfl, rfl, rfl⟩
theorem MI2.sm {σ τ : St} {p g w : Int} (h : MI2 σ p g w 0 τ) : SmM σ τ := by
  obtain ⟨h1, h2, h3, h4⟩ := h
  refine ⟨fun j j0 j1 => ?_, fun j j0 => ?_, h4⟩
  · have r := h1 j j0 (by omega)
    rw [insK_0, insK_0, insK_0, insK_0] at r
    exact r
  · by_cases e : j = 6
    · rw [e]; omega
    · exact h3 j j0 e
theorem MI2.fr {σ τ υ : St} {p g w c : Int} (h : MI2 σ p g w c τ) (f : frM τ υ) : MI2 σ p g w c υ := by
  obtain ⟨h1, h2, h3, h4⟩ := h
  refine ⟨fun j j0 j1 => ?_, by rw [f.2 6 (by decide)]; exact h2, fun j j0 j6 => by rw [f.2 j j0]; exact h3 j j0 j6, fun k k7 kk => by rw [f.1 k k7 (by omega)]; exact h4 k k7 kk⟩
  rw [f.1 60 (by decide) (by omega), f.1 61 (by decide) (by omega), f.1 62 (by decide) (by omega), f.1 63 (by decide) (by omega)]
  exact h1 j j0 j1
theorem MI2.up {σ τ υ : St} {p g w c : Int} (hp : 0 ≤ p ∧ p ≤ σ 7 6) (hc : 0 ≤ c) (h : MI2 σ p g w c τ) (u1 : ∀ j, 0 ≤ j → j ≤ τ 7 6 → υ 60 j = ins (τ 60) p g j ∧ υ 61 j = ins (τ 61) p w j ∧ υ 62 j = ins (τ 62) p (-1) j ∧ υ 63 j = ins (τ 63) p 0 j) (u2 : υ 7 6 = τ 7 6 + 1) (u3 : ∀ j, j ≠ 6 → υ 7 j = τ 7 j) (u4 : ∀ k, k ≠ 7 → k ≠ 60 → k ≠ 61 → k ≠ 62 → k ≠ 63 → υ k = τ k) : MI2 σ p g w (c + 1) υ := by
  obtain ⟨h1, h2, h3, h4⟩ := h
  refine ⟨fun j j0 j1 => ?_, by omega, fun j j0 j6 => by rw [u3 j j6]; exact h3 j j0 j6, fun k k7 kk => by rw [u4 k k7 (by omega) (by omega) (by omega) (by omega)]; exact h4 k k7 kk⟩
  have r := u1 j j0 (by omega)
  rw [r.1, r.2.1, r.2.2.1, r.2.2.2]
  exact ⟨insK_s (n := σ 7 6 + c) (by omega) hc (fun x x0 x1 => (h1 x x0 x1).1) j j0 (by omega), insK_s (n := σ 7 6 + c) (by omega) hc (fun x x0 x1 => (h1 x x0 x1).2.1) j j0 (by omega), insK_s (n := σ 7 6 + c) (by omega) hc (fun x x0 x1 => (h1 x x0 x1).2.2.1) j j0 (by omega), insK_s (n := σ 7 6 + c) (by omega) hc (fun x x0 x1 => (h1 x x0 x1).2.2.2) j j0 (by omega)⟩
theorem del_insK {f t : Int → Int} {p v c n : Int} (hc : 0 ≤ c) (h : ∀ j, 0 ≤ j → j < n + (c + 1) → t j = insK f p v (c + 1) j) : ∀ j, 0 ≤ j → j < n + c → del t p j = insK f p v c j := by
  intro j j0 j1
  unfold del
  by_cases e : j < p
  · rw [if_pos e, h j j0 (by omega)]
    unfold insK
    rw [if_pos e, if_pos e]
  · rw [if_neg e, h (j + 1) (by omega) (by omega)]
    unfold insK
    rw [if_neg (by omega), if_neg e]
    by_cases q : j < p + c
    · rw [if_pos (by omega), if_pos q]
    · rw [if_neg (by omega), if_neg q]
      congr 1
      omega
theorem MI2.dn {σ τ υ : St} {p g w c : Int} (hc : 0 ≤ c) (h : MI2 σ p g w (c + 1) τ) (u1 : ∀ j, 0 ≤ j → j < τ 7 6 - 1 → υ 60 j = del (τ 60) p j ∧ υ 61 j = del (τ 61) p j ∧ υ 62 j = del (τ 62) p j ∧ υ 63 j = del (τ 63) p j) (u2 : υ 7 6 = τ 7 6 - 1) (u3 : ∀ j, j ≠ 6 → υ 7 j = τ 7 j) (u4 : ∀ k, k ≠ 7 → k ≠ 60 → k ≠ 61 → k ≠ 62 → k ≠ 63 → υ k = τ k) : MI2 σ p g w c υ := by
  obtain ⟨h1, h2, h3, h4⟩ := h
  refine ⟨fun j j0 j1 => ?_, by omega, fun j j0 j6 => by rw [u3 j j6]; exact h3 j j0 j6, fun k k7 kk => by rw [u4 k k7 (by omega) (by omega) (by omega) (by omega)]; exact h4 k k7 kk⟩
  have r := u1 j j0 (by omega)
  rw [r.1, r.2.1, r.2.2.1, r.2.2.2]
  exact ⟨del_insK (n := σ 7 6) hc (fun x x0 x1 => (h1 x x0 x1).1) j j0 j1, del_insK (n := σ 7 6) hc (fun x x0 x1 => (h1 x x0 x1).2.1) j j0 j1, del_insK (n := σ 7 6) hc (fun x x0 x1 => (h1 x x0 x1).2.2.1) j j0 j1, del_insK (n := σ 7 6) hc (fun x x0 x1 => (h1 x x0 x1).2.2.2) j j0 j1⟩
theorem MI2.inv {σ τ : St} {p g w c : Int} (hI : InvW σ) (hg : 0 ≤ g ∧ g < σ 7 4) (hw : 1 ≤ w ∧ w ≤ 40) (hp : 0 ≤ p ∧ p ≤ σ 7 6) (hc : 0 ≤ c ∧ σ 7 6 + c ≤ 60) (h : MI2 σ p g w c τ) : InvW τ := by
  obtain ⟨h1, h2, h3, h4⟩ := h
  have hns := hI.ns
  have hnb := hI.nb
  have e1 := h3 1 (by decide) (by decide)
  have e4 := h3 4 (by decide) (by decide)
  refine ⟨by rw [e1]; exact hns, by rw [e1, h4 57 (by decide) (by omega), h4 58 (by decide) (by omega)]; exact hI.sh, by rw [e4]; exact hI.ng, by rw [e4, h4 59 (by decide) (by omega)]; exact hI.gr, by omega, fun b b0 b1 => ?_⟩
  have r := h1 b b0 (by omega)
  rw [r.1, r.2.1, r.2.2.1, e1, e4]
  unfold insK
  by_cases q1 : b < p
  · rw [if_pos q1, if_pos q1, if_pos q1]
    exact hI.bk b b0 (by omega)
  · rw [if_neg q1, if_neg q1, if_neg q1]
    by_cases q2 : b < p + c
    · rw [if_pos q2, if_pos q2, if_pos q2]
      omega
    · rw [if_neg q2, if_neg q2, if_neg q2]
      exact hI.bk (b - c) (by omega) (by omega)
def FitMK (σ : St) (p w j : Int) : Prop := ∃ q, IsFill (σ 57) (σ 58) (insK (σ 61) p w j) 1 (σ 7 1) (σ 7 6 + j) q ∧ q (σ 7 1) = σ 7 6 + j
theorem cm_fitK (σ τ : St) (p g w c : Int) (hI : InvW σ) (hg : 0 ≤ g ∧ g < σ 7 4) (hw : 1 ≤ w ∧ w ≤ 40) (hp : 0 ≤ p ∧ p ≤ σ 7 6) (hc : 0 ≤ c ∧ σ 7 6 + c ≤ 60) (h : MI2 σ p g w c τ) : Wp mX7_fits 2 (fun z υ => ((z = 1 ∧ FitMK σ p w c) ∨ (z = 0 ∧ ¬ FitMK σ p w c)) ∧ MI2 σ p g w c υ) 0 [some (.inr 7), some (.inl 0), some (.inl 1), none, none, none] [] τ := by
  have hIt := h.inv hI hg hw hp hc
  refine Wp.mono (cm_fits τ 0 1 1 hIt (by omega) (by omega) (by omega)) (fun z υ hq => ?_)
  obtain ⟨⟨q, q1, q2⟩, f⟩ := hq
  refine ⟨?_, h.fr f⟩
  have hnb := hI.nb
  obtain ⟨h1, h2, h3, h4⟩ := h
  have e1 := h3 1 (by decide) (by decide)
  have e57 := h4 57 (by decide) (by omega)
  have e58 := h4 58 (by decide) (by omega)
  rw [e1, h2] at q1 q2
  rw [e57, e58] at q1
  have q3 : IsFill (σ 57) (σ 58) (insK (σ 61) p w c) 1 (σ 7 1) (σ 7 6 + c) q := by
    refine q1.move (by omega) (fun s _ _ => ⟨rfl, rfl⟩) (fun b b0 b1 => ?_)
    unfold spM
    rw [Int.zero_mul, Int.add_zero]
    exact (h1 b b0 b1).2.1
  by_cases e : q (σ 7 1) = σ 7 6 + c
  · rw [if_pos e] at q2
    exact Or.inl ⟨q2, q, q3, e⟩
  · rw [if_neg e] at q2
    refine Or.inr ⟨q2, fun ⟨r, r1, r2⟩ => e ?_⟩
    have := IsFill.uniq (by omega) (fun s _ _ => ⟨rfl, rfl⟩) (fun b b0 b1 => ⟨rfl, ?_⟩) q3 r1 (σ 7 1) hI.ns.1 (by omega)
    · rw [this, r2]
    · have hb := hIt.bk b b0 (by omega)
      rw [← (h1 b b0 b1).2.1]
      omega

set_option maxRecDepth 100000 in
set_option maxHeartbeats 4000000 in
theorem ct5_more (σ : St) (g w : Int) (hI : InvM σ) (hg : InR g) (hw : InR w) : Wp mX7_more 3 (fun z τ => (¬ (0 ≤ g ∧ g < σ 7 4 ∧ 1 ≤ w ∧ w ≤ 40) → z = -1 ∧ τ = σ) ∧ ((0 ≤ g ∧ g < σ 7 4 ∧ 1 ≤ w ∧ w ≤ 40) → ∃ p, IsNb (σ 60) (σ 7 6) g p ∧ 0 ≤ z ∧ z ≤ 60 - σ 7 6 ∧ (∀ j, 1 ≤ j → j ≤ z → FitMK σ p w j) ∧ (z = 60 - σ 7 6 ∨ ¬ FitMK σ p w (z + 1)) ∧ SmM σ τ)) 5 [some (.inr 7), some (.inl g), some (.inl w), none, none, none, none] [] σ := by
  refine Wp.rg (fun hR => ?_)
  have hng := hI.w.ng
  have hnb := hI.w.nb
  refine w_aload_n dX7_more_5 rfl ?_
  refine w_iload_n dX7_more_6 rfl ?_
  refine cv_X7_135 rfl dX7_more_7 (Nat.le_of_ble_eq_true rfl) (Nat.le_of_ble_eq_true rfl) (Wp.mono (cm_isGroup _ g hg hng) (fun z_ τ_ hq_ => ?_))
  obtain ⟨hw7, hs_⟩ := hq_
  subst τ_
  refine w_if_eq (tgt := 23) dX7_more_10 (by decide) (by omega) (fun c_10 => ?_) (fun c_10 => ?_)
  · refine w_iconst dX7_more_23 ?_
    refine w_iret dX7_more_24 rfl ?_
    exact ⟨fun _ => ⟨rfl, rfl⟩, fun q => absurd q (by omega)⟩
  · refine w_iload_n dX7_more_13 rfl ?_
    refine w_iconst dX7_more_14 ?_
    refine w_bipush dX7_more_15 (by decide) ?_
    refine cv_X7_74 rfl dX7_more_17 (Nat.le_of_ble_eq_true rfl) (Nat.le_of_ble_eq_true rfl) (Wp.mono (cm_isIn _ w 1 40 hw (by omega) (by omega)) (fun z_ τ_ hq_ => ?_))
    obtain ⟨hw17, hs_⟩ := hq_
    subst τ_
    refine w_if_ne (tgt := 25) dX7_more_20 (by decide) (by omega) (fun c_20 => ?_) (fun c_20 => ?_)
    · refine w_aload_n dX7_more_25 rfl ?_
      refine w_iload_n dX7_more_26 rfl ?_
      refine cv_X7_138 rfl dX7_more_27 (Nat.le_of_ble_eq_true rfl) (Nat.le_of_ble_eq_true rfl) (Wp.mono (cm_behind σ g hnb hg) (fun z_ τ_ hq_ => ?_))
      obtain ⟨hnbp, hs_⟩ := hq_
      subst τ_
      generalize z_ = p at hnbp
      have hpp : 0 ≤ p ∧ p ≤ σ 7 6 := ⟨hnbp.1, hnbp.2.1⟩
      have KEY94 : ∀ (c : Int) (τ0 : St) (x5 : Option PV), 0 ≤ c → c ≤ 60 - σ 7 6 → (∀ j, 1 ≤ j → j ≤ c → FitMK σ p w j) → (c = 60 - σ 7 6 ∨ ¬ FitMK σ p w (c + 1)) → MI2 σ p g w c τ0 → Wp mX7_more 3 (fun z τ => (¬ (0 ≤ g ∧ g < σ 7 4 ∧ 1 ≤ w ∧ w ≤ 40) → z = -1 ∧ τ = σ) ∧ ((0 ≤ g ∧ g < σ 7 4 ∧ 1 ≤ w ∧ w ≤ 40) → ∃ p, IsNb (σ 60) (σ 7 6) g p ∧ 0 ≤ z ∧ z ≤ 60 - σ 7 6 ∧ (∀ j, 1 ≤ j → j ≤ z → FitMK σ p w j) ∧ (z = 60 - σ 7 6 ∨ ¬ FitMK σ p w (z + 1)) ∧ SmM σ τ)) 94 [some (.inr 7), some (.inl g), some (.inl w), some (.inl p), some (.inl c), x5, none] [] τ0 := by
        intro c τ0 x5 hc0 hc1 hfits hend hm0
        refine w_iconst dX7_more_94 ?_
        refine w_istore dX7_more_95 (Nat.le_of_ble_eq_true rfl) ?_
        refine up_to c (fun i => 0 ≤ i → ∀ (τ : St), MI2 σ p g w (c - i) τ → Wp mX7_more 3 (fun z τ => (¬ (0 ≤ g ∧ g < σ 7 4 ∧ 1 ≤ w ∧ w ≤ 40) → z = -1 ∧ τ = σ) ∧ ((0 ≤ g ∧ g < σ 7 4 ∧ 1 ≤ w ∧ w ≤ 40) → ∃ p, IsNb (σ 60) (σ 7 6) g p ∧ 0 ≤ z ∧ z ≤ 60 - σ 7 6 ∧ (∀ j, 1 ≤ j → j ≤ z → FitMK σ p w j) ∧ (z = 60 - σ 7 6 ∨ ¬ FitMK σ p w (z + 1)) ∧ SmM σ τ)) 97 [some (.inr 7), some (.inl g), some (.inl w), some (.inl p), some (.inl c), x5, some (.inl i)] [] τ) (fun i hi ih h0 τ hinv => ?_) 0 (by omega) (by omega) τ0 (by rw [Int.sub_zero]; exact hm0)
        refine w_iload dX7_more_97 rfl ?_
        refine w_iload dX7_more_99 rfl ?_
        refine w_icmp_ge (tgt := 115) dX7_more_101 (by decide) (by omega) (by omega) (fun c_101 => ?_) (fun c_101 => ?_)
        · refine w_iload dX7_more_115 rfl ?_
          refine w_iret dX7_more_117 rfl ?_
          refine ⟨fun q => absurd ⟨by omega, by omega, by omega, by omega⟩ q, fun _ => ⟨p, hnbp, hc0, hc1, hfits, hend, ?_⟩⟩
          rw [show c - i = 0 by omega] at hinv
          exact hinv.sm
        · refine w_aload_n dX7_more_104 rfl ?_
          refine w_iload_n dX7_more_105 rfl ?_
          refine cv_X7_145 rfl dX7_more_106 (Nat.le_of_ble_eq_true rfl) (Nat.le_of_ble_eq_true rfl) (Wp.mono (cm_closes τ p (by rw [hinv.2.1]; omega)) (fun z_ τ_ hq_ => ?_))
          obtain ⟨υ, hυ⟩ : ∃ υ, υ = τ_ := ⟨_, rfl⟩
          rw [← hυ] at hq_ ⊢
          clear hυ
          obtain ⟨v1, v2, v3, v4⟩ := hq_
          refine w_iinc dX7_more_109 (Nat.le_of_ble_eq_true rfl) rfl ?_
          refine w_goto (tgt := 97) dX7_more_112 (by decide) ?_
          refine ih (by omega) (by omega) _ ?_
          rw [show c - i = (c - (i + 1)) + 1 by omega] at hinv
          exact hinv.dn (by omega) v1 v2 v3 v4
      have KEYE : ∀ (c f : Int) (τ0 : St), f = 0 → 0 ≤ c → c ≤ 60 - σ 7 6 → (∀ j, 1 ≤ j → j ≤ c → FitMK σ p w j) → (c = 60 - σ 7 6 ∨ ¬ FitMK σ p w (c + 1)) → MI2 σ p g w c τ0 → Wp mX7_more 3 (fun z τ => (¬ (0 ≤ g ∧ g < σ 7 4 ∧ 1 ≤ w ∧ w ≤ 40) → z = -1 ∧ τ = σ) ∧ ((0 ≤ g ∧ g < σ 7 4 ∧ 1 ≤ w ∧ w ≤ 40) → ∃ p, IsNb (σ 60) (σ 7 6) g p ∧ 0 ≤ z ∧ z ≤ 60 - σ 7 6 ∧ (∀ j, 1 ≤ j → j ≤ z → FitMK σ p w j) ∧ (z = 60 - σ 7 6 ∨ ¬ FitMK σ p w (z + 1)) ∧ SmM σ τ)) 37 [some (.inr 7), some (.inl g), some (.inl w), some (.inl p), some (.inl c), some (.inl f), none] [] τ0 := by
        intro c f τ0 hf hc0 hc1 hfits hend hm0
        refine w_iload dX7_more_37 rfl ?_
        refine w_if_eq (tgt := 94) dX7_more_39 (by decide) (by omega) (fun c_39 => ?_) (fun c_39 => ?_)
        · exact KEY94 c τ0 _ hc0 hc1 hfits hend hm0
        · exact absurd c_39 (by omega)
      refine w_istore_n dX7_more_30 (Nat.le_of_ble_eq_true rfl) ?_
      refine w_iconst dX7_more_31 ?_
      refine w_istore dX7_more_32 (Nat.le_of_ble_eq_true rfl) ?_
      refine w_iconst dX7_more_34 ?_
      refine w_istore dX7_more_35 (Nat.le_of_ble_eq_true rfl) ?_
      refine up_to (60 - σ 7 6) (fun i => 0 ≤ i → ∀ (τ : St) (f : Int), f = 1 → (∀ j, 1 ≤ j → j ≤ i → FitMK σ p w j) → MI2 σ p g w i τ → Wp mX7_more 3 (fun z τ => (¬ (0 ≤ g ∧ g < σ 7 4 ∧ 1 ≤ w ∧ w ≤ 40) → z = -1 ∧ τ = σ) ∧ ((0 ≤ g ∧ g < σ 7 4 ∧ 1 ≤ w ∧ w ≤ 40) → ∃ p, IsNb (σ 60) (σ 7 6) g p ∧ 0 ≤ z ∧ z ≤ 60 - σ 7 6 ∧ (∀ j, 1 ≤ j → j ≤ z → FitMK σ p w j) ∧ (z = 60 - σ 7 6 ∨ ¬ FitMK σ p w (z + 1)) ∧ SmM σ τ)) 37 [some (.inr 7), some (.inl g), some (.inl w), some (.inl p), some (.inl i), some (.inl f), none] [] τ) (fun i hi ih h0 τ f hf1 hfits hmi => ?_) 0 (by omega) (by omega) σ 1 rfl (fun j j0 j1 => by omega) (MI2.z p g w)
      refine w_iload dX7_more_37 rfl ?_
      refine w_if_eq (tgt := 94) dX7_more_39 (by decide) (by omega) (fun c_39 => ?_) (fun c_39 => ?_)
      · first
        | exact absurd c_39 (by omega)
        | exact KEY94 i τ _ (by omega) (by omega) hfits (Or.inl (by omega)) hmi
      · have hmi2 := hmi.2.1
        refine w_aload_n dX7_more_42 rfl ?_
        refine gf_X7_81 rfl dX7_more_43 ?_
        refine w_bipush dX7_more_46 (by decide) ?_
        refine w_icmp_ge (tgt := 94) dX7_more_48 (by decide) (by omega) (by omega) (fun c_48 => ?_) (fun c_48 => ?_)
        · first
          | exact absurd c_39 (by omega)
          | exact KEY94 i τ _ (by omega) (by omega) hfits (Or.inl (by omega)) hmi
        · refine w_aload_n dX7_more_51 rfl ?_
          refine w_iload_n dX7_more_52 rfl ?_
          refine w_iload_n dX7_more_53 rfl ?_
          refine w_iload_n dX7_more_54 rfl ?_
          refine cv_X7_141 rfl dX7_more_55 (Nat.le_of_ble_eq_true rfl) (Nat.le_of_ble_eq_true rfl) (Wp.mono (cm_comes τ p g w (by omega) hg hw) (fun z_ τ_ hq_ => ?_))
          obtain ⟨υ, hυ⟩ : ∃ υ, υ = τ_ := ⟨_, rfl⟩
          rw [← hυ] at hq_ ⊢
          clear hυ
          obtain ⟨u1, u2, u3, u4⟩ := hq_
          have hup := hmi.up hpp (by omega) u1 u2 u3 u4
          refine w_aload_n dX7_more_58 rfl ?_
          refine w_iconst dX7_more_59 ?_
          refine w_iconst dX7_more_60 ?_
          refine cv_X7_127 rfl dX7_more_61 (Nat.le_of_ble_eq_true rfl) (Nat.le_of_ble_eq_true rfl) (Wp.mono (cm_fitK σ υ p g w (i + 1) hI.w (by omega) (by omega) hpp (by omega) hup) (fun z_ τ_ hq_ => ?_))
          obtain ⟨ρ, hρ⟩ : ∃ υ, υ = τ_ := ⟨_, rfl⟩
          rw [← hρ] at hq_ ⊢
          clear hρ
          obtain ⟨r1, r2⟩ := hq_
          have hz01 : z_ = 0 ∨ z_ = 1 := by omega
          refine w_istore dX7_more_64 (Nat.le_of_ble_eq_true rfl) ?_
          refine w_iload dX7_more_66 rfl ?_
          refine w_iload dX7_more_68 rfl ?_
          refine w_if_eq (tgt := 77) dX7_more_70 (by decide) (by omega) (fun c_70 => ?_) (fun c_70 => ?_)
          · refine w_iconst dX7_more_77 ?_
            refine w_iadd dX7_more_78 ?_
            refine w_istore dX7_more_79 (Nat.le_of_ble_eq_true rfl) ?_
            refine w_iload dX7_more_81 rfl ?_
            refine w_if_ne (tgt := 37) dX7_more_83 (by decide) (by omega) (fun c_83 => ?_) (fun c_83 => ?_)
            · first
              | (exact absurd c_70 (by omega))
              | (refine ih (by omega) (by omega) _ _ (by omega) (fun j j0 j1 => ?_) r2
                 by_cases e : j = i + 1
                 · rw [e]
                   rcases r1 with r1 | r1
                   · exact r1.2
                   · omega
                 · exact hfits j j0 (by omega))
              | (rw [Int.add_zero]
                 refine KEYE _ _ _ c_70 (by omega) (by omega) hfits (Or.inr ?_) (r2.dn (by omega) v1 v2 v3 v4)
                 rcases r1 with r1 | r1
                 · omega
                 · exact r1.2)
            · refine w_aload_n dX7_more_86 rfl ?_
              refine w_iload_n dX7_more_87 rfl ?_
              refine cv_X7_145 rfl dX7_more_88 (Nat.le_of_ble_eq_true rfl) (Nat.le_of_ble_eq_true rfl) (Wp.mono (cm_closes ρ p (by have := r2.2.1; omega)) (fun z_ τ_ hq_ => ?_))
              obtain ⟨κ, hκ⟩ : ∃ υ, υ = τ_ := ⟨_, rfl⟩
              rw [← hκ] at hq_ ⊢
              clear hκ
              obtain ⟨v1, v2, v3, v4⟩ := hq_
              refine w_goto (tgt := 37) dX7_more_91 (by decide) ?_
              first
              | (exact absurd c_70 (by omega))
              | (refine ih (by omega) (by omega) _ _ (by omega) (fun j j0 j1 => ?_) r2
                 by_cases e : j = i + 1
                 · rw [e]
                   rcases r1 with r1 | r1
                   · exact r1.2
                   · omega
                 · exact hfits j j0 (by omega))
              | (rw [Int.add_zero]
                 refine KEYE _ _ _ c_70 (by omega) (by omega) hfits (Or.inr ?_) (r2.dn (by omega) v1 v2 v3 v4)
                 rcases r1 with r1 | r1
                 · omega
                 · exact r1.2)
          · refine w_iconst dX7_more_73 ?_
            refine w_goto (tgt := 78) dX7_more_74 (by decide) ?_
            refine w_iadd dX7_more_78 ?_
            refine w_istore dX7_more_79 (Nat.le_of_ble_eq_true rfl) ?_
            refine w_iload dX7_more_81 rfl ?_
            refine w_if_ne (tgt := 37) dX7_more_83 (by decide) (by omega) (fun c_83 => ?_) (fun c_83 => ?_)
            · first
              | (exact absurd c_70 (by omega))
              | (refine ih (by omega) (by omega) _ _ (by omega) (fun j j0 j1 => ?_) r2
                 by_cases e : j = i + 1
                 · rw [e]
                   rcases r1 with r1 | r1
                   · exact r1.2
                   · omega
                 · exact hfits j j0 (by omega))
              | (rw [Int.add_zero]
                 refine KEYE _ _ _ c_70 (by omega) (by omega) hfits (Or.inr ?_) (r2.dn (by omega) v1 v2 v3 v4)
                 rcases r1 with r1 | r1
                 · omega
                 · exact r1.2)
            · refine w_aload_n dX7_more_86 rfl ?_
              refine w_iload_n dX7_more_87 rfl ?_
              refine cv_X7_145 rfl dX7_more_88 (Nat.le_of_ble_eq_true rfl) (Nat.le_of_ble_eq_true rfl) (Wp.mono (cm_closes ρ p (by have := r2.2.1; omega)) (fun z_ τ_ hq_ => ?_))
              obtain ⟨κ, hκ⟩ : ∃ υ, υ = τ_ := ⟨_, rfl⟩
              rw [← hκ] at hq_ ⊢
              clear hκ
              obtain ⟨v1, v2, v3, v4⟩ := hq_
              refine w_goto (tgt := 37) dX7_more_91 (by decide) ?_
              first
              | (exact absurd c_70 (by omega))
              | (refine ih (by omega) (by omega) _ _ (by omega) (fun j j0 j1 => ?_) r2
                 by_cases e : j = i + 1
                 · rw [e]
                   rcases r1 with r1 | r1
                   · exact r1.2
                   · omega
                 · exact hfits j j0 (by omega))
              | (rw [Int.add_zero]
                 refine KEYE _ _ _ c_70 (by omega) (by omega) hfits (Or.inr ?_) (r2.dn (by omega) v1 v2 v3 v4)
                 rcases r1 with r1 | r1
                 · omega
                 · exact r1.2)
    · refine w_iconst dX7_more_23 ?_
      refine w_iret dX7_more_24 rfl ?_
      exact ⟨fun _ => ⟨rfl, rfl⟩, fun q => absurd q (by omega)⟩

