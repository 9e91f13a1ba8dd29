theorem cnt_pos {row : Int → Int} {v n z : Int} (h0 : 0 ≤ n) (h : IsFst row v n z) : z ≠ -1 ↔ 0 < cntW row v n := by
  have cs : ∀ i, 0 ≤ i → cntW row v (i + 1) = if row i = v then cntW row v i + 1 else cntW row v i := fun i hi => foI_s _ _ hi
  have none : ∀ k : Nat, (∀ b : Int, 0 ≤ b → b < k → row b ≠ v) → cntW row v k = 0 := by
    intro k
    induction k with
    | zero => intro _; rfl
    | succ k ih =>
      intro hk
      rw [show ((k + 1 : Nat) : Int) = (k : Int) + 1 by omega, cs k (by omega), if_neg (hk k (by omega) (by omega))]
      exact ih (fun b b0 b1 => hk b b0 (by omega))
  have some : ∀ (k : Nat) (b : Int), 0 ≤ b → b < k → row b = v → 0 < cntW row v k := by
    intro k
    induction k with
    | zero => intro b b0 b1; omega
    | succ k ih =>
      intro b b0 b1 hb
      rw [show ((k + 1 : Nat) : Int) = (k : Int) + 1 by omega, cs k (by omega)]
      have hc := cntW_bd row v k
      by_cases e : b = k
      · rw [if_pos (by rw [← e]; exact hb)]; omega
      · have := ih b b0 (by omega) hb
        split <;> omega
  have en : ((n.toNat : Nat) : Int) = n := by omega
  rcases h with ⟨h1, h2⟩ | ⟨h1, h2, h3, h4⟩
  · have := none n.toNat (fun b b0 b1 => h2 b b0 (by omega))
    rw [en] at this
    constructor
    · intro q; exact absurd h1 q
    · intro q; omega
  · have := some n.toNat z h1 (by omega) h3
    rw [en] at this
    constructor
    · intro _; exact this
    · intro _; omega

theorem InvW.yr {σ : St} (hI : InvW σ) {s : Int} (hs : 0 ≤ s ∧ s < σ 7 1) : -1000000 ≤ yrF (σ 57) (σ 62) (σ 61) (ndM σ) s (σ 7 6) ∧ yrF (σ 57) (σ 62) (σ 61) (ndM σ) s (σ 7 6) ≤ 999 := by
  have hsb := hI.sh s hs.1 hs.2
  have hnb := hI.nb
  have hw := sumW_bd (σ 62) (σ 61) s (σ 7 6) 0 40 (by omega) (by omega) (fun b b0 b1 _ => by have := hI.bk b b0 b1; omega) (σ 7 6) hnb.1 (by omega)
  unfold yrF
  by_cases q : 0 < sumW (σ 62) (ndM σ) s (σ 7 6)
  · rw [if_pos q]
    have := tdiv_bd q (a := σ 57 s - sumW (σ 62) (σ 61) s (σ 7 6)) (by omega)
    split <;> omega
  · rw [if_neg q]; omega
theorem cm_lst (σ τ : St) (s : Int) (hI : InvW σ) (hf : frM σ τ) (hs : 0 ≤ s ∧ s < σ 7 1) : Wp mX7_lastsOf 3 (fun z υ => z = yrF (σ 57) (σ 62) (σ 61) (ndM σ) s (σ 7 6) ∧ frM σ υ) 0 [some (.inr 7), some (.inl s), none, none] [] τ := by
  refine Wp.mono (cm_lastsOf τ s (hI.fr hf) (by rw [hf.2 1 (by decide)]; exact hs)) (fun z υ h => ?_)
  rw [hf.1 57 (by decide) (by omega), hf.1 62 (by decide) (by omega), hf.1 61 (by decide) (by omega), hf.nd, hf.2 6 (by decide)] at h
  exact ⟨h.1, hf.trans (frM.of h.2)⟩

set_option maxRecDepth 100000 in
set_option maxHeartbeats 4000000 in
theorem ct5_lasts (σ : St) (hI : InvW σ) : Wp mX7_lasts 4 (fun z τ => z = lsF (σ 57) (σ 62) (σ 61) (ndM σ) (σ 7 6) (σ 7 1) ∧ frM σ τ) 5 [some (.inr 7), none, none] [] σ := by
  refine Wp.rg (fun hR => ?_)
  have hns := hI.ns
  have hnb := hI.nb
  refine w_sipush dX7_lasts_5 (by decide) ?_
  refine w_istore_n dX7_lasts_8 (Nat.le_of_ble_eq_true rfl) ?_
  refine w_iconst dX7_lasts_9 ?_
  refine w_istore_n dX7_lasts_10 (Nat.le_of_ble_eq_true rfl) ?_
  refine up_to (σ 7 1) (fun i => 0 ≤ i → ∀ (τ : St) (a : Int), (a = lsF (σ 57) (σ 62) (σ 61) (ndM σ) (σ 7 6) i ∧ -1000000 ≤ a ∧ a ≤ 999 ∧ frM σ τ) → Wp mX7_lasts 4 (fun z τ => z = lsF (σ 57) (σ 62) (σ 61) (ndM σ) (σ 7 6) (σ 7 1) ∧ frM σ τ) 11 [some (.inr 7), some (.inl a), some (.inl i)] [] τ) (fun i hi ih h0 τ a hinv => ?_) (0) (by omega) (by omega) σ 999 ⟨rfl, by omega, by omega, frM.rf σ⟩
  obtain ⟨hinv1, hin2, hin3, hfr⟩ := hinv
  have e71 := hfr.2 1 (by decide)
  have e76 := hfr.2 6 (by decide)
  refine w_iload_n dX7_lasts_11 rfl ?_
  
  refine w_aload_n dX7_lasts_12 rfl ?_
  refine gf_X7_71 rfl dX7_lasts_13 ?_
  refine w_icmp_ge (tgt := 49) dX7_lasts_16 (by decide) (by omega) (by omega) (fun c_16 => ?_) (fun c_16 => ?_)
  · refine w_iload_n dX7_lasts_49 rfl ?_
    refine w_iret dX7_lasts_50 rfl ?_
    exact ⟨by rw [hinv1, show i = σ 7 1 by omega], hfr⟩
  · have hyr := hI.yr ⟨h0, by omega⟩
    refine w_aload_n dX7_lasts_19 rfl ?_
    refine w_iload_n dX7_lasts_20 rfl ?_
    refine cv_X7_211 rfl dX7_lasts_21 (Nat.le_of_ble_eq_true rfl) (Nat.le_of_ble_eq_true rfl) (Wp.mono (cm_firstOn τ i (by omega) (by omega)) (fun z_ τ_ hq_ => ?_))
    obtain ⟨hf1, hs_⟩ := hq_
    rw [hfr.1 62 (by decide) (by omega), e76] at hf1
    subst τ_
    have hcp := cnt_pos hnb.1 hf1
    have hzr : -1 ≤ z_ ∧ z_ < 60 := by
      rcases hf1 with h | h
      · omega
      · omega
    refine w_iconst dX7_lasts_24 ?_
    refine w_icmp_eq (tgt := 43) dX7_lasts_25 (by decide) (by omega) (by omega) (fun c_25 => ?_) (fun c_25 => ?_)
    · refine w_iinc dX7_lasts_43 (Nat.le_of_ble_eq_true rfl) rfl ?_
      refine w_goto (tgt := 11) dX7_lasts_46 (by decide) ?_
      first
      | (refine ih (by omega) (by omega) _ _ ⟨?_, by omega, by omega, hfr3⟩
         have hinv := hinv1
         unfold lsF at hinv ⊢
         rw [foI_s _ _ h0, ← hinv, if_pos (hcp.mp c_25), if_pos c_34])
      | (refine ih (by omega) (by omega) _ _ ⟨?_, by omega, by omega, hfr2⟩
         have hinv := hinv1
         unfold lsF at hinv ⊢
         rw [foI_s _ _ h0, ← hinv, if_pos (hcp.mp c_25), if_neg (by omega)])
      | (refine ih (by omega) (by omega) _ _ ⟨?_, by omega, by omega, hfr⟩
         have hinv := hinv1
         unfold lsF at hinv ⊢
         rw [foI_s _ _ h0, ← hinv, if_neg (fun q => (hcp.mpr q) c_25)])
    · refine w_aload_n dX7_lasts_28 rfl ?_
      refine w_iload_n dX7_lasts_29 rfl ?_
      refine cv_X7_208 rfl dX7_lasts_30 (Nat.le_of_ble_eq_true rfl) (Nat.le_of_ble_eq_true rfl) (Wp.mono (cm_lst σ τ i hI hfr (by omega)) (fun z_ τ_ hq_ => ?_))
      obtain ⟨hz_, hfr2⟩ := hq_
      subst z_
      refine w_iload_n dX7_lasts_33 rfl ?_
      refine w_icmp_ge (tgt := 43) dX7_lasts_34 (by decide) (by omega) (by omega) (fun c_34 => ?_) (fun c_34 => ?_)
      · refine w_iinc dX7_lasts_43 (Nat.le_of_ble_eq_true rfl) rfl ?_
        refine w_goto (tgt := 11) dX7_lasts_46 (by decide) ?_
        first
        | (refine ih (by omega) (by omega) _ _ ⟨?_, by omega, by omega, hfr3⟩
           have hinv := hinv1
           unfold lsF at hinv ⊢
           rw [foI_s _ _ h0, ← hinv, if_pos (hcp.mp c_25), if_pos c_34])
        | (refine ih (by omega) (by omega) _ _ ⟨?_, by omega, by omega, hfr2⟩
           have hinv := hinv1
           unfold lsF at hinv ⊢
           rw [foI_s _ _ h0, ← hinv, if_pos (hcp.mp c_25), if_neg (by omega)])
        | (refine ih (by omega) (by omega) _ _ ⟨?_, by omega, by omega, hfr⟩
           have hinv := hinv1
           unfold lsF at hinv ⊢
           rw [foI_s _ _ h0, ← hinv, if_neg (fun q => (hcp.mpr q) c_25)])
      · refine w_aload_n dX7_lasts_37 rfl ?_
        refine w_iload_n dX7_lasts_38 rfl ?_
        refine cv_X7_208 rfl dX7_lasts_39 (Nat.le_of_ble_eq_true rfl) (Nat.le_of_ble_eq_true rfl) (Wp.mono (cm_lst σ _ i hI hfr2 (by omega)) (fun z_ τ_ hq_ => ?_))
        obtain ⟨hz_, hfr3⟩ := hq_
        subst z_
        refine w_istore_n dX7_lasts_42 (Nat.le_of_ble_eq_true rfl) ?_
        refine w_iinc dX7_lasts_43 (Nat.le_of_ble_eq_true rfl) rfl ?_
        refine w_goto (tgt := 11) dX7_lasts_46 (by decide) ?_
        first
        | (refine ih (by omega) (by omega) _ _ ⟨?_, by omega, by omega, hfr3⟩
           have hinv := hinv1
           unfold lsF at hinv ⊢
           rw [foI_s _ _ h0, ← hinv, if_pos (hcp.mp c_25), if_pos c_34])
        | (refine ih (by omega) (by omega) _ _ ⟨?_, by omega, by omega, hfr2⟩
           have hinv := hinv1
           unfold lsF at hinv ⊢
           rw [foI_s _ _ h0, ← hinv, if_pos (hcp.mp c_25), if_neg (by omega)])
        | (refine ih (by omega) (by omega) _ _ ⟨?_, by omega, by omega, hfr⟩
           have hinv := hinv1
           unfold lsF at hinv ⊢
           rw [foI_s _ _ h0, ← hinv, if_neg (fun q => (hcp.mpr q) c_25)])

set_option maxRecDepth 100000 in
set_option maxHeartbeats 4000000 in
theorem ct5_tight (σ : St) (hI : InvW σ) : Wp mX7_tight 0 (fun z τ => (∃ q, IsFill (σ 57) (σ 58) (σ 61) 0 (σ 7 1) (σ 7 6) q ∧ ((q (σ 7 1) = σ 7 6 ∧ ((z = -1 ∧ ∀ s, 0 ≤ s → s < σ 7 1 → q (s + 1) = q s) ∨ (0 ≤ z ∧ z < σ 7 1 ∧ q z < q (z + 1) ∧ ∀ s, z < s → s < σ 7 1 → q (s + 1) = q s))) ∨ (q (σ 7 1) < σ 7 6 ∧ z = -1))) ∧ τ = σ) 5 [some (.inr 7), none, none, none, none] [] σ := by
  refine Wp.rg (fun hR => ?_)
  have hns := hI.ns
  have hnb := hI.nb
  refine w_iconst dX7_tight_5 ?_
  refine w_istore_n dX7_tight_6 (Nat.le_of_ble_eq_true rfl) ?_
  refine w_iconst dX7_tight_7 ?_
  refine w_istore_n dX7_tight_8 (Nat.le_of_ble_eq_true rfl) ?_
  refine w_iconst dX7_tight_9 ?_
  refine w_istore_n dX7_tight_10 (Nat.le_of_ble_eq_true rfl) ?_
  refine up_to (σ 7 1) (fun i => 0 ≤ i → ∀ (f : Int) (l : Int) (x4 : Option PV), (∃ q, IsFill (σ 57) (σ 58) (σ 61) 0 i (σ 7 6) q ∧ q i = f ∧ ((l = -1 ∧ ∀ s, 0 ≤ s → s < i → q (s + 1) = q s) ∨ (0 ≤ l ∧ l < i ∧ q l < q (l + 1) ∧ ∀ s, l < s → s < i → q (s + 1) = q s))) → Wp mX7_tight 0 (fun z τ => (∃ q, IsFill (σ 57) (σ 58) (σ 61) 0 (σ 7 1) (σ 7 6) q ∧ ((q (σ 7 1) = σ 7 6 ∧ ((z = -1 ∧ ∀ s, 0 ≤ s → s < σ 7 1 → q (s + 1) = q s) ∨ (0 ≤ z ∧ z < σ 7 1 ∧ q z < q (z + 1) ∧ ∀ s, z < s → s < σ 7 1 → q (s + 1) = q s))) ∨ (q (σ 7 1) < σ 7 6 ∧ z = -1))) ∧ τ = σ) 11 [some (.inr 7), some (.inl f), some (.inl l), some (.inl i), x4] [] σ) (fun i hi ih h0 f l x4 hinv => ?_) (0) (by omega) (by omega) 0 (-1) _ ⟨fun _ => 0, ⟨rfl, fun s s0 s1 => by omega⟩, rfl, Or.inl ⟨rfl, fun s s0 s1 => by omega⟩⟩
  obtain ⟨q, g1, g2, g3⟩ := hinv
  have gb := g1.bd hnb.1 i h0 (Int.le_refl i)
  rw [g2] at gb
  refine w_iload_n dX7_tight_11 rfl ?_
  refine w_aload_n dX7_tight_12 rfl ?_
  refine gf_X7_71 rfl dX7_tight_13 ?_
  refine w_icmp_ge (tgt := 84) dX7_tight_16 (by decide) (by omega) (by omega) (fun c_16 => ?_) (fun c_16 => ?_)
  · refine w_iload_n dX7_tight_84 rfl ?_
    refine w_aload_n dX7_tight_85 rfl ?_
    refine gf_X7_81 rfl dX7_tight_86 ?_
    refine w_icmp_ne (tgt := 96) dX7_tight_89 (by decide) (by omega) (by omega) (fun c_89 => ?_) (fun c_89 => ?_)
    · refine w_iconst dX7_tight_96 ?_
      refine w_iret dX7_tight_97 rfl ?_
      refine ⟨⟨q, by rw [show σ 7 1 = i by omega]; exact g1, ?_⟩, rfl⟩
      rw [show σ 7 1 = i by omega, g2]
      first
      | exact Or.inl ⟨c_89, g3⟩
      | exact Or.inr ⟨by omega, rfl⟩
    · refine w_iload_n dX7_tight_92 rfl ?_
      refine w_goto (tgt := 97) dX7_tight_93 (by decide) ?_
      refine w_iret dX7_tight_97 rfl ?_
      refine ⟨⟨q, by rw [show σ 7 1 = i by omega]; exact g1, ?_⟩, rfl⟩
      rw [show σ 7 1 = i by omega, g2]
      first
      | exact Or.inl ⟨c_89, g3⟩
      | exact Or.inr ⟨by omega, rfl⟩
  · have hsi := hI.sh i h0 (by omega)
    have KEY40 : ∀ lim : Int, 0 ≤ lim → lim ≤ 200 → (lim = if σ 58 i ≤ 0 then σ 57 i else 0) → Wp mX7_tight 0 (fun z τ => (∃ q, IsFill (σ 57) (σ 58) (σ 61) 0 (σ 7 1) (σ 7 6) q ∧ ((q (σ 7 1) = σ 7 6 ∧ ((z = -1 ∧ ∀ s, 0 ≤ s → s < σ 7 1 → q (s + 1) = q s) ∨ (0 ≤ z ∧ z < σ 7 1 ∧ q z < q (z + 1) ∧ ∀ s, z < s → s < σ 7 1 → q (s + 1) = q s))) ∨ (q (σ 7 1) < σ 7 6 ∧ z = -1))) ∧ τ = σ) 40 [some (.inr 7), some (.inl f), some (.inl l), some (.inl i), some (.inl lim)] [] σ := by
      intro lim hl0 hl1 hlim
      refine up_to (σ 7 6) (fun b => 0 ≤ b → f ≤ b → ∀ (a l2 : Int), (a = lim - sumF (σ 61) f (b - f) ∧ 0 ≤ a ∧ a ≤ 200 ∧ ((b = f ∧ l2 = l) ∨ (f < b ∧ l2 = i))) → Wp mX7_tight 0 (fun z τ => (∃ q, IsFill (σ 57) (σ 58) (σ 61) 0 (σ 7 1) (σ 7 6) q ∧ ((q (σ 7 1) = σ 7 6 ∧ ((z = -1 ∧ ∀ s, 0 ≤ s → s < σ 7 1 → q (s + 1) = q s) ∨ (0 ≤ z ∧ z < σ 7 1 ∧ q z < q (z + 1) ∧ ∀ s, z < s → s < σ 7 1 → q (s + 1) = q s))) ∨ (q (σ 7 1) < σ 7 6 ∧ z = -1))) ∧ τ = σ) 40 [some (.inr 7), some (.inl b), some (.inl l2), some (.inl i), some (.inl a)] [] σ) (fun b hi2 ih2 h02 hfb a l2 hinv2 => ?_) f (by omega) (by omega) (by omega) lim l ⟨by rw [Int.sub_self, sumF_0]; omega, by omega, by omega, Or.inl ⟨rfl, rfl⟩⟩
      obtain ⟨j1, j2, j3, j4⟩ := hinv2
      refine w_iload_n dX7_tight_40 rfl ?_
      refine w_aload_n dX7_tight_41 rfl ?_
      refine gf_X7_81 rfl dX7_tight_42 ?_
      refine w_icmp_ge (tgt := 78) dX7_tight_45 (by decide) (by omega) (by omega) (fun c_45 => ?_) (fun c_45 => ?_)
      · refine w_iinc dX7_tight_78 (Nat.le_of_ble_eq_true rfl) rfl ?_
        refine w_goto (tgt := 11) dX7_tight_81 (by decide) ?_
        have hday : IsDay (σ 61) f (σ 7 6) lim (b - f) := by
          refine ⟨by omega, by omega, by omega, ?_⟩
          rw [sumF_s _ _ (by omega), show f + (b - f) = b by omega]
          omega
        have hzero : 0 < σ 58 i → b = f := fun hk => by
          rw [if_neg (by omega)] at hlim
          have hd3 := hday.2.2.1
          rw [hlim] at hd3
          by_cases z0 : b - f = 0
          · omega
          · have hmo := sumF_mono (w := σ 61) (f := f) (n := σ 7 6) (fun k k1 k2 => by have := hI.bk k (by omega) k2; omega) (a := 0 + 1) (b := b - f) (by omega) (by omega) (by omega)
            rw [sumF_s _ _ (by omega), sumF_0, Int.add_zero] at hmo
            have := hI.bk f (by omega) (by omega)
            omega
        refine ih (by omega) (by omega) _ _ _ ⟨upF q (i + 1) b, ⟨by unfold upF; rw [if_neg (by omega)]; exact g1.1, fun s s0 s1 => ?_⟩, by unfold upF; rw [if_pos rfl], ?_⟩
        · unfold upF
          by_cases e : s = i
          · subst e
            rw [if_neg (by omega), if_pos rfl, g2]
            refine ⟨fun hk => ?_, fun hk => hzero hk⟩
            rw [if_pos hk] at hlim; rw [hlim] at hday; exact hday
          · rw [if_neg (by omega), if_neg (by omega)]
            exact g1.2 s s0 (by omega)
        · have up1 : ∀ s, s ≤ i → upF q (i + 1) b s = q s := fun s hs => by unfold upF; rw [if_neg (by omega)]
          have up2 : upF q (i + 1) b (i + 1) = b := by unfold upF; rw [if_pos rfl]
          rcases j4 with ⟨j4, j5⟩ | ⟨j4, j5⟩
          · rw [j5]
            rcases g3 with g3 | g3
            · refine Or.inl ⟨g3.1, fun s s0 s1 => ?_⟩
              by_cases e : s = i
              · subst e; rw [up2, up1 _ (by omega), g2, j4]
              · rw [up1 _ (by omega), up1 _ (by omega)]; exact g3.2 s s0 (by omega)
            · refine Or.inr ⟨g3.1, by omega, ?_, fun s s0 s1 => ?_⟩
              · rw [up1 _ (by omega), up1 _ (by omega)]; exact g3.2.2.1
              · by_cases e : s = i
                · subst e; rw [up2, up1 _ (by omega), g2, j4]
                · rw [up1 _ (by omega), up1 _ (by omega)]; exact g3.2.2.2 s s0 (by omega)
          · rw [j5]
            refine Or.inr ⟨h0, by omega, ?_, fun s s0 s1 => by omega⟩
            rw [up2, up1 _ (by omega), g2]; exact j4
      · have hb1 := hI.bk b h02 (by omega)
        refine w_aload_n dX7_tight_48 rfl ?_
        refine gf_X7_22 rfl dX7_tight_49 ?_
        refine w_iload_n dX7_tight_52 rfl ?_
        refine w_iald rfl (by omega) dX7_tight_53 ?_
        refine w_iload dX7_tight_54 rfl ?_
        refine w_icmp_gt (tgt := 78) dX7_tight_56 (by decide) (by omega) (by omega) (fun c_56 => ?_) (fun c_56 => ?_)
        · refine w_iinc dX7_tight_78 (Nat.le_of_ble_eq_true rfl) rfl ?_
          refine w_goto (tgt := 11) dX7_tight_81 (by decide) ?_
          have hday : IsDay (σ 61) f (σ 7 6) lim (b - f) := by
            refine ⟨by omega, by omega, by omega, ?_⟩
            rw [sumF_s _ _ (by omega), show f + (b - f) = b by omega]
            omega
          have hzero : 0 < σ 58 i → b = f := fun hk => by
            rw [if_neg (by omega)] at hlim
            have hd3 := hday.2.2.1
            rw [hlim] at hd3
            by_cases z0 : b - f = 0
            · omega
            · have hmo := sumF_mono (w := σ 61) (f := f) (n := σ 7 6) (fun k k1 k2 => by have := hI.bk k (by omega) k2; omega) (a := 0 + 1) (b := b - f) (by omega) (by omega) (by omega)
              rw [sumF_s _ _ (by omega), sumF_0, Int.add_zero] at hmo
              have := hI.bk f (by omega) (by omega)
              omega
          refine ih (by omega) (by omega) _ _ _ ⟨upF q (i + 1) b, ⟨by unfold upF; rw [if_neg (by omega)]; exact g1.1, fun s s0 s1 => ?_⟩, by unfold upF; rw [if_pos rfl], ?_⟩
          · unfold upF
            by_cases e : s = i
            · subst e
              rw [if_neg (by omega), if_pos rfl, g2]
              refine ⟨fun hk => ?_, fun hk => hzero hk⟩
              rw [if_pos hk] at hlim; rw [hlim] at hday; exact hday
            · rw [if_neg (by omega), if_neg (by omega)]
              exact g1.2 s s0 (by omega)
          · have up1 : ∀ s, s ≤ i → upF q (i + 1) b s = q s := fun s hs => by unfold upF; rw [if_neg (by omega)]
            have up2 : upF q (i + 1) b (i + 1) = b := by unfold upF; rw [if_pos rfl]
            rcases j4 with ⟨j4, j5⟩ | ⟨j4, j5⟩
            · rw [j5]
              rcases g3 with g3 | g3
              · refine Or.inl ⟨g3.1, fun s s0 s1 => ?_⟩
                by_cases e : s = i
                · subst e; rw [up2, up1 _ (by omega), g2, j4]
                · rw [up1 _ (by omega), up1 _ (by omega)]; exact g3.2 s s0 (by omega)
              · refine Or.inr ⟨g3.1, by omega, ?_, fun s s0 s1 => ?_⟩
                · rw [up1 _ (by omega), up1 _ (by omega)]; exact g3.2.2.1
                · by_cases e : s = i
                  · subst e; rw [up2, up1 _ (by omega), g2, j4]
                  · rw [up1 _ (by omega), up1 _ (by omega)]; exact g3.2.2.2 s s0 (by omega)
            · rw [j5]
              refine Or.inr ⟨h0, by omega, ?_, fun s s0 s1 => by omega⟩
              rw [up2, up1 _ (by omega), g2]; exact j4
        · refine w_iload dX7_tight_59 rfl ?_
          refine w_aload_n dX7_tight_61 rfl ?_
          refine gf_X7_22 rfl dX7_tight_62 ?_
          refine w_iload_n dX7_tight_65 rfl ?_
          refine w_iald rfl (by omega) dX7_tight_66 ?_
          refine w_isub dX7_tight_67 ?_
          refine w_istore dX7_tight_68 (Nat.le_of_ble_eq_true rfl) ?_
          refine w_iload_n dX7_tight_70 rfl ?_
          refine w_istore_n dX7_tight_71 (Nat.le_of_ble_eq_true rfl) ?_
          refine w_iinc dX7_tight_72 (Nat.le_of_ble_eq_true rfl) rfl ?_
          refine w_goto (tgt := 40) dX7_tight_75 (by decide) ?_
          refine ih2 (by omega) (by omega) (by omega) _ _ ⟨?_, by omega, by omega, Or.inr ⟨by omega, rfl⟩⟩
          rw [show b + 1 - f = (b - f) + 1 by omega, sumF_s _ _ (by omega), show f + (b - f) = b by omega]; omega
    refine w_aload_n dX7_tight_19 rfl ?_
    refine gf_X7_13 rfl dX7_tight_20 ?_
    refine w_iload_n dX7_tight_23 rfl ?_
    refine w_iald rfl (by omega) dX7_tight_24 ?_
    refine w_if_ne (tgt := 37) dX7_tight_25 (by decide) (hR _ _) (fun c_25 => ?_) (fun c_25 => ?_)
    · refine w_iconst dX7_tight_37 ?_
      refine w_istore dX7_tight_38 (Nat.le_of_ble_eq_true rfl) ?_
      first
      | (refine KEY40 _ (by omega) (by omega) ?_
         rw [if_pos (by omega)])
      | (refine KEY40 _ (by omega) (by omega) ?_
         rw [if_neg (by omega)])
    · refine w_aload_n dX7_tight_28 rfl ?_
      refine gf_X7_7 rfl dX7_tight_29 ?_
      refine w_iload_n dX7_tight_32 rfl ?_
      refine w_iald rfl (by omega) dX7_tight_33 ?_
      refine w_goto (tgt := 38) dX7_tight_34 (by decide) ?_
      refine w_istore dX7_tight_38 (Nat.le_of_ble_eq_true rfl) ?_
      first
      | (refine KEY40 _ (by omega) (by omega) ?_
         rw [if_pos (by omega)])
      | (refine KEY40 _ (by omega) (by omega) ?_
         rw [if_neg (by omega)])

set_option maxRecDepth 100000 in
set_option maxHeartbeats 4000000 in
theorem ct5_count (σ : St) (w : Int) (hI : InvM σ) (hw : InR w) : Wp mX7_count 1 (fun z τ => ((w = 0 ∧ z = σ 7 1) ∨ (w = 1 ∧ z = σ 7 4) ∨ (w = 2 ∧ z = σ 7 6) ∨ (w = 3 ∧ z = sumA (σ 61) (σ 7 6)) ∨ (w = 4 ∧ z = sumW (σ 58) (σ 57) 0 (σ 7 1)) ∨ (w = 5 ∧ z = σ 7 12) ∨ (w = 6 ∧ z = if σ 7 21 = 0 then 0 else σ 7 23) ∨ (w = 7 ∧ z = if σ 7 21 = 0 then 0 else σ 7 24) ∨ (w = 8 ∧ z = if σ 7 21 = 0 then -1 else σ 7 22) ∨ (w = 9 ∧ z = σ 7 14) ∨ (w = 10 ∧ z = σ 7 11) ∨ ((w < 0 ∨ 10 < w) ∧ z = -1)) ∧ τ = σ) 5 [some (.inr 7), some (.inl w)] [] σ := by
  refine Wp.rg (fun hR => ?_)
  refine w_iload_n dX7_count_5 rfl ?_
  by_cases hsw : w < 0 ∨ 10 < w
  · refine w_tswO (tgt := 152) dX7_count_6 hw hsw (by decide) ?_
    refine w_iconst dX7_count_152 ?_
    refine w_iret dX7_count_153 rfl ?_
    exact ⟨Or.inr (Or.inr (Or.inr (Or.inr (Or.inr (Or.inr (Or.inr (Or.inr (Or.inr (Or.inr (Or.inr (⟨hsw, rfl⟩))))))))))), rfl⟩
  · rcases (show w = 0 ∨ w = 1 ∨ w = 2 ∨ w = 3 ∨ w = 4 ∨ w = 5 ∨ w = 6 ∨ w = 7 ∨ w = 8 ∨ w = 9 ∨ w = 10 by omega) with rfl | rfl | rfl | rfl | rfl | rfl | rfl | rfl | rfl | rfl | rfl
    · refine w_tswI (off := 58) (tgt := 64) dX7_count_6 (by omega) (by omega) (by omega) (by decide) (by decide) ?_
      refine w_aload_n dX7_count_64 rfl ?_
      refine gf_X7_71 rfl dX7_count_65 ?_
      refine w_iret dX7_count_68 rfl ?_
      exact ⟨Or.inl ⟨rfl, rfl⟩, rfl⟩
    · refine w_tswI (off := 63) (tgt := 69) dX7_count_6 (by omega) (by omega) (by omega) (by decide) (by decide) ?_
      refine w_aload_n dX7_count_69 rfl ?_
      refine gf_X7_78 rfl dX7_count_70 ?_
      refine w_iret dX7_count_73 rfl ?_
      exact ⟨Or.inr (Or.inl ⟨rfl, rfl⟩), rfl⟩
    · refine w_tswI (off := 68) (tgt := 74) dX7_count_6 (by omega) (by omega) (by omega) (by decide) (by decide) ?_
      refine w_aload_n dX7_count_74 rfl ?_
      refine gf_X7_81 rfl dX7_count_75 ?_
      refine w_iret dX7_count_78 rfl ?_
      exact ⟨Or.inr (Or.inr (Or.inl ⟨rfl, rfl⟩)), rfl⟩
    · refine w_tswI (off := 73) (tgt := 79) dX7_count_6 (by omega) (by omega) (by omega) (by decide) (by decide) ?_
      refine w_aload_n dX7_count_79 rfl ?_
      refine cv_X7_202 rfl dX7_count_80 (Nat.le_of_ble_eq_true rfl) (Nat.le_of_ble_eq_true rfl) (Wp.mono (cm_allWidths σ hI.w.nb) (fun z_ τ_ hq_ => ?_))
      obtain ⟨hz_, hs_⟩ := hq_
      subst z_
      subst τ_
      refine w_iret dX7_count_83 rfl ?_
      exact ⟨Or.inr (Or.inr (Or.inr (Or.inl ⟨rfl, rfl⟩))), rfl⟩
    · refine w_tswI (off := 78) (tgt := 84) dX7_count_6 (by omega) (by omega) (by omega) (by decide) (by decide) ?_
      refine w_aload_n dX7_count_84 rfl ?_
      refine cv_X7_205 rfl dX7_count_85 (Nat.le_of_ble_eq_true rfl) (Nat.le_of_ble_eq_true rfl) (Wp.mono (cm_openLengths σ hI.w.ns) (fun z_ τ_ hq_ => ?_))
      obtain ⟨hz_, hs_⟩ := hq_
      subst z_
      subst τ_
      refine w_iret dX7_count_88 rfl ?_
      exact ⟨Or.inr (Or.inr (Or.inr (Or.inr (Or.inl ⟨rfl, rfl⟩)))), rfl⟩
    · refine w_tswI (off := 83) (tgt := 89) dX7_count_6 (by omega) (by omega) (by omega) (by decide) (by decide) ?_
      refine w_aload_n dX7_count_89 rfl ?_
      refine gf_X7_31 rfl dX7_count_90 ?_
      refine w_iret dX7_count_93 rfl ?_
      exact ⟨Or.inr (Or.inr (Or.inr (Or.inr (Or.inr (Or.inl ⟨rfl, rfl⟩))))), rfl⟩
    · refine w_tswI (off := 88) (tgt := 94) dX7_count_6 (by omega) (by omega) (by omega) (by decide) (by decide) ?_
      refine w_aload_n dX7_count_94 rfl ?_
      refine gf_X7_164 rfl dX7_count_95 ?_
      refine w_if_eq (tgt := 108) dX7_count_98 (by decide) (hR _ _) (fun c_98 => ?_) (fun c_98 => ?_)
      · refine w_iconst dX7_count_108 ?_
        refine w_iret dX7_count_109 rfl ?_
        exact ⟨Or.inr (Or.inr (Or.inr (Or.inr (Or.inr (Or.inr (Or.inl ⟨rfl, by first | rw [if_pos c_98] | rw [if_neg c_98]⟩)))))), rfl⟩
      · refine w_aload_n dX7_count_101 rfl ?_
        refine gf_X7_171 rfl dX7_count_102 ?_
        refine w_goto (tgt := 109) dX7_count_105 (by decide) ?_
        refine w_iret dX7_count_109 rfl ?_
        exact ⟨Or.inr (Or.inr (Or.inr (Or.inr (Or.inr (Or.inr (Or.inl ⟨rfl, by first | rw [if_pos c_98] | rw [if_neg c_98]⟩)))))), rfl⟩
    · refine w_tswI (off := 104) (tgt := 110) dX7_count_6 (by omega) (by omega) (by omega) (by decide) (by decide) ?_
      refine w_aload_n dX7_count_110 rfl ?_
      refine gf_X7_164 rfl dX7_count_111 ?_
      refine w_if_eq (tgt := 124) dX7_count_114 (by decide) (hR _ _) (fun c_114 => ?_) (fun c_114 => ?_)
      · refine w_iconst dX7_count_124 ?_
        refine w_iret dX7_count_125 rfl ?_
        exact ⟨Or.inr (Or.inr (Or.inr (Or.inr (Or.inr (Or.inr (Or.inr (Or.inl ⟨rfl, by first | rw [if_pos c_114] | rw [if_neg c_114]⟩))))))), rfl⟩
      · refine w_aload_n dX7_count_117 rfl ?_
        refine gf_X7_174 rfl dX7_count_118 ?_
        refine w_goto (tgt := 125) dX7_count_121 (by decide) ?_
        refine w_iret dX7_count_125 rfl ?_
        exact ⟨Or.inr (Or.inr (Or.inr (Or.inr (Or.inr (Or.inr (Or.inr (Or.inl ⟨rfl, by first | rw [if_pos c_114] | rw [if_neg c_114]⟩))))))), rfl⟩
    · refine w_tswI (off := 120) (tgt := 126) dX7_count_6 (by omega) (by omega) (by omega) (by decide) (by decide) ?_
      refine w_aload_n dX7_count_126 rfl ?_
      refine gf_X7_164 rfl dX7_count_127 ?_
      refine w_if_eq (tgt := 140) dX7_count_130 (by decide) (hR _ _) (fun c_130 => ?_) (fun c_130 => ?_)
      · refine w_iconst dX7_count_140 ?_
        refine w_iret dX7_count_141 rfl ?_
        exact ⟨Or.inr (Or.inr (Or.inr (Or.inr (Or.inr (Or.inr (Or.inr (Or.inr (Or.inl ⟨rfl, by first | rw [if_pos c_130] | rw [if_neg c_130]⟩)))))))), rfl⟩
      · refine w_aload_n dX7_count_133 rfl ?_
        refine gf_X7_177 rfl dX7_count_134 ?_
        refine w_goto (tgt := 141) dX7_count_137 (by decide) ?_
        refine w_iret dX7_count_141 rfl ?_
        exact ⟨Or.inr (Or.inr (Or.inr (Or.inr (Or.inr (Or.inr (Or.inr (Or.inr (Or.inl ⟨rfl, by first | rw [if_pos c_130] | rw [if_neg c_130]⟩)))))))), rfl⟩
    · refine w_tswI (off := 136) (tgt := 142) dX7_count_6 (by omega) (by omega) (by omega) (by decide) (by decide) ?_
      refine w_aload_n dX7_count_142 rfl ?_
      refine gf_X7_84 rfl dX7_count_143 ?_
      refine w_iret dX7_count_146 rfl ?_
      exact ⟨Or.inr (Or.inr (Or.inr (Or.inr (Or.inr (Or.inr (Or.inr (Or.inr (Or.inr (Or.inl ⟨rfl, rfl⟩))))))))), rfl⟩
    · refine w_tswI (off := 141) (tgt := 147) dX7_count_6 (by omega) (by omega) (by omega) (by decide) (by decide) ?_
      refine w_aload_n dX7_count_147 rfl ?_
      refine gf_X7_168 rfl dX7_count_148 ?_
      refine w_iret dX7_count_151 rfl ?_
      exact ⟨Or.inr (Or.inr (Or.inr (Or.inr (Or.inr (Or.inr (Or.inr (Or.inr (Or.inr (Or.inr (Or.inl ⟨rfl, rfl⟩)))))))))), rfl⟩

