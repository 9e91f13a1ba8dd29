theorem dyF_s (w : Int → Int) (f l : Int) {z : Int} (h : 0 ≤ z) : dyF w f l (z + 1) = if z = 0 ∨ l < (dyF w f l z).2 + w (f + z) then ((dyF w f l z).1 + 1, w (f + z)) else ((dyF w f l z).1, (dyF w f l z).2 + w (f + z)) := foI_s _ _ h
theorem dy_mono (w : Int → Int) (f n l l2 : Int) (hl : l ≤ l2) (hw : ∀ k, f ≤ k → k < n → 0 ≤ w k) : ∀ z : Nat, f + z ≤ n → 0 ≤ (dyF w f l z).2 ∧ ((dyF w f l2 z).1 < (dyF w f l z).1 ∨ ((dyF w f l2 z).1 = (dyF w f l z).1 ∧ (dyF w f l2 z).2 ≤ (dyF w f l z).2)) := by
  intro z
  induction z with
  | zero => intro _; exact ⟨Int.le_refl 0, Or.inr ⟨rfl, Int.le_refl 0⟩⟩
  | succ z ih =>
    intro hz
    have ih := ih (by omega)
    have hwz := hw (f + z) (by omega) (by omega)
    rw [show ((z + 1 : Nat) : Int) = (z : Int) + 1 by omega, dyF_s _ _ _ (by omega), dyF_s _ _ _ (by omega)]
    by_cases c1 : (z : Int) = 0 ∨ l < (dyF w f l z).2 + w (f + z)
    · by_cases c2 : (z : Int) = 0 ∨ l2 < (dyF w f l2 z).2 + w (f + z)
      · rw [if_pos c1, if_pos c2]
        dsimp only
        refine ⟨hwz, ?_⟩
        omega
      · rw [if_pos c1, if_neg c2]
        dsimp only
        refine ⟨hwz, ?_⟩
        omega
    · by_cases c2 : (z : Int) = 0 ∨ l2 < (dyF w f l2 z).2 + w (f + z)
      · rw [if_neg c1, if_pos c2]
        dsimp only
        refine ⟨by omega, ?_⟩
        omega
      · rw [if_neg c1, if_neg c2]
        dsimp only
        refine ⟨by omega, ?_⟩
        omega
theorem dy_anti (w : Int → Int) (f n l l2 z : Int) (hl : l ≤ l2) (hw : ∀ k, f ≤ k → k < n → 0 ≤ w k) (h0 : 0 ≤ z) (hz : f + z ≤ n) : (dyF w f l2 z).1 ≤ (dyF w f l z).1 := by
  have := (dy_mono w f n l l2 hl hw z.toNat (by omega)).2
  rw [show ((z.toNat : Nat) : Int) = z by omega] at this
  omega
theorem dy_bd (w : Int → Int) (f l : Int) : ∀ z : Nat, 0 ≤ (dyF w f l z).1 ∧ (dyF w f l z).1 ≤ z := by
  intro z
  induction z with
  | zero => exact ⟨Int.le_refl 0, Int.le_refl 0⟩
  | succ z ih =>
    rw [show ((z + 1 : Nat) : Int) = (z : Int) + 1 by omega, dyF_s _ _ _ (by omega)]
    split
    · dsimp only; omega
    · dsimp only; omega
def dlF (σ : St) (l : Int) : Int := (dyF (σ 52) (σ 4 6) l (σ 4 5 - σ 4 6)).1
theorem InvC.dl {σ : St} (h : InvC σ) {l l2 : Int} (hl : l ≤ l2) : dlF σ l2 ≤ dlF σ l := by
  have p := h.pl
  exact dy_anti _ _ (σ 4 5) _ _ _ hl (fun k k0 k1 => (h.pw k (by omega) k1).1) (by omega) (by omega)
theorem InvC.dlb {σ : St} (h : InvC σ) (l : Int) : 0 ≤ dlF σ l ∧ dlF σ l ≤ 60 := by
  have p := h.pl
  have := dy_bd (σ 52) (σ 4 6) l (σ 4 5 - σ 4 6).toNat
  rw [show (((σ 4 5 - σ 4 6).toNat : Nat) : Int) = σ 4 5 - σ 4 6 by omega] at this
  unfold dlF
  omega

set_option maxRecDepth 100000 in
set_option maxHeartbeats 4000000 in
theorem ct_X6_enough (σ : St) (e : Int) (hI : InvC σ) (he : InR e) : Wp mX6_enough 1 (fun z τ => ((σ 4 6 < σ 4 5 ∧ dlF σ 400 ≤ e) → 40 ≤ z ∧ z ≤ 400 ∧ dlF σ z ≤ e ∧ ∀ l, 40 ≤ l → l < z → e < dlF σ l) ∧ (¬ (σ 4 6 < σ 4 5 ∧ dlF σ 400 ≤ e) → z = -1) ∧ τ = σ) 0 [some (.inr 6), some (.inl e), none, none, none] [] σ := by
  refine Wp.rg (fun hR => ?_)
  have hpl := hI.pl
  refine w_aload_n dX6_enough_0 rfl ?_
  refine gf_X6_40 rfl dX6_enough_1 ?_
  refine cv_X6_151 rfl dX6_enough_4 (Nat.le_of_ble_eq_true rfl) (Nat.le_of_ble_eq_true rfl) (Wp.mono (ct_exi σ) (fun z_ τ_ hq_ => ?_))
  obtain ⟨hw4, hs_⟩ := hq_
  subst τ_
  refine w_if_eq (tgt := 38) dX6_enough_7 (by decide) (by omega) (fun c_7 => ?_) (fun c_7 => ?_)
  · refine w_iconst dX6_enough_38 ?_
    refine w_iret dX6_enough_39 rfl ?_
    first
    | exact ⟨fun q => absurd q.1 (by omega), fun _ => rfl, rfl⟩
    | exact ⟨fun q => absurd q.2 (by omega), fun _ => rfl, rfl⟩
  · refine w_aload_n dX6_enough_10 rfl ?_
    refine gf_X6_40 rfl dX6_enough_11 ?_
    refine w_aload_n dX6_enough_14 rfl ?_
    refine gf_X6_40 rfl dX6_enough_15 ?_
    refine gf_X6_148 rfl dX6_enough_18 ?_
    refine w_aload_n dX6_enough_21 rfl ?_
    refine gf_X6_40 rfl dX6_enough_22 ?_
    refine gf_X6_145 rfl dX6_enough_25 ?_
    refine w_sipush dX6_enough_28 (by decide) ?_
    refine cv_X6_260 rfl dX6_enough_31 (Nat.le_of_ble_eq_true rfl) (Nat.le_of_ble_eq_true rfl) (Wp.mono (ct_X4_days σ (σ 4 6) (σ 4 5) 400 (by omega) (fun j j0 j1 => hI.pw j (by omega) j1) (by omega)) (fun z_ τ_ hq_ => ?_))
    obtain ⟨hz_, hs_⟩ := hq_
    subst τ_
    rw [show (dyF (σ 52) (σ 4 6) (400) (σ 4 5 - σ 4 6)).1 = dlF σ (400) from rfl] at hz_
    subst z_
    have hdb := hI.dlb (400)
    refine w_iload_n dX6_enough_34 rfl ?_
    refine w_icmp_le (tgt := 40) dX6_enough_35 (by decide) (by omega) he (fun c_35 => ?_) (fun c_35 => ?_)
    · have hex : σ 4 6 < σ 4 5 := by omega
      have h400 : dlF σ 400 ≤ e := by omega
      refine w_bipush dX6_enough_40 (by decide) ?_
      refine w_istore_n dX6_enough_42 (Nat.le_of_ble_eq_true rfl) ?_
      refine w_sipush dX6_enough_43 (by decide) ?_
      refine w_istore_n dX6_enough_46 (Nat.le_of_ble_eq_true rfl) ?_
      have H0 : ∀ (t : Int) (x : Option PV), (39 ≤ t ∧ t < 400 ∧ (t = 39 ∨ e < dlF σ t) ∧ ∀ l, t + 1 ≤ l → l ≤ 400 → dlF σ l ≤ e) → Wp mX6_enough 1 (fun z τ => ((σ 4 6 < σ 4 5 ∧ dlF σ 400 ≤ e) → 40 ≤ z ∧ z ≤ 400 ∧ dlF σ z ≤ e ∧ ∀ l, 40 ≤ l → l < z → e < dlF σ l) ∧ (¬ (σ 4 6 < σ 4 5 ∧ dlF σ 400 ≤ e) → z = -1) ∧ τ = σ) 47 [some (.inr 6), some (.inl e), some (.inl t), some (.inl 0), x] [] σ := by
        intro t x ⟨h1, h2, h3, h4⟩
        refine w_iload_n dX6_enough_47 rfl ?_
        refine w_if_le (tgt := 101) dX6_enough_48 (by decide) (by omega) (fun c_48 => ?_) (fun c_48 => ?_)
        · refine w_iload_n dX6_enough_101 rfl ?_
          refine w_iconst dX6_enough_102 ?_
          refine w_iadd dX6_enough_103 ?_
          refine w_iret dX6_enough_104 rfl ?_
          refine ⟨fun _ => ⟨by omega, by omega, h4 _ (by omega) (by omega), fun l l0 l1 => ?_⟩, fun nok => absurd ⟨hex, h400⟩ nok, rfl⟩
          rcases h3 with h3 | h3
          · omega
          · have := hI.dl (l := l) (l2 := t) (by omega)
            omega
        · exact absurd c_48 (by omega)
      have H1 : ∀ (t : Int) (x : Option PV), (39 ≤ t ∧ t < 400 ∧ (t = 39 ∨ e < dlF σ t) ∧ ∀ l, t + 2 ≤ l → l ≤ 400 → dlF σ l ≤ e) → Wp mX6_enough 1 (fun z τ => ((σ 4 6 < σ 4 5 ∧ dlF σ 400 ≤ e) → 40 ≤ z ∧ z ≤ 400 ∧ dlF σ z ≤ e ∧ ∀ l, 40 ≤ l → l < z → e < dlF σ l) ∧ (¬ (σ 4 6 < σ 4 5 ∧ dlF σ 400 ≤ e) → z = -1) ∧ τ = σ) 47 [some (.inr 6), some (.inl e), some (.inl t), some (.inl 1), x] [] σ := by
        intro t x ⟨h1, h2, h3, h4⟩
        refine w_iload_n dX6_enough_47 rfl ?_
        refine w_if_le (tgt := 101) dX6_enough_48 (by decide) (by omega) (fun c_48 => ?_) (fun c_48 => ?_)
        · exact absurd c_48 (by omega)
        · refine w_iload_n dX6_enough_51 rfl ?_
          refine w_iload_n dX6_enough_52 rfl ?_
          refine w_iadd dX6_enough_53 ?_
          refine w_istore dX6_enough_54 (Nat.le_of_ble_eq_true rfl) ?_
          refine w_iload dX6_enough_56 rfl ?_
          refine w_sipush dX6_enough_58 (by decide) ?_
          refine w_icmp_ge (tgt := 94) dX6_enough_61 (by decide) (by omega) (by omega) (fun c_61 => ?_) (fun c_61 => ?_)
          · refine w_iload_n dX6_enough_94 rfl ?_
            refine w_iconst dX6_enough_95 ?_
            refine w_idivN dX6_enough_96 (by omega) (by omega) (by omega) (by omega) ?_
            refine w_istore_n dX6_enough_97 (Nat.le_of_ble_eq_true rfl) ?_
            refine w_goto (tgt := 47) dX6_enough_98 (by decide) ?_
            rw [show (1 : Int) / 2 = 0 by decide]
            first
            | (refine H0 _ _ ⟨by omega, by omega, Or.inr c_88, fun l l0 l1 => h4 l (by omega) l1⟩)
            | (refine H0 _ _ ⟨h1, h2, h3, fun l l0 l1 => ?_⟩
               first
               | (have hl4 : l = 400 := by omega
                  rw [hl4]
                  exact h400)
               | (have := hI.dl (l := t + 1) (l2 := l) (by omega)
                  omega))
          · refine w_aload_n dX6_enough_64 rfl ?_
            refine gf_X6_40 rfl dX6_enough_65 ?_
            refine w_aload_n dX6_enough_68 rfl ?_
            refine gf_X6_40 rfl dX6_enough_69 ?_
            refine gf_X6_148 rfl dX6_enough_72 ?_
            refine w_aload_n dX6_enough_75 rfl ?_
            refine gf_X6_40 rfl dX6_enough_76 ?_
            refine gf_X6_145 rfl dX6_enough_79 ?_
            refine w_iload dX6_enough_82 rfl ?_
            refine cv_X6_260 rfl dX6_enough_84 (Nat.le_of_ble_eq_true rfl) (Nat.le_of_ble_eq_true rfl) (Wp.mono (ct_X4_days σ (σ 4 6) (σ 4 5) (t + 1) (by omega) (fun j j0 j1 => hI.pw j (by omega) j1) (by omega)) (fun z_ τ_ hq_ => ?_))
            obtain ⟨hz_, hs_⟩ := hq_
            subst τ_
            rw [show (dyF (σ 52) (σ 4 6) ((t + 1)) (σ 4 5 - σ 4 6)).1 = dlF σ ((t + 1)) from rfl] at hz_
            subst z_
            have hdb := hI.dlb ((t + 1))
            refine w_iload_n dX6_enough_87 rfl ?_
            refine w_icmp_le (tgt := 94) dX6_enough_88 (by decide) (by omega) he (fun c_88 => ?_) (fun c_88 => ?_)
            · refine w_iload_n dX6_enough_94 rfl ?_
              refine w_iconst dX6_enough_95 ?_
              refine w_idivN dX6_enough_96 (by omega) (by omega) (by omega) (by omega) ?_
              refine w_istore_n dX6_enough_97 (Nat.le_of_ble_eq_true rfl) ?_
              refine w_goto (tgt := 47) dX6_enough_98 (by decide) ?_
              rw [show (1 : Int) / 2 = 0 by decide]
              first
              | (refine H0 _ _ ⟨by omega, by omega, Or.inr c_88, fun l l0 l1 => h4 l (by omega) l1⟩)
              | (refine H0 _ _ ⟨h1, h2, h3, fun l l0 l1 => ?_⟩
                 first
                 | (have hl4 : l = 400 := by omega
                    rw [hl4]
                    exact h400)
                 | (have := hI.dl (l := t + 1) (l2 := l) (by omega)
                    omega))
            · refine w_iload dX6_enough_91 rfl ?_
              refine w_istore_n dX6_enough_93 (Nat.le_of_ble_eq_true rfl) ?_
              refine w_iload_n dX6_enough_94 rfl ?_
              refine w_iconst dX6_enough_95 ?_
              refine w_idivN dX6_enough_96 (by omega) (by omega) (by omega) (by omega) ?_
              refine w_istore_n dX6_enough_97 (Nat.le_of_ble_eq_true rfl) ?_
              refine w_goto (tgt := 47) dX6_enough_98 (by decide) ?_
              rw [show (1 : Int) / 2 = 0 by decide]
              first
              | (refine H0 _ _ ⟨by omega, by omega, Or.inr c_88, fun l l0 l1 => h4 l (by omega) l1⟩)
              | (refine H0 _ _ ⟨h1, h2, h3, fun l l0 l1 => ?_⟩
                 first
                 | (have hl4 : l = 400 := by omega
                    rw [hl4]
                    exact h400)
                 | (have := hI.dl (l := t + 1) (l2 := l) (by omega)
                    omega))
      have H2 : ∀ (t : Int) (x : Option PV), (39 ≤ t ∧ t < 400 ∧ (t = 39 ∨ e < dlF σ t) ∧ ∀ l, t + 4 ≤ l → l ≤ 400 → dlF σ l ≤ e) → Wp mX6_enough 1 (fun z τ => ((σ 4 6 < σ 4 5 ∧ dlF σ 400 ≤ e) → 40 ≤ z ∧ z ≤ 400 ∧ dlF σ z ≤ e ∧ ∀ l, 40 ≤ l → l < z → e < dlF σ l) ∧ (¬ (σ 4 6 < σ 4 5 ∧ dlF σ 400 ≤ e) → z = -1) ∧ τ = σ) 47 [some (.inr 6), some (.inl e), some (.inl t), some (.inl 2), x] [] σ := by
        intro t x ⟨h1, h2, h3, h4⟩
        refine w_iload_n dX6_enough_47 rfl ?_
        refine w_if_le (tgt := 101) dX6_enough_48 (by decide) (by omega) (fun c_48 => ?_) (fun c_48 => ?_)
        · exact absurd c_48 (by omega)
        · refine w_iload_n dX6_enough_51 rfl ?_
          refine w_iload_n dX6_enough_52 rfl ?_
          refine w_iadd dX6_enough_53 ?_
          refine w_istore dX6_enough_54 (Nat.le_of_ble_eq_true rfl) ?_
          refine w_iload dX6_enough_56 rfl ?_
          refine w_sipush dX6_enough_58 (by decide) ?_
          refine w_icmp_ge (tgt := 94) dX6_enough_61 (by decide) (by omega) (by omega) (fun c_61 => ?_) (fun c_61 => ?_)
          · refine w_iload_n dX6_enough_94 rfl ?_
            refine w_iconst dX6_enough_95 ?_
            refine w_idivN dX6_enough_96 (by omega) (by omega) (by omega) (by omega) ?_
            refine w_istore_n dX6_enough_97 (Nat.le_of_ble_eq_true rfl) ?_
            refine w_goto (tgt := 47) dX6_enough_98 (by decide) ?_
            rw [show (2 : Int) / 2 = 1 by decide]
            first
            | (refine H1 _ _ ⟨by omega, by omega, Or.inr c_88, fun l l0 l1 => h4 l (by omega) l1⟩)
            | (refine H1 _ _ ⟨h1, h2, h3, fun l l0 l1 => ?_⟩
               first
               | (have hl4 : l = 400 := by omega
                  rw [hl4]
                  exact h400)
               | (have := hI.dl (l := t + 2) (l2 := l) (by omega)
                  omega))
          · refine w_aload_n dX6_enough_64 rfl ?_
            refine gf_X6_40 rfl dX6_enough_65 ?_
            refine w_aload_n dX6_enough_68 rfl ?_
            refine gf_X6_40 rfl dX6_enough_69 ?_
            refine gf_X6_148 rfl dX6_enough_72 ?_
            refine w_aload_n dX6_enough_75 rfl ?_
            refine gf_X6_40 rfl dX6_enough_76 ?_
            refine gf_X6_145 rfl dX6_enough_79 ?_
            refine w_iload dX6_enough_82 rfl ?_
            refine cv_X6_260 rfl dX6_enough_84 (Nat.le_of_ble_eq_true rfl) (Nat.le_of_ble_eq_true rfl) (Wp.mono (ct_X4_days σ (σ 4 6) (σ 4 5) (t + 2) (by omega) (fun j j0 j1 => hI.pw j (by omega) j1) (by omega)) (fun z_ τ_ hq_ => ?_))
            obtain ⟨hz_, hs_⟩ := hq_
            subst τ_
            rw [show (dyF (σ 52) (σ 4 6) ((t + 2)) (σ 4 5 - σ 4 6)).1 = dlF σ ((t + 2)) from rfl] at hz_
            subst z_
            have hdb := hI.dlb ((t + 2))
            refine w_iload_n dX6_enough_87 rfl ?_
            refine w_icmp_le (tgt := 94) dX6_enough_88 (by decide) (by omega) he (fun c_88 => ?_) (fun c_88 => ?_)
            · refine w_iload_n dX6_enough_94 rfl ?_
              refine w_iconst dX6_enough_95 ?_
              refine w_idivN dX6_enough_96 (by omega) (by omega) (by omega) (by omega) ?_
              refine w_istore_n dX6_enough_97 (Nat.le_of_ble_eq_true rfl) ?_
              refine w_goto (tgt := 47) dX6_enough_98 (by decide) ?_
              rw [show (2 : Int) / 2 = 1 by decide]
              first
              | (refine H1 _ _ ⟨by omega, by omega, Or.inr c_88, fun l l0 l1 => h4 l (by omega) l1⟩)
              | (refine H1 _ _ ⟨h1, h2, h3, fun l l0 l1 => ?_⟩
                 first
                 | (have hl4 : l = 400 := by omega
                    rw [hl4]
                    exact h400)
                 | (have := hI.dl (l := t + 2) (l2 := l) (by omega)
                    omega))
            · refine w_iload dX6_enough_91 rfl ?_
              refine w_istore_n dX6_enough_93 (Nat.le_of_ble_eq_true rfl) ?_
              refine w_iload_n dX6_enough_94 rfl ?_
              refine w_iconst dX6_enough_95 ?_
              refine w_idivN dX6_enough_96 (by omega) (by omega) (by omega) (by omega) ?_
              refine w_istore_n dX6_enough_97 (Nat.le_of_ble_eq_true rfl) ?_
              refine w_goto (tgt := 47) dX6_enough_98 (by decide) ?_
              rw [show (2 : Int) / 2 = 1 by decide]
              first
              | (refine H1 _ _ ⟨by omega, by omega, Or.inr c_88, fun l l0 l1 => h4 l (by omega) l1⟩)
              | (refine H1 _ _ ⟨h1, h2, h3, fun l l0 l1 => ?_⟩
                 first
                 | (have hl4 : l = 400 := by omega
                    rw [hl4]
                    exact h400)
                 | (have := hI.dl (l := t + 2) (l2 := l) (by omega)
                    omega))
      have H4 : ∀ (t : Int) (x : Option PV), (39 ≤ t ∧ t < 400 ∧ (t = 39 ∨ e < dlF σ t) ∧ ∀ l, t + 8 ≤ l → l ≤ 400 → dlF σ l ≤ e) → Wp mX6_enough 1 (fun z τ => ((σ 4 6 < σ 4 5 ∧ dlF σ 400 ≤ e) → 40 ≤ z ∧ z ≤ 400 ∧ dlF σ z ≤ e ∧ ∀ l, 40 ≤ l → l < z → e < dlF σ l) ∧ (¬ (σ 4 6 < σ 4 5 ∧ dlF σ 400 ≤ e) → z = -1) ∧ τ = σ) 47 [some (.inr 6), some (.inl e), some (.inl t), some (.inl 4), x] [] σ := by
        intro t x ⟨h1, h2, h3, h4⟩
        refine w_iload_n dX6_enough_47 rfl ?_
        refine w_if_le (tgt := 101) dX6_enough_48 (by decide) (by omega) (fun c_48 => ?_) (fun c_48 => ?_)
        · exact absurd c_48 (by omega)
        · refine w_iload_n dX6_enough_51 rfl ?_
          refine w_iload_n dX6_enough_52 rfl ?_
          refine w_iadd dX6_enough_53 ?_
          refine w_istore dX6_enough_54 (Nat.le_of_ble_eq_true rfl) ?_
          refine w_iload dX6_enough_56 rfl ?_
          refine w_sipush dX6_enough_58 (by decide) ?_
          refine w_icmp_ge (tgt := 94) dX6_enough_61 (by decide) (by omega) (by omega) (fun c_61 => ?_) (fun c_61 => ?_)
          · refine w_iload_n dX6_enough_94 rfl ?_
            refine w_iconst dX6_enough_95 ?_
            refine w_idivN dX6_enough_96 (by omega) (by omega) (by omega) (by omega) ?_
            refine w_istore_n dX6_enough_97 (Nat.le_of_ble_eq_true rfl) ?_
            refine w_goto (tgt := 47) dX6_enough_98 (by decide) ?_
            rw [show (4 : Int) / 2 = 2 by decide]
            first
            | (refine H2 _ _ ⟨by omega, by omega, Or.inr c_88, fun l l0 l1 => h4 l (by omega) l1⟩)
            | (refine H2 _ _ ⟨h1, h2, h3, fun l l0 l1 => ?_⟩
               first
               | (have hl4 : l = 400 := by omega
                  rw [hl4]
                  exact h400)
               | (have := hI.dl (l := t + 4) (l2 := l) (by omega)
                  omega))
          · refine w_aload_n dX6_enough_64 rfl ?_
            refine gf_X6_40 rfl dX6_enough_65 ?_
            refine w_aload_n dX6_enough_68 rfl ?_
            refine gf_X6_40 rfl dX6_enough_69 ?_
            refine gf_X6_148 rfl dX6_enough_72 ?_
            refine w_aload_n dX6_enough_75 rfl ?_
            refine gf_X6_40 rfl dX6_enough_76 ?_
            refine gf_X6_145 rfl dX6_enough_79 ?_
            refine w_iload dX6_enough_82 rfl ?_
            refine cv_X6_260 rfl dX6_enough_84 (Nat.le_of_ble_eq_true rfl) (Nat.le_of_ble_eq_true rfl) (Wp.mono (ct_X4_days σ (σ 4 6) (σ 4 5) (t + 4) (by omega) (fun j j0 j1 => hI.pw j (by omega) j1) (by omega)) (fun z_ τ_ hq_ => ?_))
            obtain ⟨hz_, hs_⟩ := hq_
            subst τ_
            rw [show (dyF (σ 52) (σ 4 6) ((t + 4)) (σ 4 5 - σ 4 6)).1 = dlF σ ((t + 4)) from rfl] at hz_
            subst z_
            have hdb := hI.dlb ((t + 4))
            refine w_iload_n dX6_enough_87 rfl ?_
            refine w_icmp_le (tgt := 94) dX6_enough_88 (by decide) (by omega) he (fun c_88 => ?_) (fun c_88 => ?_)
            · refine w_iload_n dX6_enough_94 rfl ?_
              refine w_iconst dX6_enough_95 ?_
              refine w_idivN dX6_enough_96 (by omega) (by omega) (by omega) (by omega) ?_
              refine w_istore_n dX6_enough_97 (Nat.le_of_ble_eq_true rfl) ?_
              refine w_goto (tgt := 47) dX6_enough_98 (by decide) ?_
              rw [show (4 : Int) / 2 = 2 by decide]
              first
              | (refine H2 _ _ ⟨by omega, by omega, Or.inr c_88, fun l l0 l1 => h4 l (by omega) l1⟩)
              | (refine H2 _ _ ⟨h1, h2, h3, fun l l0 l1 => ?_⟩
                 first
                 | (have hl4 : l = 400 := by omega
                    rw [hl4]
                    exact h400)
                 | (have := hI.dl (l := t + 4) (l2 := l) (by omega)
                    omega))
            · refine w_iload dX6_enough_91 rfl ?_
              refine w_istore_n dX6_enough_93 (Nat.le_of_ble_eq_true rfl) ?_
              refine w_iload_n dX6_enough_94 rfl ?_
              refine w_iconst dX6_enough_95 ?_
              refine w_idivN dX6_enough_96 (by omega) (by omega) (by omega) (by omega) ?_
              refine w_istore_n dX6_enough_97 (Nat.le_of_ble_eq_true rfl) ?_
              refine w_goto (tgt := 47) dX6_enough_98 (by decide) ?_
              rw [show (4 : Int) / 2 = 2 by decide]
              first
              | (refine H2 _ _ ⟨by omega, by omega, Or.inr c_88, fun l l0 l1 => h4 l (by omega) l1⟩)
              | (refine H2 _ _ ⟨h1, h2, h3, fun l l0 l1 => ?_⟩
                 first
                 | (have hl4 : l = 400 := by omega
                    rw [hl4]
                    exact h400)
                 | (have := hI.dl (l := t + 4) (l2 := l) (by omega)
                    omega))
      have H8 : ∀ (t : Int) (x : Option PV), (39 ≤ t ∧ t < 400 ∧ (t = 39 ∨ e < dlF σ t) ∧ ∀ l, t + 16 ≤ l → l ≤ 400 → dlF σ l ≤ e) → Wp mX6_enough 1 (fun z τ => ((σ 4 6 < σ 4 5 ∧ dlF σ 400 ≤ e) → 40 ≤ z ∧ z ≤ 400 ∧ dlF σ z ≤ e ∧ ∀ l, 40 ≤ l → l < z → e < dlF σ l) ∧ (¬ (σ 4 6 < σ 4 5 ∧ dlF σ 400 ≤ e) → z = -1) ∧ τ = σ) 47 [some (.inr 6), some (.inl e), some (.inl t), some (.inl 8), x] [] σ := by
        intro t x ⟨h1, h2, h3, h4⟩
        refine w_iload_n dX6_enough_47 rfl ?_
        refine w_if_le (tgt := 101) dX6_enough_48 (by decide) (by omega) (fun c_48 => ?_) (fun c_48 => ?_)
        · exact absurd c_48 (by omega)
        · refine w_iload_n dX6_enough_51 rfl ?_
          refine w_iload_n dX6_enough_52 rfl ?_
          refine w_iadd dX6_enough_53 ?_
          refine w_istore dX6_enough_54 (Nat.le_of_ble_eq_true rfl) ?_
          refine w_iload dX6_enough_56 rfl ?_
          refine w_sipush dX6_enough_58 (by decide) ?_
          refine w_icmp_ge (tgt := 94) dX6_enough_61 (by decide) (by omega) (by omega) (fun c_61 => ?_) (fun c_61 => ?_)
          · refine w_iload_n dX6_enough_94 rfl ?_
            refine w_iconst dX6_enough_95 ?_
            refine w_idivN dX6_enough_96 (by omega) (by omega) (by omega) (by omega) ?_
            refine w_istore_n dX6_enough_97 (Nat.le_of_ble_eq_true rfl) ?_
            refine w_goto (tgt := 47) dX6_enough_98 (by decide) ?_
            rw [show (8 : Int) / 2 = 4 by decide]
            first
            | (refine H4 _ _ ⟨by omega, by omega, Or.inr c_88, fun l l0 l1 => h4 l (by omega) l1⟩)
            | (refine H4 _ _ ⟨h1, h2, h3, fun l l0 l1 => ?_⟩
               first
               | (have hl4 : l = 400 := by omega
                  rw [hl4]
                  exact h400)
               | (have := hI.dl (l := t + 8) (l2 := l) (by omega)
                  omega))
          · refine w_aload_n dX6_enough_64 rfl ?_
            refine gf_X6_40 rfl dX6_enough_65 ?_
            refine w_aload_n dX6_enough_68 rfl ?_
            refine gf_X6_40 rfl dX6_enough_69 ?_
            refine gf_X6_148 rfl dX6_enough_72 ?_
            refine w_aload_n dX6_enough_75 rfl ?_
            refine gf_X6_40 rfl dX6_enough_76 ?_
            refine gf_X6_145 rfl dX6_enough_79 ?_
            refine w_iload dX6_enough_82 rfl ?_
            refine cv_X6_260 rfl dX6_enough_84 (Nat.le_of_ble_eq_true rfl) (Nat.le_of_ble_eq_true rfl) (Wp.mono (ct_X4_days σ (σ 4 6) (σ 4 5) (t + 8) (by omega) (fun j j0 j1 => hI.pw j (by omega) j1) (by omega)) (fun z_ τ_ hq_ => ?_))
            obtain ⟨hz_, hs_⟩ := hq_
            subst τ_
            rw [show (dyF (σ 52) (σ 4 6) ((t + 8)) (σ 4 5 - σ 4 6)).1 = dlF σ ((t + 8)) from rfl] at hz_
            subst z_
            have hdb := hI.dlb ((t + 8))
            refine w_iload_n dX6_enough_87 rfl ?_
            refine w_icmp_le (tgt := 94) dX6_enough_88 (by decide) (by omega) he (fun c_88 => ?_) (fun c_88 => ?_)
            · refine w_iload_n dX6_enough_94 rfl ?_
              refine w_iconst dX6_enough_95 ?_
              refine w_idivN dX6_enough_96 (by omega) (by omega) (by omega) (by omega) ?_
              refine w_istore_n dX6_enough_97 (Nat.le_of_ble_eq_true rfl) ?_
              refine w_goto (tgt := 47) dX6_enough_98 (by decide) ?_
              rw [show (8 : Int) / 2 = 4 by decide]
              first
              | (refine H4 _ _ ⟨by omega, by omega, Or.inr c_88, fun l l0 l1 => h4 l (by omega) l1⟩)
              | (refine H4 _ _ ⟨h1, h2, h3, fun l l0 l1 => ?_⟩
                 first
                 | (have hl4 : l = 400 := by omega
                    rw [hl4]
                    exact h400)
                 | (have := hI.dl (l := t + 8) (l2 := l) (by omega)
                    omega))
            · refine w_iload dX6_enough_91 rfl ?_
              refine w_istore_n dX6_enough_93 (Nat.le_of_ble_eq_true rfl) ?_
              refine w_iload_n dX6_enough_94 rfl ?_
              refine w_iconst dX6_enough_95 ?_
              refine w_idivN dX6_enough_96 (by omega) (by omega) (by omega) (by omega) ?_
              refine w_istore_n dX6_enough_97 (Nat.le_of_ble_eq_true rfl) ?_
              refine w_goto (tgt := 47) dX6_enough_98 (by decide) ?_
              rw [show (8 : Int) / 2 = 4 by decide]
              first
              | (refine H4 _ _ ⟨by omega, by omega, Or.inr c_88, fun l l0 l1 => h4 l (by omega) l1⟩)
              | (refine H4 _ _ ⟨h1, h2, h3, fun l l0 l1 => ?_⟩
                 first
                 | (have hl4 : l = 400 := by omega
                    rw [hl4]
                    exact h400)
                 | (have := hI.dl (l := t + 8) (l2 := l) (by omega)
                    omega))
      have H16 : ∀ (t : Int) (x : Option PV), (39 ≤ t ∧ t < 400 ∧ (t = 39 ∨ e < dlF σ t) ∧ ∀ l, t + 32 ≤ l → l ≤ 400 → dlF σ l ≤ e) → Wp mX6_enough 1 (fun z τ => ((σ 4 6 < σ 4 5 ∧ dlF σ 400 ≤ e) → 40 ≤ z ∧ z ≤ 400 ∧ dlF σ z ≤ e ∧ ∀ l, 40 ≤ l → l < z → e < dlF σ l) ∧ (¬ (σ 4 6 < σ 4 5 ∧ dlF σ 400 ≤ e) → z = -1) ∧ τ = σ) 47 [some (.inr 6), some (.inl e), some (.inl t), some (.inl 16), x] [] σ := by
        intro t x ⟨h1, h2, h3, h4⟩
        refine w_iload_n dX6_enough_47 rfl ?_
        refine w_if_le (tgt := 101) dX6_enough_48 (by decide) (by omega) (fun c_48 => ?_) (fun c_48 => ?_)
        · exact absurd c_48 (by omega)
        · refine w_iload_n dX6_enough_51 rfl ?_
          refine w_iload_n dX6_enough_52 rfl ?_
          refine w_iadd dX6_enough_53 ?_
          refine w_istore dX6_enough_54 (Nat.le_of_ble_eq_true rfl) ?_
          refine w_iload dX6_enough_56 rfl ?_
          refine w_sipush dX6_enough_58 (by decide) ?_
          refine w_icmp_ge (tgt := 94) dX6_enough_61 (by decide) (by omega) (by omega) (fun c_61 => ?_) (fun c_61 => ?_)
          · refine w_iload_n dX6_enough_94 rfl ?_
            refine w_iconst dX6_enough_95 ?_
            refine w_idivN dX6_enough_96 (by omega) (by omega) (by omega) (by omega) ?_
            refine w_istore_n dX6_enough_97 (Nat.le_of_ble_eq_true rfl) ?_
            refine w_goto (tgt := 47) dX6_enough_98 (by decide) ?_
            rw [show (16 : Int) / 2 = 8 by decide]
            first
            | (refine H8 _ _ ⟨by omega, by omega, Or.inr c_88, fun l l0 l1 => h4 l (by omega) l1⟩)
            | (refine H8 _ _ ⟨h1, h2, h3, fun l l0 l1 => ?_⟩
               first
               | (have hl4 : l = 400 := by omega
                  rw [hl4]
                  exact h400)
               | (have := hI.dl (l := t + 16) (l2 := l) (by omega)
                  omega))
          · refine w_aload_n dX6_enough_64 rfl ?_
            refine gf_X6_40 rfl dX6_enough_65 ?_
            refine w_aload_n dX6_enough_68 rfl ?_
            refine gf_X6_40 rfl dX6_enough_69 ?_
            refine gf_X6_148 rfl dX6_enough_72 ?_
            refine w_aload_n dX6_enough_75 rfl ?_
            refine gf_X6_40 rfl dX6_enough_76 ?_
            refine gf_X6_145 rfl dX6_enough_79 ?_
            refine w_iload dX6_enough_82 rfl ?_
            refine cv_X6_260 rfl dX6_enough_84 (Nat.le_of_ble_eq_true rfl) (Nat.le_of_ble_eq_true rfl) (Wp.mono (ct_X4_days σ (σ 4 6) (σ 4 5) (t + 16) (by omega) (fun j j0 j1 => hI.pw j (by omega) j1) (by omega)) (fun z_ τ_ hq_ => ?_))
            obtain ⟨hz_, hs_⟩ := hq_
            subst τ_
            rw [show (dyF (σ 52) (σ 4 6) ((t + 16)) (σ 4 5 - σ 4 6)).1 = dlF σ ((t + 16)) from rfl] at hz_
            subst z_
            have hdb := hI.dlb ((t + 16))
            refine w_iload_n dX6_enough_87 rfl ?_
            refine w_icmp_le (tgt := 94) dX6_enough_88 (by decide) (by omega) he (fun c_88 => ?_) (fun c_88 => ?_)
            · refine w_iload_n dX6_enough_94 rfl ?_
              refine w_iconst dX6_enough_95 ?_
              refine w_idivN dX6_enough_96 (by omega) (by omega) (by omega) (by omega) ?_
              refine w_istore_n dX6_enough_97 (Nat.le_of_ble_eq_true rfl) ?_
              refine w_goto (tgt := 47) dX6_enough_98 (by decide) ?_
              rw [show (16 : Int) / 2 = 8 by decide]
              first
              | (refine H8 _ _ ⟨by omega, by omega, Or.inr c_88, fun l l0 l1 => h4 l (by omega) l1⟩)
              | (refine H8 _ _ ⟨h1, h2, h3, fun l l0 l1 => ?_⟩
                 first
                 | (have hl4 : l = 400 := by omega
                    rw [hl4]
                    exact h400)
                 | (have := hI.dl (l := t + 16) (l2 := l) (by omega)
                    omega))
            · refine w_iload dX6_enough_91 rfl ?_
              refine w_istore_n dX6_enough_93 (Nat.le_of_ble_eq_true rfl) ?_
              refine w_iload_n dX6_enough_94 rfl ?_
              refine w_iconst dX6_enough_95 ?_
              refine w_idivN dX6_enough_96 (by omega) (by omega) (by omega) (by omega) ?_
              refine w_istore_n dX6_enough_97 (Nat.le_of_ble_eq_true rfl) ?_
              refine w_goto (tgt := 47) dX6_enough_98 (by decide) ?_
              rw [show (16 : Int) / 2 = 8 by decide]
              first
              | (refine H8 _ _ ⟨by omega, by omega, Or.inr c_88, fun l l0 l1 => h4 l (by omega) l1⟩)
              | (refine H8 _ _ ⟨h1, h2, h3, fun l l0 l1 => ?_⟩
                 first
                 | (have hl4 : l = 400 := by omega
                    rw [hl4]
                    exact h400)
                 | (have := hI.dl (l := t + 16) (l2 := l) (by omega)
                    omega))
      have H32 : ∀ (t : Int) (x : Option PV), (39 ≤ t ∧ t < 400 ∧ (t = 39 ∨ e < dlF σ t) ∧ ∀ l, t + 64 ≤ l → l ≤ 400 → dlF σ l ≤ e) → Wp mX6_enough 1 (fun z τ => ((σ 4 6 < σ 4 5 ∧ dlF σ 400 ≤ e) → 40 ≤ z ∧ z ≤ 400 ∧ dlF σ z ≤ e ∧ ∀ l, 40 ≤ l → l < z → e < dlF σ l) ∧ (¬ (σ 4 6 < σ 4 5 ∧ dlF σ 400 ≤ e) → z = -1) ∧ τ = σ) 47 [some (.inr 6), some (.inl e), some (.inl t), some (.inl 32), x] [] σ := by
        intro t x ⟨h1, h2, h3, h4⟩
        refine w_iload_n dX6_enough_47 rfl ?_
        refine w_if_le (tgt := 101) dX6_enough_48 (by decide) (by omega) (fun c_48 => ?_) (fun c_48 => ?_)
        · exact absurd c_48 (by omega)
        · refine w_iload_n dX6_enough_51 rfl ?_
          refine w_iload_n dX6_enough_52 rfl ?_
          refine w_iadd dX6_enough_53 ?_
          refine w_istore dX6_enough_54 (Nat.le_of_ble_eq_true rfl) ?_
          refine w_iload dX6_enough_56 rfl ?_
          refine w_sipush dX6_enough_58 (by decide) ?_
          refine w_icmp_ge (tgt := 94) dX6_enough_61 (by decide) (by omega) (by omega) (fun c_61 => ?_) (fun c_61 => ?_)
          · refine w_iload_n dX6_enough_94 rfl ?_
            refine w_iconst dX6_enough_95 ?_
            refine w_idivN dX6_enough_96 (by omega) (by omega) (by omega) (by omega) ?_
            refine w_istore_n dX6_enough_97 (Nat.le_of_ble_eq_true rfl) ?_
            refine w_goto (tgt := 47) dX6_enough_98 (by decide) ?_
            rw [show (32 : Int) / 2 = 16 by decide]
            first
            | (refine H16 _ _ ⟨by omega, by omega, Or.inr c_88, fun l l0 l1 => h4 l (by omega) l1⟩)
            | (refine H16 _ _ ⟨h1, h2, h3, fun l l0 l1 => ?_⟩
               first
               | (have hl4 : l = 400 := by omega
                  rw [hl4]
                  exact h400)
               | (have := hI.dl (l := t + 32) (l2 := l) (by omega)
                  omega))
          · refine w_aload_n dX6_enough_64 rfl ?_
            refine gf_X6_40 rfl dX6_enough_65 ?_
            refine w_aload_n dX6_enough_68 rfl ?_
            refine gf_X6_40 rfl dX6_enough_69 ?_
            refine gf_X6_148 rfl dX6_enough_72 ?_
            refine w_aload_n dX6_enough_75 rfl ?_
            refine gf_X6_40 rfl dX6_enough_76 ?_
            refine gf_X6_145 rfl dX6_enough_79 ?_
            refine w_iload dX6_enough_82 rfl ?_
            refine cv_X6_260 rfl dX6_enough_84 (Nat.le_of_ble_eq_true rfl) (Nat.le_of_ble_eq_true rfl) (Wp.mono (ct_X4_days σ (σ 4 6) (σ 4 5) (t + 32) (by omega) (fun j j0 j1 => hI.pw j (by omega) j1) (by omega)) (fun z_ τ_ hq_ => ?_))
            obtain ⟨hz_, hs_⟩ := hq_
            subst τ_
            rw [show (dyF (σ 52) (σ 4 6) ((t + 32)) (σ 4 5 - σ 4 6)).1 = dlF σ ((t + 32)) from rfl] at hz_
            subst z_
            have hdb := hI.dlb ((t + 32))
            refine w_iload_n dX6_enough_87 rfl ?_
            refine w_icmp_le (tgt := 94) dX6_enough_88 (by decide) (by omega) he (fun c_88 => ?_) (fun c_88 => ?_)
            · refine w_iload_n dX6_enough_94 rfl ?_
              refine w_iconst dX6_enough_95 ?_
              refine w_idivN dX6_enough_96 (by omega) (by omega) (by omega) (by omega) ?_
              refine w_istore_n dX6_enough_97 (Nat.le_of_ble_eq_true rfl) ?_
              refine w_goto (tgt := 47) dX6_enough_98 (by decide) ?_
              rw [show (32 : Int) / 2 = 16 by decide]
              first
              | (refine H16 _ _ ⟨by omega, by omega, Or.inr c_88, fun l l0 l1 => h4 l (by omega) l1⟩)
              | (refine H16 _ _ ⟨h1, h2, h3, fun l l0 l1 => ?_⟩
                 first
                 | (have hl4 : l = 400 := by omega
                    rw [hl4]
                    exact h400)
                 | (have := hI.dl (l := t + 32) (l2 := l) (by omega)
                    omega))
            · refine w_iload dX6_enough_91 rfl ?_
              refine w_istore_n dX6_enough_93 (Nat.le_of_ble_eq_true rfl) ?_
              refine w_iload_n dX6_enough_94 rfl ?_
              refine w_iconst dX6_enough_95 ?_
              refine w_idivN dX6_enough_96 (by omega) (by omega) (by omega) (by omega) ?_
              refine w_istore_n dX6_enough_97 (Nat.le_of_ble_eq_true rfl) ?_
              refine w_goto (tgt := 47) dX6_enough_98 (by decide) ?_
              rw [show (32 : Int) / 2 = 16 by decide]
              first
              | (refine H16 _ _ ⟨by omega, by omega, Or.inr c_88, fun l l0 l1 => h4 l (by omega) l1⟩)
              | (refine H16 _ _ ⟨h1, h2, h3, fun l l0 l1 => ?_⟩
                 first
                 | (have hl4 : l = 400 := by omega
                    rw [hl4]
                    exact h400)
                 | (have := hI.dl (l := t + 32) (l2 := l) (by omega)
                    omega))
      have H64 : ∀ (t : Int) (x : Option PV), (39 ≤ t ∧ t < 400 ∧ (t = 39 ∨ e < dlF σ t) ∧ ∀ l, t + 128 ≤ l → l ≤ 400 → dlF σ l ≤ e) → Wp mX6_enough 1 (fun z τ => ((σ 4 6 < σ 4 5 ∧ dlF σ 400 ≤ e) → 40 ≤ z ∧ z ≤ 400 ∧ dlF σ z ≤ e ∧ ∀ l, 40 ≤ l → l < z → e < dlF σ l) ∧ (¬ (σ 4 6 < σ 4 5 ∧ dlF σ 400 ≤ e) → z = -1) ∧ τ = σ) 47 [some (.inr 6), some (.inl e), some (.inl t), some (.inl 64), x] [] σ := by
        intro t x ⟨h1, h2, h3, h4⟩
        refine w_iload_n dX6_enough_47 rfl ?_
        refine w_if_le (tgt := 101) dX6_enough_48 (by decide) (by omega) (fun c_48 => ?_) (fun c_48 => ?_)
        · exact absurd c_48 (by omega)
        · refine w_iload_n dX6_enough_51 rfl ?_
          refine w_iload_n dX6_enough_52 rfl ?_
          refine w_iadd dX6_enough_53 ?_
          refine w_istore dX6_enough_54 (Nat.le_of_ble_eq_true rfl) ?_
          refine w_iload dX6_enough_56 rfl ?_
          refine w_sipush dX6_enough_58 (by decide) ?_
          refine w_icmp_ge (tgt := 94) dX6_enough_61 (by decide) (by omega) (by omega) (fun c_61 => ?_) (fun c_61 => ?_)
          · refine w_iload_n dX6_enough_94 rfl ?_
            refine w_iconst dX6_enough_95 ?_
            refine w_idivN dX6_enough_96 (by omega) (by omega) (by omega) (by omega) ?_
            refine w_istore_n dX6_enough_97 (Nat.le_of_ble_eq_true rfl) ?_
            refine w_goto (tgt := 47) dX6_enough_98 (by decide) ?_
            rw [show (64 : Int) / 2 = 32 by decide]
            first
            | (refine H32 _ _ ⟨by omega, by omega, Or.inr c_88, fun l l0 l1 => h4 l (by omega) l1⟩)
            | (refine H32 _ _ ⟨h1, h2, h3, fun l l0 l1 => ?_⟩
               first
               | (have hl4 : l = 400 := by omega
                  rw [hl4]
                  exact h400)
               | (have := hI.dl (l := t + 64) (l2 := l) (by omega)
                  omega))
          · refine w_aload_n dX6_enough_64 rfl ?_
            refine gf_X6_40 rfl dX6_enough_65 ?_
            refine w_aload_n dX6_enough_68 rfl ?_
            refine gf_X6_40 rfl dX6_enough_69 ?_
            refine gf_X6_148 rfl dX6_enough_72 ?_
            refine w_aload_n dX6_enough_75 rfl ?_
            refine gf_X6_40 rfl dX6_enough_76 ?_
            refine gf_X6_145 rfl dX6_enough_79 ?_
            refine w_iload dX6_enough_82 rfl ?_
            refine cv_X6_260 rfl dX6_enough_84 (Nat.le_of_ble_eq_true rfl) (Nat.le_of_ble_eq_true rfl) (Wp.mono (ct_X4_days σ (σ 4 6) (σ 4 5) (t + 64) (by omega) (fun j j0 j1 => hI.pw j (by omega) j1) (by omega)) (fun z_ τ_ hq_ => ?_))
            obtain ⟨hz_, hs_⟩ := hq_
            subst τ_
            rw [show (dyF (σ 52) (σ 4 6) ((t + 64)) (σ 4 5 - σ 4 6)).1 = dlF σ ((t + 64)) from rfl] at hz_
            subst z_
            have hdb := hI.dlb ((t + 64))
            refine w_iload_n dX6_enough_87 rfl ?_
            refine w_icmp_le (tgt := 94) dX6_enough_88 (by decide) (by omega) he (fun c_88 => ?_) (fun c_88 => ?_)
            · refine w_iload_n dX6_enough_94 rfl ?_
              refine w_iconst dX6_enough_95 ?_
              refine w_idivN dX6_enough_96 (by omega) (by omega) (by omega) (by omega) ?_
              refine w_istore_n dX6_enough_97 (Nat.le_of_ble_eq_true rfl) ?_
              refine w_goto (tgt := 47) dX6_enough_98 (by decide) ?_
              rw [show (64 : Int) / 2 = 32 by decide]
              first
              | (refine H32 _ _ ⟨by omega, by omega, Or.inr c_88, fun l l0 l1 => h4 l (by omega) l1⟩)
              | (refine H32 _ _ ⟨h1, h2, h3, fun l l0 l1 => ?_⟩
                 first
                 | (have hl4 : l = 400 := by omega
                    rw [hl4]
                    exact h400)
                 | (have := hI.dl (l := t + 64) (l2 := l) (by omega)
                    omega))
            · refine w_iload dX6_enough_91 rfl ?_
              refine w_istore_n dX6_enough_93 (Nat.le_of_ble_eq_true rfl) ?_
              refine w_iload_n dX6_enough_94 rfl ?_
              refine w_iconst dX6_enough_95 ?_
              refine w_idivN dX6_enough_96 (by omega) (by omega) (by omega) (by omega) ?_
              refine w_istore_n dX6_enough_97 (Nat.le_of_ble_eq_true rfl) ?_
              refine w_goto (tgt := 47) dX6_enough_98 (by decide) ?_
              rw [show (64 : Int) / 2 = 32 by decide]
              first
              | (refine H32 _ _ ⟨by omega, by omega, Or.inr c_88, fun l l0 l1 => h4 l (by omega) l1⟩)
              | (refine H32 _ _ ⟨h1, h2, h3, fun l l0 l1 => ?_⟩
                 first
                 | (have hl4 : l = 400 := by omega
                    rw [hl4]
                    exact h400)
                 | (have := hI.dl (l := t + 64) (l2 := l) (by omega)
                    omega))
      have H128 : ∀ (t : Int) (x : Option PV), (39 ≤ t ∧ t < 400 ∧ (t = 39 ∨ e < dlF σ t) ∧ ∀ l, t + 256 ≤ l → l ≤ 400 → dlF σ l ≤ e) → Wp mX6_enough 1 (fun z τ => ((σ 4 6 < σ 4 5 ∧ dlF σ 400 ≤ e) → 40 ≤ z ∧ z ≤ 400 ∧ dlF σ z ≤ e ∧ ∀ l, 40 ≤ l → l < z → e < dlF σ l) ∧ (¬ (σ 4 6 < σ 4 5 ∧ dlF σ 400 ≤ e) → z = -1) ∧ τ = σ) 47 [some (.inr 6), some (.inl e), some (.inl t), some (.inl 128), x] [] σ := by
        intro t x ⟨h1, h2, h3, h4⟩
        refine w_iload_n dX6_enough_47 rfl ?_
        refine w_if_le (tgt := 101) dX6_enough_48 (by decide) (by omega) (fun c_48 => ?_) (fun c_48 => ?_)
        · exact absurd c_48 (by omega)
        · refine w_iload_n dX6_enough_51 rfl ?_
          refine w_iload_n dX6_enough_52 rfl ?_
          refine w_iadd dX6_enough_53 ?_
          refine w_istore dX6_enough_54 (Nat.le_of_ble_eq_true rfl) ?_
          refine w_iload dX6_enough_56 rfl ?_
          refine w_sipush dX6_enough_58 (by decide) ?_
          refine w_icmp_ge (tgt := 94) dX6_enough_61 (by decide) (by omega) (by omega) (fun c_61 => ?_) (fun c_61 => ?_)
          · refine w_iload_n dX6_enough_94 rfl ?_
            refine w_iconst dX6_enough_95 ?_
            refine w_idivN dX6_enough_96 (by omega) (by omega) (by omega) (by omega) ?_
            refine w_istore_n dX6_enough_97 (Nat.le_of_ble_eq_true rfl) ?_
            refine w_goto (tgt := 47) dX6_enough_98 (by decide) ?_
            rw [show (128 : Int) / 2 = 64 by decide]
            first
            | (refine H64 _ _ ⟨by omega, by omega, Or.inr c_88, fun l l0 l1 => h4 l (by omega) l1⟩)
            | (refine H64 _ _ ⟨h1, h2, h3, fun l l0 l1 => ?_⟩
               first
               | (have hl4 : l = 400 := by omega
                  rw [hl4]
                  exact h400)
               | (have := hI.dl (l := t + 128) (l2 := l) (by omega)
                  omega))
          · refine w_aload_n dX6_enough_64 rfl ?_
            refine gf_X6_40 rfl dX6_enough_65 ?_
            refine w_aload_n dX6_enough_68 rfl ?_
            refine gf_X6_40 rfl dX6_enough_69 ?_
            refine gf_X6_148 rfl dX6_enough_72 ?_
            refine w_aload_n dX6_enough_75 rfl ?_
            refine gf_X6_40 rfl dX6_enough_76 ?_
            refine gf_X6_145 rfl dX6_enough_79 ?_
            refine w_iload dX6_enough_82 rfl ?_
            refine cv_X6_260 rfl dX6_enough_84 (Nat.le_of_ble_eq_true rfl) (Nat.le_of_ble_eq_true rfl) (Wp.mono (ct_X4_days σ (σ 4 6) (σ 4 5) (t + 128) (by omega) (fun j j0 j1 => hI.pw j (by omega) j1) (by omega)) (fun z_ τ_ hq_ => ?_))
            obtain ⟨hz_, hs_⟩ := hq_
            subst τ_
            rw [show (dyF (σ 52) (σ 4 6) ((t + 128)) (σ 4 5 - σ 4 6)).1 = dlF σ ((t + 128)) from rfl] at hz_
            subst z_
            have hdb := hI.dlb ((t + 128))
            refine w_iload_n dX6_enough_87 rfl ?_
            refine w_icmp_le (tgt := 94) dX6_enough_88 (by decide) (by omega) he (fun c_88 => ?_) (fun c_88 => ?_)
            · refine w_iload_n dX6_enough_94 rfl ?_
              refine w_iconst dX6_enough_95 ?_
              refine w_idivN dX6_enough_96 (by omega) (by omega) (by omega) (by omega) ?_
              refine w_istore_n dX6_enough_97 (Nat.le_of_ble_eq_true rfl) ?_
              refine w_goto (tgt := 47) dX6_enough_98 (by decide) ?_
              rw [show (128 : Int) / 2 = 64 by decide]
              first
              | (refine H64 _ _ ⟨by omega, by omega, Or.inr c_88, fun l l0 l1 => h4 l (by omega) l1⟩)
              | (refine H64 _ _ ⟨h1, h2, h3, fun l l0 l1 => ?_⟩
                 first
                 | (have hl4 : l = 400 := by omega
                    rw [hl4]
                    exact h400)
                 | (have := hI.dl (l := t + 128) (l2 := l) (by omega)
                    omega))
            · refine w_iload dX6_enough_91 rfl ?_
              refine w_istore_n dX6_enough_93 (Nat.le_of_ble_eq_true rfl) ?_
              refine w_iload_n dX6_enough_94 rfl ?_
              refine w_iconst dX6_enough_95 ?_
              refine w_idivN dX6_enough_96 (by omega) (by omega) (by omega) (by omega) ?_
              refine w_istore_n dX6_enough_97 (Nat.le_of_ble_eq_true rfl) ?_
              refine w_goto (tgt := 47) dX6_enough_98 (by decide) ?_
              rw [show (128 : Int) / 2 = 64 by decide]
              first
              | (refine H64 _ _ ⟨by omega, by omega, Or.inr c_88, fun l l0 l1 => h4 l (by omega) l1⟩)
              | (refine H64 _ _ ⟨h1, h2, h3, fun l l0 l1 => ?_⟩
                 first
                 | (have hl4 : l = 400 := by omega
                    rw [hl4]
                    exact h400)
                 | (have := hI.dl (l := t + 128) (l2 := l) (by omega)
                    omega))
      have H256 : ∀ (t : Int) (x : Option PV), (39 ≤ t ∧ t < 400 ∧ (t = 39 ∨ e < dlF σ t) ∧ ∀ l, t + 512 ≤ l → l ≤ 400 → dlF σ l ≤ e) → Wp mX6_enough 1 (fun z τ => ((σ 4 6 < σ 4 5 ∧ dlF σ 400 ≤ e) → 40 ≤ z ∧ z ≤ 400 ∧ dlF σ z ≤ e ∧ ∀ l, 40 ≤ l → l < z → e < dlF σ l) ∧ (¬ (σ 4 6 < σ 4 5 ∧ dlF σ 400 ≤ e) → z = -1) ∧ τ = σ) 47 [some (.inr 6), some (.inl e), some (.inl t), some (.inl 256), x] [] σ := by
        intro t x ⟨h1, h2, h3, h4⟩
        refine w_iload_n dX6_enough_47 rfl ?_
        refine w_if_le (tgt := 101) dX6_enough_48 (by decide) (by omega) (fun c_48 => ?_) (fun c_48 => ?_)
        · exact absurd c_48 (by omega)
        · refine w_iload_n dX6_enough_51 rfl ?_
          refine w_iload_n dX6_enough_52 rfl ?_
          refine w_iadd dX6_enough_53 ?_
          refine w_istore dX6_enough_54 (Nat.le_of_ble_eq_true rfl) ?_
          refine w_iload dX6_enough_56 rfl ?_
          refine w_sipush dX6_enough_58 (by decide) ?_
          refine w_icmp_ge (tgt := 94) dX6_enough_61 (by decide) (by omega) (by omega) (fun c_61 => ?_) (fun c_61 => ?_)
          · refine w_iload_n dX6_enough_94 rfl ?_
            refine w_iconst dX6_enough_95 ?_
            refine w_idivN dX6_enough_96 (by omega) (by omega) (by omega) (by omega) ?_
            refine w_istore_n dX6_enough_97 (Nat.le_of_ble_eq_true rfl) ?_
            refine w_goto (tgt := 47) dX6_enough_98 (by decide) ?_
            rw [show (256 : Int) / 2 = 128 by decide]
            first
            | (refine H128 _ _ ⟨by omega, by omega, Or.inr c_88, fun l l0 l1 => h4 l (by omega) l1⟩)
            | (refine H128 _ _ ⟨h1, h2, h3, fun l l0 l1 => ?_⟩
               first
               | (have hl4 : l = 400 := by omega
                  rw [hl4]
                  exact h400)
               | (have := hI.dl (l := t + 256) (l2 := l) (by omega)
                  omega))
          · refine w_aload_n dX6_enough_64 rfl ?_
            refine gf_X6_40 rfl dX6_enough_65 ?_
            refine w_aload_n dX6_enough_68 rfl ?_
            refine gf_X6_40 rfl dX6_enough_69 ?_
            refine gf_X6_148 rfl dX6_enough_72 ?_
            refine w_aload_n dX6_enough_75 rfl ?_
            refine gf_X6_40 rfl dX6_enough_76 ?_
            refine gf_X6_145 rfl dX6_enough_79 ?_
            refine w_iload dX6_enough_82 rfl ?_
            refine cv_X6_260 rfl dX6_enough_84 (Nat.le_of_ble_eq_true rfl) (Nat.le_of_ble_eq_true rfl) (Wp.mono (ct_X4_days σ (σ 4 6) (σ 4 5) (t + 256) (by omega) (fun j j0 j1 => hI.pw j (by omega) j1) (by omega)) (fun z_ τ_ hq_ => ?_))
            obtain ⟨hz_, hs_⟩ := hq_
            subst τ_
            rw [show (dyF (σ 52) (σ 4 6) ((t + 256)) (σ 4 5 - σ 4 6)).1 = dlF σ ((t + 256)) from rfl] at hz_
            subst z_
            have hdb := hI.dlb ((t + 256))
            refine w_iload_n dX6_enough_87 rfl ?_
            refine w_icmp_le (tgt := 94) dX6_enough_88 (by decide) (by omega) he (fun c_88 => ?_) (fun c_88 => ?_)
            · refine w_iload_n dX6_enough_94 rfl ?_
              refine w_iconst dX6_enough_95 ?_
              refine w_idivN dX6_enough_96 (by omega) (by omega) (by omega) (by omega) ?_
              refine w_istore_n dX6_enough_97 (Nat.le_of_ble_eq_true rfl) ?_
              refine w_goto (tgt := 47) dX6_enough_98 (by decide) ?_
              rw [show (256 : Int) / 2 = 128 by decide]
              first
              | (refine H128 _ _ ⟨by omega, by omega, Or.inr c_88, fun l l0 l1 => h4 l (by omega) l1⟩)
              | (refine H128 _ _ ⟨h1, h2, h3, fun l l0 l1 => ?_⟩
                 first
                 | (have hl4 : l = 400 := by omega
                    rw [hl4]
                    exact h400)
                 | (have := hI.dl (l := t + 256) (l2 := l) (by omega)
                    omega))
            · refine w_iload dX6_enough_91 rfl ?_
              refine w_istore_n dX6_enough_93 (Nat.le_of_ble_eq_true rfl) ?_
              refine w_iload_n dX6_enough_94 rfl ?_
              refine w_iconst dX6_enough_95 ?_
              refine w_idivN dX6_enough_96 (by omega) (by omega) (by omega) (by omega) ?_
              refine w_istore_n dX6_enough_97 (Nat.le_of_ble_eq_true rfl) ?_
              refine w_goto (tgt := 47) dX6_enough_98 (by decide) ?_
              rw [show (256 : Int) / 2 = 128 by decide]
              first
              | (refine H128 _ _ ⟨by omega, by omega, Or.inr c_88, fun l l0 l1 => h4 l (by omega) l1⟩)
              | (refine H128 _ _ ⟨h1, h2, h3, fun l l0 l1 => ?_⟩
                 first
                 | (have hl4 : l = 400 := by omega
                    rw [hl4]
                    exact h400)
                 | (have := hI.dl (l := t + 256) (l2 := l) (by omega)
                    omega))
      exact H256 _ _ ⟨by omega, by omega, Or.inl rfl, fun l l0 l1 => by omega⟩
    · refine w_iconst dX6_enough_38 ?_
      refine w_iret dX6_enough_39 rfl ?_
      first
      | exact ⟨fun q => absurd q.1 (by omega), fun _ => rfl, rfl⟩
      | exact ⟨fun q => absurd q.2 (by omega), fun _ => rfl, rfl⟩

theorem sumF_add (w : Int → Int) (f a : Int) (ha : 0 ≤ a) : ∀ b : Nat, sumF w f (a + b) = sumF w f a + sumF w (f + a) b := by
  intro b
  induction b with
  | zero => rw [show a + ((0 : Nat) : Int) = a by omega, show ((0 : Nat) : Int) = 0 from rfl, sumF_0]; omega
  | succ b ih =>
    rw [show a + ((b + 1 : Nat) : Int) = (a + b) + 1 by omega, sumF_s _ _ (by omega), ih, show ((b + 1 : Nat) : Int) = (b : Int) + 1 by omega, sumF_s _ _ (by omega), show f + (a + (b : Int)) = f + a + b by omega]
    omega
theorem sumF_lemono {w u : Int → Int} {f n : Int} (h : ∀ k, f ≤ k → k < n → w k ≤ u k) : ∀ a : Nat, f + a ≤ n → sumF w f a ≤ sumF u f a := by
  intro a
  induction a with
  | zero => intro _; exact Int.le_refl 0
  | succ a ih =>
    intro ha
    rw [show ((a + 1 : Nat) : Int) = (a : Int) + 1 by omega, sumF_s _ _ (by omega), sumF_s _ _ (by omega)]
    have := ih (by omega)
    have := h (f + a) (by omega) (by omega)
    omega
theorem day_mono {w u : Int → Int} {f f2 n lim z z2 : Int} (hf : f2 ≤ f) (h0 : 0 ≤ f2) (hw : ∀ k, 0 ≤ k → k < n → 0 ≤ w k ∧ w k ≤ u k) (h : IsDay w f n lim z) (k : IsDay u f2 n lim z2) : f2 + z2 ≤ f + z := by
  obtain ⟨a1, a2, a3, a4⟩ := h
  obtain ⟨b1, b2, b3, b4⟩ := k
  by_cases q : f2 + z2 ≤ f + z
  · exact q
  · exfalso
    have c : lim < sumF w f (z + 1) := by omega
    have d1 := sumF_lemono (w := w) (u := u) (f := f) (n := n) (fun k k1 k2 => (hw k (by omega) k2).2) (z + 1).toNat (by omega)
    rw [show (((z + 1).toNat : Nat) : Int) = z + 1 by omega] at d1
    have d2 := sumF_mono (w := u) (f := f) (n := n) (fun k k1 k2 => by have := hw k (by omega) k2; omega) (a := z + 1) (b := f2 + z2 - f) (by omega) (by omega) (by omega)
    have d3 := sumF_add u f2 (f - f2) (by omega) (f2 + z2 - f).toNat
    rw [show (((f2 + z2 - f).toNat : Nat) : Int) = f2 + z2 - f by omega, show f - f2 + (f2 + z2 - f) = z2 by omega, show f2 + (f - f2) = f by omega] at d3
    have d4 := sumF_nn (w := u) (f := f2) (n := n) (fun k k1 k2 => by have := hw k (by omega) k2; omega) (a := f - f2) (by omega) (by omega)
    omega
theorem fill_mono {len kind w u q q2 : Int → Int} {kd ns n : Int} (hn : 0 ≤ n) (hw : ∀ k, 0 ≤ k → k < n → 0 ≤ w k ∧ w k ≤ u k) (h : IsFill len kind w kd ns n q) (k : IsFill len kind u kd ns n q2) : ∀ s, 0 ≤ s → s ≤ ns → q2 s ≤ q s := by
  intro s s0 s1
  have key : ∀ j : Nat, (j : Int) ≤ ns → q2 j ≤ q j := by
    intro j
    induction j with
    | zero => intro _; rw [show ((0 : Nat) : Int) = 0 from rfl, h.1, k.1]; exact Int.le_refl 0
    | succ j ih =>
      intro hj
      have ih := ih (by omega)
      have a := h.2 j (by omega) (by omega)
      have b := k.2 j (by omega) (by omega)
      have p := k.bd hn j (by omega) (by omega)
      rw [show ((j + 1 : Nat) : Int) = (j : Int) + 1 by omega]
      by_cases c : kind j ≤ kd
      · have := day_mono ih p.1 hw (a.1 c) (b.1 c)
        omega
      · have a1 := a.2 (by omega)
        have b1 := b.2 (by omega)
        omega
  have := key s.toNat (by omega)
  rwa [show ((s.toNat : Nat) : Int) = s by omega] at this
def FitY (σ : St) (kd y : Int) : Prop := ∃ q, IsFill (σ 55) (σ 56) (spanY σ y) kd (σ 5 2) (σ 0 6) q ∧ q (σ 5 2) = σ 0 6
theorem InvC.spn {σ : St} (h : InvC σ) {y y2 : Int} (hy : 0 ≤ y) (hyy : y ≤ y2) : ∀ k, 0 ≤ k → k < σ 0 6 → 0 ≤ spanY σ y k ∧ spanY σ y k ≤ spanY σ y2 k := by
  intro k k0 k1
  have a := h.bk k k0 k1
  have h1 : 0 ≤ y * σ 10 k := Int.mul_nonneg hy a.2.2.2.2.2.2.1
  have h2 : y * σ 10 k ≤ y2 * σ 10 k := Int.mul_le_mul_of_nonneg_right hyy a.2.2.2.2.2.2.1
  unfold spanY
  omega
theorem FitY.down {σ : St} (h : InvC σ) {kd y y2 : Int} {q : Int → Int} (hy : 0 ≤ y) (hyy : y ≤ y2) (hq : IsFill (σ 55) (σ 56) (spanY σ y) kd (σ 5 2) (σ 0 6) q) (k : FitY σ kd y2) : q (σ 5 2) = σ 0 6 := by
  obtain ⟨q2, k1, k2⟩ := k
  have := fill_mono h.nb.1 (h.spn hy hyy) hq k1 (σ 5 2) h.ns.1 (Int.le_refl _)
  have := hq.bd h.nb.1 (σ 5 2) h.ns.1 (Int.le_refl _)
  omega
theorem ct_room (σ τ : St) (y kd : Int) (hI : InvC σ) (hf : frC σ τ) (hyy : 0 ≤ y ∧ y ≤ 999) (hk : InR kd) : Wp mX6_isRoomFor 2 (fun z υ => ((z = 1 ∧ FitY σ kd y) ∨ (z = 0 ∧ ∀ y2, y ≤ y2 → ¬ FitY σ kd y2)) ∧ frC σ υ) 0 [some (.inr 6), some (.inl y), some (.inl kd)] [] τ := by
  refine Wp.mono (ct_X6_isRoomFor τ y kd (hI.fr hf) hyy hk) (fun z υ h => ?_)
  obtain ⟨⟨q, h1, h2⟩, h3⟩ := h
  unfold spanY at h1
  rw [hf 55 (by decide) (by omega), hf 56 (by decide) (by omega), hf 5 (by decide) (by omega), hf 0 (by decide) (by omega), hf 9 (by decide) (by omega), hf 10 (by decide) (by omega)] at h1
  rw [hf 5 (by decide) (by omega), hf 0 (by decide) (by omega)] at h2
  refine ⟨?_, fun k k1 k2 => by rw [h3 k k1 k2]; exact hf k k1 k2⟩
  by_cases e : q (σ 5 2) = σ 0 6
  · rw [if_pos e] at h2
    exact Or.inl ⟨h2, q, h1, e⟩
  · rw [if_neg e] at h2
    exact Or.inr ⟨h2, fun y2 hy2 k => e (FitY.down hI hyy.1 hy2 h1 k)⟩

set_option maxRecDepth 100000 in
set_option maxHeartbeats 4000000 in
theorem ct_X6_best (σ : St) (op : Int) (hI : InvC σ) (ho : InR op) : Wp mX6_best 3 (fun z τ => ((z = -1 ∧ ∀ y, 0 ≤ y → ¬ FitY σ (if op = 0 then 1 else 0) y) ∨ (0 ≤ z ∧ z ≤ 999 ∧ FitY σ (if op = 0 then 1 else 0) z ∧ ∀ y, z < y → y ≤ 999 → ¬ FitY σ (if op = 0 then 1 else 0) y)) ∧ frC σ τ) 0 [some (.inr 6), some (.inl op), none, none, none] [] σ := by
  refine Wp.rg (fun hR => ?_)
  have KEY : Wp mX6_best 3 (fun z τ => ((z = -1 ∧ ∀ y, 0 ≤ y → ¬ FitY σ (if op = 0 then 1 else 0) y) ∨ (0 ≤ z ∧ z ≤ 999 ∧ FitY σ (if op = 0 then 1 else 0) z ∧ ∀ y, z < y → y ≤ 999 → ¬ FitY σ (if op = 0 then 1 else 0) y)) ∧ frC σ τ) 10 [some (.inr 6), some (.inl op), some (.inl (if op = 0 then 1 else 0)), none, none] [] σ := by
    refine w_aload_n dX6_best_10 rfl ?_
    refine w_iconst dX6_best_11 ?_
    refine w_iload_n dX6_best_12 rfl ?_
    refine cv_X6_231 rfl dX6_best_13 (Nat.le_of_ble_eq_true rfl) (Nat.le_of_ble_eq_true rfl) (Wp.mono (ct_room σ σ 0 _ hI (fun k _ _ => rfl) (by omega) (by split <;> omega)) (fun z_ τ_ hq_ => ?_))
    obtain ⟨hr, hfr⟩ := hq_
    have hz01 : z_ = 0 ∨ z_ = 1 := by
      rcases hr with hr | hr
      · exact Or.inr hr.1
      · exact Or.inl hr.1
    refine w_if_ne (tgt := 21) dX6_best_16 (by decide) (by omega) (fun c_16 => ?_) (fun c_16 => ?_)
    · have hf0 : FitY σ (if op = 0 then 1 else 0) 0 := by
        rcases hr with hr | hr
        · exact hr.2
        · omega
      refine w_iconst dX6_best_21 ?_
      refine w_istore_n dX6_best_22 (Nat.le_of_ble_eq_true rfl) ?_
      refine w_sipush dX6_best_23 (by decide) ?_
      refine w_istore dX6_best_26 (Nat.le_of_ble_eq_true rfl) ?_
      have hkd : InR (if op = 0 then 1 else 0) := by split <;> omega
      have H0 : ∀ (t : Int) (τ : St), (0 ≤ t ∧ t ≤ 999 ∧ FitY σ (if op = 0 then 1 else 0) t ∧ (∀ y, t + 1 ≤ y → y ≤ 999 → ¬ FitY σ (if op = 0 then 1 else 0) y) ∧ frC σ τ) → Wp mX6_best 3 (fun z τ => ((z = -1 ∧ ∀ y, 0 ≤ y → ¬ FitY σ (if op = 0 then 1 else 0) y) ∨ (0 ≤ z ∧ z ≤ 999 ∧ FitY σ (if op = 0 then 1 else 0) z ∧ ∀ y, z < y → y ≤ 999 → ¬ FitY σ (if op = 0 then 1 else 0) y)) ∧ frC σ τ) 28 [some (.inr 6), some (.inl op), some (.inl (if op = 0 then 1 else 0)), some (.inl t), some (.inl 0)] [] τ := by
        intro t τ ⟨h1, h2, h3, h4, h5⟩
        refine w_iload dX6_best_28 rfl ?_
        refine w_if_le (tgt := 69) dX6_best_30 (by decide) (by omega) (fun c_30 => ?_) (fun c_30 => ?_)
        · refine w_iload_n dX6_best_69 rfl ?_
          refine w_iret dX6_best_70 rfl ?_
          exact ⟨Or.inr ⟨h1, h2, h3, fun y y0 y1 => h4 y (by omega) y1⟩, h5⟩
        · exact absurd c_30 (by omega)
      have H1 : ∀ (t : Int) (τ : St), (0 ≤ t ∧ t ≤ 999 ∧ FitY σ (if op = 0 then 1 else 0) t ∧ (∀ y, t + 2 ≤ y → y ≤ 999 → ¬ FitY σ (if op = 0 then 1 else 0) y) ∧ frC σ τ) → Wp mX6_best 3 (fun z τ => ((z = -1 ∧ ∀ y, 0 ≤ y → ¬ FitY σ (if op = 0 then 1 else 0) y) ∨ (0 ≤ z ∧ z ≤ 999 ∧ FitY σ (if op = 0 then 1 else 0) z ∧ ∀ y, z < y → y ≤ 999 → ¬ FitY σ (if op = 0 then 1 else 0) y)) ∧ frC σ τ) 28 [some (.inr 6), some (.inl op), some (.inl (if op = 0 then 1 else 0)), some (.inl t), some (.inl 1)] [] τ := by
        intro t τ ⟨h1, h2, h3, h4, h5⟩
        refine w_iload dX6_best_28 rfl ?_
        refine w_if_le (tgt := 69) dX6_best_30 (by decide) (by omega) (fun c_30 => ?_) (fun c_30 => ?_)
        · exact absurd c_30 (by omega)
        · refine w_iload_n dX6_best_33 rfl ?_
          refine w_iload dX6_best_34 rfl ?_
          refine w_iadd dX6_best_36 ?_
          refine w_sipush dX6_best_37 (by decide) ?_
          refine w_icmp_gt (tgt := 60) dX6_best_40 (by decide) (by omega) (by omega) (fun c_40 => ?_) (fun c_40 => ?_)
          · refine w_iload dX6_best_60 rfl ?_
            refine w_iconst dX6_best_62 ?_
            refine w_idivN dX6_best_63 (by omega) (by omega) (by omega) (by omega) ?_
            refine w_istore dX6_best_64 (Nat.le_of_ble_eq_true rfl) ?_
            refine w_goto (tgt := 28) dX6_best_66 (by decide) ?_
            rw [show (1 : Int) / 2 = 0 by decide]
            first
            | (refine H0 _ _ ⟨h1, h2, h3, fun y y0 y1 => by omega, h5⟩)
            | (rcases hr with hr | hr
               · refine H0 _ _ ⟨by omega, by omega, hr.2, fun y y0 y1 => h4 y (by omega) y1, hfr⟩
               · exact absurd c_52 (by omega))
            | (rcases hr with hr | hr
               · exact absurd c_52 (by omega)
               · refine H0 _ _ ⟨h1, h2, h3, fun y y0 y1 => hr.2 y (by omega), hfr⟩)
          · refine w_aload_n dX6_best_43 rfl ?_
            refine w_iload_n dX6_best_44 rfl ?_
            refine w_iload dX6_best_45 rfl ?_
            refine w_iadd dX6_best_47 ?_
            refine w_iload_n dX6_best_48 rfl ?_
            refine cv_X6_231 rfl dX6_best_49 (Nat.le_of_ble_eq_true rfl) (Nat.le_of_ble_eq_true rfl) (Wp.mono (ct_room σ τ (t + 1) _ hI h5 (by omega) hkd) (fun z_ τ_ hq_ => ?_))
            obtain ⟨hr, hfr⟩ := hq_
            have hz01 : z_ = 0 ∨ z_ = 1 := by
              rcases hr with hr | hr
              · exact Or.inr hr.1
              · exact Or.inl hr.1
            refine w_if_eq (tgt := 60) dX6_best_52 (by decide) (by omega) (fun c_52 => ?_) (fun c_52 => ?_)
            · refine w_iload dX6_best_60 rfl ?_
              refine w_iconst dX6_best_62 ?_
              refine w_idivN dX6_best_63 (by omega) (by omega) (by omega) (by omega) ?_
              refine w_istore dX6_best_64 (Nat.le_of_ble_eq_true rfl) ?_
              refine w_goto (tgt := 28) dX6_best_66 (by decide) ?_
              rw [show (1 : Int) / 2 = 0 by decide]
              first
              | (refine H0 _ _ ⟨h1, h2, h3, fun y y0 y1 => by omega, h5⟩)
              | (rcases hr with hr | hr
                 · refine H0 _ _ ⟨by omega, by omega, hr.2, fun y y0 y1 => h4 y (by omega) y1, hfr⟩
                 · exact absurd c_52 (by omega))
              | (rcases hr with hr | hr
                 · exact absurd c_52 (by omega)
                 · refine H0 _ _ ⟨h1, h2, h3, fun y y0 y1 => hr.2 y (by omega), hfr⟩)
            · refine w_iload_n dX6_best_55 rfl ?_
              refine w_iload dX6_best_56 rfl ?_
              refine w_iadd dX6_best_58 ?_
              refine w_istore_n dX6_best_59 (Nat.le_of_ble_eq_true rfl) ?_
              refine w_iload dX6_best_60 rfl ?_
              refine w_iconst dX6_best_62 ?_
              refine w_idivN dX6_best_63 (by omega) (by omega) (by omega) (by omega) ?_
              refine w_istore dX6_best_64 (Nat.le_of_ble_eq_true rfl) ?_
              refine w_goto (tgt := 28) dX6_best_66 (by decide) ?_
              rw [show (1 : Int) / 2 = 0 by decide]
              first
              | (refine H0 _ _ ⟨h1, h2, h3, fun y y0 y1 => by omega, h5⟩)
              | (rcases hr with hr | hr
                 · refine H0 _ _ ⟨by omega, by omega, hr.2, fun y y0 y1 => h4 y (by omega) y1, hfr⟩
                 · exact absurd c_52 (by omega))
              | (rcases hr with hr | hr
                 · exact absurd c_52 (by omega)
                 · refine H0 _ _ ⟨h1, h2, h3, fun y y0 y1 => hr.2 y (by omega), hfr⟩)
      have H2 : ∀ (t : Int) (τ : St), (0 ≤ t ∧ t ≤ 999 ∧ FitY σ (if op = 0 then 1 else 0) t ∧ (∀ y, t + 4 ≤ y → y ≤ 999 → ¬ FitY σ (if op = 0 then 1 else 0) y) ∧ frC σ τ) → Wp mX6_best 3 (fun z τ => ((z = -1 ∧ ∀ y, 0 ≤ y → ¬ FitY σ (if op = 0 then 1 else 0) y) ∨ (0 ≤ z ∧ z ≤ 999 ∧ FitY σ (if op = 0 then 1 else 0) z ∧ ∀ y, z < y → y ≤ 999 → ¬ FitY σ (if op = 0 then 1 else 0) y)) ∧ frC σ τ) 28 [some (.inr 6), some (.inl op), some (.inl (if op = 0 then 1 else 0)), some (.inl t), some (.inl 2)] [] τ := by
        intro t τ ⟨h1, h2, h3, h4, h5⟩
        refine w_iload dX6_best_28 rfl ?_
        refine w_if_le (tgt := 69) dX6_best_30 (by decide) (by omega) (fun c_30 => ?_) (fun c_30 => ?_)
        · exact absurd c_30 (by omega)
        · refine w_iload_n dX6_best_33 rfl ?_
          refine w_iload dX6_best_34 rfl ?_
          refine w_iadd dX6_best_36 ?_
          refine w_sipush dX6_best_37 (by decide) ?_
          refine w_icmp_gt (tgt := 60) dX6_best_40 (by decide) (by omega) (by omega) (fun c_40 => ?_) (fun c_40 => ?_)
          · refine w_iload dX6_best_60 rfl ?_
            refine w_iconst dX6_best_62 ?_
            refine w_idivN dX6_best_63 (by omega) (by omega) (by omega) (by omega) ?_
            refine w_istore dX6_best_64 (Nat.le_of_ble_eq_true rfl) ?_
            refine w_goto (tgt := 28) dX6_best_66 (by decide) ?_
            rw [show (2 : Int) / 2 = 1 by decide]
            first
            | (refine H1 _ _ ⟨h1, h2, h3, fun y y0 y1 => by omega, h5⟩)
            | (rcases hr with hr | hr
               · refine H1 _ _ ⟨by omega, by omega, hr.2, fun y y0 y1 => h4 y (by omega) y1, hfr⟩
               · exact absurd c_52 (by omega))
            | (rcases hr with hr | hr
               · exact absurd c_52 (by omega)
               · refine H1 _ _ ⟨h1, h2, h3, fun y y0 y1 => hr.2 y (by omega), hfr⟩)
          · refine w_aload_n dX6_best_43 rfl ?_
            refine w_iload_n dX6_best_44 rfl ?_
            refine w_iload dX6_best_45 rfl ?_
            refine w_iadd dX6_best_47 ?_
            refine w_iload_n dX6_best_48 rfl ?_
            refine cv_X6_231 rfl dX6_best_49 (Nat.le_of_ble_eq_true rfl) (Nat.le_of_ble_eq_true rfl) (Wp.mono (ct_room σ τ (t + 2) _ hI h5 (by omega) hkd) (fun z_ τ_ hq_ => ?_))
            obtain ⟨hr, hfr⟩ := hq_
            have hz01 : z_ = 0 ∨ z_ = 1 := by
              rcases hr with hr | hr
              · exact Or.inr hr.1
              · exact Or.inl hr.1
            refine w_if_eq (tgt := 60) dX6_best_52 (by decide) (by omega) (fun c_52 => ?_) (fun c_52 => ?_)
            · refine w_iload dX6_best_60 rfl ?_
              refine w_iconst dX6_best_62 ?_
              refine w_idivN dX6_best_63 (by omega) (by omega) (by omega) (by omega) ?_
              refine w_istore dX6_best_64 (Nat.le_of_ble_eq_true rfl) ?_
              refine w_goto (tgt := 28) dX6_best_66 (by decide) ?_
              rw [show (2 : Int) / 2 = 1 by decide]
              first
              | (refine H1 _ _ ⟨h1, h2, h3, fun y y0 y1 => by omega, h5⟩)
              | (rcases hr with hr | hr
                 · refine H1 _ _ ⟨by omega, by omega, hr.2, fun y y0 y1 => h4 y (by omega) y1, hfr⟩
                 · exact absurd c_52 (by omega))
              | (rcases hr with hr | hr
                 · exact absurd c_52 (by omega)
                 · refine H1 _ _ ⟨h1, h2, h3, fun y y0 y1 => hr.2 y (by omega), hfr⟩)
            · refine w_iload_n dX6_best_55 rfl ?_
              refine w_iload dX6_best_56 rfl ?_
              refine w_iadd dX6_best_58 ?_
              refine w_istore_n dX6_best_59 (Nat.le_of_ble_eq_true rfl) ?_
              refine w_iload dX6_best_60 rfl ?_
              refine w_iconst dX6_best_62 ?_
              refine w_idivN dX6_best_63 (by omega) (by omega) (by omega) (by omega) ?_
              refine w_istore dX6_best_64 (Nat.le_of_ble_eq_true rfl) ?_
              refine w_goto (tgt := 28) dX6_best_66 (by decide) ?_
              rw [show (2 : Int) / 2 = 1 by decide]
              first
              | (refine H1 _ _ ⟨h1, h2, h3, fun y y0 y1 => by omega, h5⟩)
              | (rcases hr with hr | hr
                 · refine H1 _ _ ⟨by omega, by omega, hr.2, fun y y0 y1 => h4 y (by omega) y1, hfr⟩
                 · exact absurd c_52 (by omega))
              | (rcases hr with hr | hr
                 · exact absurd c_52 (by omega)
                 · refine H1 _ _ ⟨h1, h2, h3, fun y y0 y1 => hr.2 y (by omega), hfr⟩)
      have H4 : ∀ (t : Int) (τ : St), (0 ≤ t ∧ t ≤ 999 ∧ FitY σ (if op = 0 then 1 else 0) t ∧ (∀ y, t + 8 ≤ y → y ≤ 999 → ¬ FitY σ (if op = 0 then 1 else 0) y) ∧ frC σ τ) → Wp mX6_best 3 (fun z τ => ((z = -1 ∧ ∀ y, 0 ≤ y → ¬ FitY σ (if op = 0 then 1 else 0) y) ∨ (0 ≤ z ∧ z ≤ 999 ∧ FitY σ (if op = 0 then 1 else 0) z ∧ ∀ y, z < y → y ≤ 999 → ¬ FitY σ (if op = 0 then 1 else 0) y)) ∧ frC σ τ) 28 [some (.inr 6), some (.inl op), some (.inl (if op = 0 then 1 else 0)), some (.inl t), some (.inl 4)] [] τ := by
        intro t τ ⟨h1, h2, h3, h4, h5⟩
        refine w_iload dX6_best_28 rfl ?_
        refine w_if_le (tgt := 69) dX6_best_30 (by decide) (by omega) (fun c_30 => ?_) (fun c_30 => ?_)
        · exact absurd c_30 (by omega)
        · refine w_iload_n dX6_best_33 rfl ?_
          refine w_iload dX6_best_34 rfl ?_
          refine w_iadd dX6_best_36 ?_
          refine w_sipush dX6_best_37 (by decide) ?_
          refine w_icmp_gt (tgt := 60) dX6_best_40 (by decide) (by omega) (by omega) (fun c_40 => ?_) (fun c_40 => ?_)
          · refine w_iload dX6_best_60 rfl ?_
            refine w_iconst dX6_best_62 ?_
            refine w_idivN dX6_best_63 (by omega) (by omega) (by omega) (by omega) ?_
            refine w_istore dX6_best_64 (Nat.le_of_ble_eq_true rfl) ?_
            refine w_goto (tgt := 28) dX6_best_66 (by decide) ?_
            rw [show (4 : Int) / 2 = 2 by decide]
            first
            | (refine H2 _ _ ⟨h1, h2, h3, fun y y0 y1 => by omega, h5⟩)
            | (rcases hr with hr | hr
               · refine H2 _ _ ⟨by omega, by omega, hr.2, fun y y0 y1 => h4 y (by omega) y1, hfr⟩
               · exact absurd c_52 (by omega))
            | (rcases hr with hr | hr
               · exact absurd c_52 (by omega)
               · refine H2 _ _ ⟨h1, h2, h3, fun y y0 y1 => hr.2 y (by omega), hfr⟩)
          · refine w_aload_n dX6_best_43 rfl ?_
            refine w_iload_n dX6_best_44 rfl ?_
            refine w_iload dX6_best_45 rfl ?_
            refine w_iadd dX6_best_47 ?_
            refine w_iload_n dX6_best_48 rfl ?_
            refine cv_X6_231 rfl dX6_best_49 (Nat.le_of_ble_eq_true rfl) (Nat.le_of_ble_eq_true rfl) (Wp.mono (ct_room σ τ (t + 4) _ hI h5 (by omega) hkd) (fun z_ τ_ hq_ => ?_))
            obtain ⟨hr, hfr⟩ := hq_
            have hz01 : z_ = 0 ∨ z_ = 1 := by
              rcases hr with hr | hr
              · exact Or.inr hr.1
              · exact Or.inl hr.1
            refine w_if_eq (tgt := 60) dX6_best_52 (by decide) (by omega) (fun c_52 => ?_) (fun c_52 => ?_)
            · refine w_iload dX6_best_60 rfl ?_
              refine w_iconst dX6_best_62 ?_
              refine w_idivN dX6_best_63 (by omega) (by omega) (by omega) (by omega) ?_
              refine w_istore dX6_best_64 (Nat.le_of_ble_eq_true rfl) ?_
              refine w_goto (tgt := 28) dX6_best_66 (by decide) ?_
              rw [show (4 : Int) / 2 = 2 by decide]
              first
              | (refine H2 _ _ ⟨h1, h2, h3, fun y y0 y1 => by omega, h5⟩)
              | (rcases hr with hr | hr
                 · refine H2 _ _ ⟨by omega, by omega, hr.2, fun y y0 y1 => h4 y (by omega) y1, hfr⟩
                 · exact absurd c_52 (by omega))
              | (rcases hr with hr | hr
                 · exact absurd c_52 (by omega)
                 · refine H2 _ _ ⟨h1, h2, h3, fun y y0 y1 => hr.2 y (by omega), hfr⟩)
            · refine w_iload_n dX6_best_55 rfl ?_
              refine w_iload dX6_best_56 rfl ?_
              refine w_iadd dX6_best_58 ?_
              refine w_istore_n dX6_best_59 (Nat.le_of_ble_eq_true rfl) ?_
              refine w_iload dX6_best_60 rfl ?_
              refine w_iconst dX6_best_62 ?_
              refine w_idivN dX6_best_63 (by omega) (by omega) (by omega) (by omega) ?_
              refine w_istore dX6_best_64 (Nat.le_of_ble_eq_true rfl) ?_
              refine w_goto (tgt := 28) dX6_best_66 (by decide) ?_
              rw [show (4 : Int) / 2 = 2 by decide]
              first
              | (refine H2 _ _ ⟨h1, h2, h3, fun y y0 y1 => by omega, h5⟩)
              | (rcases hr with hr | hr
                 · refine H2 _ _ ⟨by omega, by omega, hr.2, fun y y0 y1 => h4 y (by omega) y1, hfr⟩
                 · exact absurd c_52 (by omega))
              | (rcases hr with hr | hr
                 · exact absurd c_52 (by omega)
                 · refine H2 _ _ ⟨h1, h2, h3, fun y y0 y1 => hr.2 y (by omega), hfr⟩)
      have H8 : ∀ (t : Int) (τ : St), (0 ≤ t ∧ t ≤ 999 ∧ FitY σ (if op = 0 then 1 else 0) t ∧ (∀ y, t + 16 ≤ y → y ≤ 999 → ¬ FitY σ (if op = 0 then 1 else 0) y) ∧ frC σ τ) → Wp mX6_best 3 (fun z τ => ((z = -1 ∧ ∀ y, 0 ≤ y → ¬ FitY σ (if op = 0 then 1 else 0) y) ∨ (0 ≤ z ∧ z ≤ 999 ∧ FitY σ (if op = 0 then 1 else 0) z ∧ ∀ y, z < y → y ≤ 999 → ¬ FitY σ (if op = 0 then 1 else 0) y)) ∧ frC σ τ) 28 [some (.inr 6), some (.inl op), some (.inl (if op = 0 then 1 else 0)), some (.inl t), some (.inl 8)] [] τ := by
        intro t τ ⟨h1, h2, h3, h4, h5⟩
        refine w_iload dX6_best_28 rfl ?_
        refine w_if_le (tgt := 69) dX6_best_30 (by decide) (by omega) (fun c_30 => ?_) (fun c_30 => ?_)
        · exact absurd c_30 (by omega)
        · refine w_iload_n dX6_best_33 rfl ?_
          refine w_iload dX6_best_34 rfl ?_
          refine w_iadd dX6_best_36 ?_
          refine w_sipush dX6_best_37 (by decide) ?_
          refine w_icmp_gt (tgt := 60) dX6_best_40 (by decide) (by omega) (by omega) (fun c_40 => ?_) (fun c_40 => ?_)
          · refine w_iload dX6_best_60 rfl ?_
            refine w_iconst dX6_best_62 ?_
            refine w_idivN dX6_best_63 (by omega) (by omega) (by omega) (by omega) ?_
            refine w_istore dX6_best_64 (Nat.le_of_ble_eq_true rfl) ?_
            refine w_goto (tgt := 28) dX6_best_66 (by decide) ?_
            rw [show (8 : Int) / 2 = 4 by decide]
            first
            | (refine H4 _ _ ⟨h1, h2, h3, fun y y0 y1 => by omega, h5⟩)
            | (rcases hr with hr | hr
               · refine H4 _ _ ⟨by omega, by omega, hr.2, fun y y0 y1 => h4 y (by omega) y1, hfr⟩
               · exact absurd c_52 (by omega))
            | (rcases hr with hr | hr
               · exact absurd c_52 (by omega)
               · refine H4 _ _ ⟨h1, h2, h3, fun y y0 y1 => hr.2 y (by omega), hfr⟩)
          · refine w_aload_n dX6_best_43 rfl ?_
            refine w_iload_n dX6_best_44 rfl ?_
            refine w_iload dX6_best_45 rfl ?_
            refine w_iadd dX6_best_47 ?_
            refine w_iload_n dX6_best_48 rfl ?_
            refine cv_X6_231 rfl dX6_best_49 (Nat.le_of_ble_eq_true rfl) (Nat.le_of_ble_eq_true rfl) (Wp.mono (ct_room σ τ (t + 8) _ hI h5 (by omega) hkd) (fun z_ τ_ hq_ => ?_))
            obtain ⟨hr, hfr⟩ := hq_
            have hz01 : z_ = 0 ∨ z_ = 1 := by
              rcases hr with hr | hr
              · exact Or.inr hr.1
              · exact Or.inl hr.1
            refine w_if_eq (tgt := 60) dX6_best_52 (by decide) (by omega) (fun c_52 => ?_) (fun c_52 => ?_)
            · refine w_iload dX6_best_60 rfl ?_
              refine w_iconst dX6_best_62 ?_
              refine w_idivN dX6_best_63 (by omega) (by omega) (by omega) (by omega) ?_
              refine w_istore dX6_best_64 (Nat.le_of_ble_eq_true rfl) ?_
              refine w_goto (tgt := 28) dX6_best_66 (by decide) ?_
              rw [show (8 : Int) / 2 = 4 by decide]
              first
              | (refine H4 _ _ ⟨h1, h2, h3, fun y y0 y1 => by omega, h5⟩)
              | (rcases hr with hr | hr
                 · refine H4 _ _ ⟨by omega, by omega, hr.2, fun y y0 y1 => h4 y (by omega) y1, hfr⟩
                 · exact absurd c_52 (by omega))
              | (rcases hr with hr | hr
                 · exact absurd c_52 (by omega)
                 · refine H4 _ _ ⟨h1, h2, h3, fun y y0 y1 => hr.2 y (by omega), hfr⟩)
            · refine w_iload_n dX6_best_55 rfl ?_
              refine w_iload dX6_best_56 rfl ?_
              refine w_iadd dX6_best_58 ?_
              refine w_istore_n dX6_best_59 (Nat.le_of_ble_eq_true rfl) ?_
              refine w_iload dX6_best_60 rfl ?_
              refine w_iconst dX6_best_62 ?_
              refine w_idivN dX6_best_63 (by omega) (by omega) (by omega) (by omega) ?_
              refine w_istore dX6_best_64 (Nat.le_of_ble_eq_true rfl) ?_
              refine w_goto (tgt := 28) dX6_best_66 (by decide) ?_
              rw [show (8 : Int) / 2 = 4 by decide]
              first
              | (refine H4 _ _ ⟨h1, h2, h3, fun y y0 y1 => by omega, h5⟩)
              | (rcases hr with hr | hr
                 · refine H4 _ _ ⟨by omega, by omega, hr.2, fun y y0 y1 => h4 y (by omega) y1, hfr⟩
                 · exact absurd c_52 (by omega))
              | (rcases hr with hr | hr
                 · exact absurd c_52 (by omega)
                 · refine H4 _ _ ⟨h1, h2, h3, fun y y0 y1 => hr.2 y (by omega), hfr⟩)
      have H16 : ∀ (t : Int) (τ : St), (0 ≤ t ∧ t ≤ 999 ∧ FitY σ (if op = 0 then 1 else 0) t ∧ (∀ y, t + 32 ≤ y → y ≤ 999 → ¬ FitY σ (if op = 0 then 1 else 0) y) ∧ frC σ τ) → Wp mX6_best 3 (fun z τ => ((z = -1 ∧ ∀ y, 0 ≤ y → ¬ FitY σ (if op = 0 then 1 else 0) y) ∨ (0 ≤ z ∧ z ≤ 999 ∧ FitY σ (if op = 0 then 1 else 0) z ∧ ∀ y, z < y → y ≤ 999 → ¬ FitY σ (if op = 0 then 1 else 0) y)) ∧ frC σ τ) 28 [some (.inr 6), some (.inl op), some (.inl (if op = 0 then 1 else 0)), some (.inl t), some (.inl 16)] [] τ := by
        intro t τ ⟨h1, h2, h3, h4, h5⟩
        refine w_iload dX6_best_28 rfl ?_
        refine w_if_le (tgt := 69) dX6_best_30 (by decide) (by omega) (fun c_30 => ?_) (fun c_30 => ?_)
        · exact absurd c_30 (by omega)
        · refine w_iload_n dX6_best_33 rfl ?_
          refine w_iload dX6_best_34 rfl ?_
          refine w_iadd dX6_best_36 ?_
          refine w_sipush dX6_best_37 (by decide) ?_
          refine w_icmp_gt (tgt := 60) dX6_best_40 (by decide) (by omega) (by omega) (fun c_40 => ?_) (fun c_40 => ?_)
          · refine w_iload dX6_best_60 rfl ?_
            refine w_iconst dX6_best_62 ?_
            refine w_idivN dX6_best_63 (by omega) (by omega) (by omega) (by omega) ?_
            refine w_istore dX6_best_64 (Nat.le_of_ble_eq_true rfl) ?_
            refine w_goto (tgt := 28) dX6_best_66 (by decide) ?_
            rw [show (16 : Int) / 2 = 8 by decide]
            first
            | (refine H8 _ _ ⟨h1, h2, h3, fun y y0 y1 => by omega, h5⟩)
            | (rcases hr with hr | hr
               · refine H8 _ _ ⟨by omega, by omega, hr.2, fun y y0 y1 => h4 y (by omega) y1, hfr⟩
               · exact absurd c_52 (by omega))
            | (rcases hr with hr | hr
               · exact absurd c_52 (by omega)
               · refine H8 _ _ ⟨h1, h2, h3, fun y y0 y1 => hr.2 y (by omega), hfr⟩)
          · refine w_aload_n dX6_best_43 rfl ?_
            refine w_iload_n dX6_best_44 rfl ?_
            refine w_iload dX6_best_45 rfl ?_
            refine w_iadd dX6_best_47 ?_
            refine w_iload_n dX6_best_48 rfl ?_
            refine cv_X6_231 rfl dX6_best_49 (Nat.le_of_ble_eq_true rfl) (Nat.le_of_ble_eq_true rfl) (Wp.mono (ct_room σ τ (t + 16) _ hI h5 (by omega) hkd) (fun z_ τ_ hq_ => ?_))
            obtain ⟨hr, hfr⟩ := hq_
            have hz01 : z_ = 0 ∨ z_ = 1 := by
              rcases hr with hr | hr
              · exact Or.inr hr.1
              · exact Or.inl hr.1
            refine w_if_eq (tgt := 60) dX6_best_52 (by decide) (by omega) (fun c_52 => ?_) (fun c_52 => ?_)
            · refine w_iload dX6_best_60 rfl ?_
              refine w_iconst dX6_best_62 ?_
              refine w_idivN dX6_best_63 (by omega) (by omega) (by omega) (by omega) ?_
              refine w_istore dX6_best_64 (Nat.le_of_ble_eq_true rfl) ?_
              refine w_goto (tgt := 28) dX6_best_66 (by decide) ?_
              rw [show (16 : Int) / 2 = 8 by decide]
              first
              | (refine H8 _ _ ⟨h1, h2, h3, fun y y0 y1 => by omega, h5⟩)
              | (rcases hr with hr | hr
                 · refine H8 _ _ ⟨by omega, by omega, hr.2, fun y y0 y1 => h4 y (by omega) y1, hfr⟩
                 · exact absurd c_52 (by omega))
              | (rcases hr with hr | hr
                 · exact absurd c_52 (by omega)
                 · refine H8 _ _ ⟨h1, h2, h3, fun y y0 y1 => hr.2 y (by omega), hfr⟩)
            · refine w_iload_n dX6_best_55 rfl ?_
              refine w_iload dX6_best_56 rfl ?_
              refine w_iadd dX6_best_58 ?_
              refine w_istore_n dX6_best_59 (Nat.le_of_ble_eq_true rfl) ?_
              refine w_iload dX6_best_60 rfl ?_
              refine w_iconst dX6_best_62 ?_
              refine w_idivN dX6_best_63 (by omega) (by omega) (by omega) (by omega) ?_
              refine w_istore dX6_best_64 (Nat.le_of_ble_eq_true rfl) ?_
              refine w_goto (tgt := 28) dX6_best_66 (by decide) ?_
              rw [show (16 : Int) / 2 = 8 by decide]
              first
              | (refine H8 _ _ ⟨h1, h2, h3, fun y y0 y1 => by omega, h5⟩)
              | (rcases hr with hr | hr
                 · refine H8 _ _ ⟨by omega, by omega, hr.2, fun y y0 y1 => h4 y (by omega) y1, hfr⟩
                 · exact absurd c_52 (by omega))
              | (rcases hr with hr | hr
                 · exact absurd c_52 (by omega)
                 · refine H8 _ _ ⟨h1, h2, h3, fun y y0 y1 => hr.2 y (by omega), hfr⟩)
      have H32 : ∀ (t : Int) (τ : St), (0 ≤ t ∧ t ≤ 999 ∧ FitY σ (if op = 0 then 1 else 0) t ∧ (∀ y, t + 64 ≤ y → y ≤ 999 → ¬ FitY σ (if op = 0 then 1 else 0) y) ∧ frC σ τ) → Wp mX6_best 3 (fun z τ => ((z = -1 ∧ ∀ y, 0 ≤ y → ¬ FitY σ (if op = 0 then 1 else 0) y) ∨ (0 ≤ z ∧ z ≤ 999 ∧ FitY σ (if op = 0 then 1 else 0) z ∧ ∀ y, z < y → y ≤ 999 → ¬ FitY σ (if op = 0 then 1 else 0) y)) ∧ frC σ τ) 28 [some (.inr 6), some (.inl op), some (.inl (if op = 0 then 1 else 0)), some (.inl t), some (.inl 32)] [] τ := by
        intro t τ ⟨h1, h2, h3, h4, h5⟩
        refine w_iload dX6_best_28 rfl ?_
        refine w_if_le (tgt := 69) dX6_best_30 (by decide) (by omega) (fun c_30 => ?_) (fun c_30 => ?_)
        · exact absurd c_30 (by omega)
        · refine w_iload_n dX6_best_33 rfl ?_
          refine w_iload dX6_best_34 rfl ?_
          refine w_iadd dX6_best_36 ?_
          refine w_sipush dX6_best_37 (by decide) ?_
          refine w_icmp_gt (tgt := 60) dX6_best_40 (by decide) (by omega) (by omega) (fun c_40 => ?_) (fun c_40 => ?_)
          · refine w_iload dX6_best_60 rfl ?_
            refine w_iconst dX6_best_62 ?_
            refine w_idivN dX6_best_63 (by omega) (by omega) (by omega) (by omega) ?_
            refine w_istore dX6_best_64 (Nat.le_of_ble_eq_true rfl) ?_
            refine w_goto (tgt := 28) dX6_best_66 (by decide) ?_
            rw [show (32 : Int) / 2 = 16 by decide]
            first
            | (refine H16 _ _ ⟨h1, h2, h3, fun y y0 y1 => by omega, h5⟩)
            | (rcases hr with hr | hr
               · refine H16 _ _ ⟨by omega, by omega, hr.2, fun y y0 y1 => h4 y (by omega) y1, hfr⟩
               · exact absurd c_52 (by omega))
            | (rcases hr with hr | hr
               · exact absurd c_52 (by omega)
               · refine H16 _ _ ⟨h1, h2, h3, fun y y0 y1 => hr.2 y (by omega), hfr⟩)
          · refine w_aload_n dX6_best_43 rfl ?_
            refine w_iload_n dX6_best_44 rfl ?_
            refine w_iload dX6_best_45 rfl ?_
            refine w_iadd dX6_best_47 ?_
            refine w_iload_n dX6_best_48 rfl ?_
            refine cv_X6_231 rfl dX6_best_49 (Nat.le_of_ble_eq_true rfl) (Nat.le_of_ble_eq_true rfl) (Wp.mono (ct_room σ τ (t + 32) _ hI h5 (by omega) hkd) (fun z_ τ_ hq_ => ?_))
            obtain ⟨hr, hfr⟩ := hq_
            have hz01 : z_ = 0 ∨ z_ = 1 := by
              rcases hr with hr | hr
              · exact Or.inr hr.1
              · exact Or.inl hr.1
            refine w_if_eq (tgt := 60) dX6_best_52 (by decide) (by omega) (fun c_52 => ?_) (fun c_52 => ?_)
            · refine w_iload dX6_best_60 rfl ?_
              refine w_iconst dX6_best_62 ?_
              refine w_idivN dX6_best_63 (by omega) (by omega) (by omega) (by omega) ?_
              refine w_istore dX6_best_64 (Nat.le_of_ble_eq_true rfl) ?_
              refine w_goto (tgt := 28) dX6_best_66 (by decide) ?_
              rw [show (32 : Int) / 2 = 16 by decide]
              first
              | (refine H16 _ _ ⟨h1, h2, h3, fun y y0 y1 => by omega, h5⟩)
              | (rcases hr with hr | hr
                 · refine H16 _ _ ⟨by omega, by omega, hr.2, fun y y0 y1 => h4 y (by omega) y1, hfr⟩
                 · exact absurd c_52 (by omega))
              | (rcases hr with hr | hr
                 · exact absurd c_52 (by omega)
                 · refine H16 _ _ ⟨h1, h2, h3, fun y y0 y1 => hr.2 y (by omega), hfr⟩)
            · refine w_iload_n dX6_best_55 rfl ?_
              refine w_iload dX6_best_56 rfl ?_
              refine w_iadd dX6_best_58 ?_
              refine w_istore_n dX6_best_59 (Nat.le_of_ble_eq_true rfl) ?_
              refine w_iload dX6_best_60 rfl ?_
              refine w_iconst dX6_best_62 ?_
              refine w_idivN dX6_best_63 (by omega) (by omega) (by omega) (by omega) ?_
              refine w_istore dX6_best_64 (Nat.le_of_ble_eq_true rfl) ?_
              refine w_goto (tgt := 28) dX6_best_66 (by decide) ?_
              rw [show (32 : Int) / 2 = 16 by decide]
              first
              | (refine H16 _ _ ⟨h1, h2, h3, fun y y0 y1 => by omega, h5⟩)
              | (rcases hr with hr | hr
                 · refine H16 _ _ ⟨by omega, by omega, hr.2, fun y y0 y1 => h4 y (by omega) y1, hfr⟩
                 · exact absurd c_52 (by omega))
              | (rcases hr with hr | hr
                 · exact absurd c_52 (by omega)
                 · refine H16 _ _ ⟨h1, h2, h3, fun y y0 y1 => hr.2 y (by omega), hfr⟩)
      have H64 : ∀ (t : Int) (τ : St), (0 ≤ t ∧ t ≤ 999 ∧ FitY σ (if op = 0 then 1 else 0) t ∧ (∀ y, t + 128 ≤ y → y ≤ 999 → ¬ FitY σ (if op = 0 then 1 else 0) y) ∧ frC σ τ) → Wp mX6_best 3 (fun z τ => ((z = -1 ∧ ∀ y, 0 ≤ y → ¬ FitY σ (if op = 0 then 1 else 0) y) ∨ (0 ≤ z ∧ z ≤ 999 ∧ FitY σ (if op = 0 then 1 else 0) z ∧ ∀ y, z < y → y ≤ 999 → ¬ FitY σ (if op = 0 then 1 else 0) y)) ∧ frC σ τ) 28 [some (.inr 6), some (.inl op), some (.inl (if op = 0 then 1 else 0)), some (.inl t), some (.inl 64)] [] τ := by
        intro t τ ⟨h1, h2, h3, h4, h5⟩
        refine w_iload dX6_best_28 rfl ?_
        refine w_if_le (tgt := 69) dX6_best_30 (by decide) (by omega) (fun c_30 => ?_) (fun c_30 => ?_)
        · exact absurd c_30 (by omega)
        · refine w_iload_n dX6_best_33 rfl ?_
          refine w_iload dX6_best_34 rfl ?_
          refine w_iadd dX6_best_36 ?_
          refine w_sipush dX6_best_37 (by decide) ?_
          refine w_icmp_gt (tgt := 60) dX6_best_40 (by decide) (by omega) (by omega) (fun c_40 => ?_) (fun c_40 => ?_)
          · refine w_iload dX6_best_60 rfl ?_
            refine w_iconst dX6_best_62 ?_
            refine w_idivN dX6_best_63 (by omega) (by omega) (by omega) (by omega) ?_
            refine w_istore dX6_best_64 (Nat.le_of_ble_eq_true rfl) ?_
            refine w_goto (tgt := 28) dX6_best_66 (by decide) ?_
            rw [show (64 : Int) / 2 = 32 by decide]
            first
            | (refine H32 _ _ ⟨h1, h2, h3, fun y y0 y1 => by omega, h5⟩)
            | (rcases hr with hr | hr
               · refine H32 _ _ ⟨by omega, by omega, hr.2, fun y y0 y1 => h4 y (by omega) y1, hfr⟩
               · exact absurd c_52 (by omega))
            | (rcases hr with hr | hr
               · exact absurd c_52 (by omega)
               · refine H32 _ _ ⟨h1, h2, h3, fun y y0 y1 => hr.2 y (by omega), hfr⟩)
          · refine w_aload_n dX6_best_43 rfl ?_
            refine w_iload_n dX6_best_44 rfl ?_
            refine w_iload dX6_best_45 rfl ?_
            refine w_iadd dX6_best_47 ?_
            refine w_iload_n dX6_best_48 rfl ?_
            refine cv_X6_231 rfl dX6_best_49 (Nat.le_of_ble_eq_true rfl) (Nat.le_of_ble_eq_true rfl) (Wp.mono (ct_room σ τ (t + 64) _ hI h5 (by omega) hkd) (fun z_ τ_ hq_ => ?_))
            obtain ⟨hr, hfr⟩ := hq_
            have hz01 : z_ = 0 ∨ z_ = 1 := by
              rcases hr with hr | hr
              · exact Or.inr hr.1
              · exact Or.inl hr.1
            refine w_if_eq (tgt := 60) dX6_best_52 (by decide) (by omega) (fun c_52 => ?_) (fun c_52 => ?_)
            · refine w_iload dX6_best_60 rfl ?_
              refine w_iconst dX6_best_62 ?_
              refine w_idivN dX6_best_63 (by omega) (by omega) (by omega) (by omega) ?_
              refine w_istore dX6_best_64 (Nat.le_of_ble_eq_true rfl) ?_
              refine w_goto (tgt := 28) dX6_best_66 (by decide) ?_
              rw [show (64 : Int) / 2 = 32 by decide]
              first
              | (refine H32 _ _ ⟨h1, h2, h3, fun y y0 y1 => by omega, h5⟩)
              | (rcases hr with hr | hr
                 · refine H32 _ _ ⟨by omega, by omega, hr.2, fun y y0 y1 => h4 y (by omega) y1, hfr⟩
                 · exact absurd c_52 (by omega))
              | (rcases hr with hr | hr
                 · exact absurd c_52 (by omega)
                 · refine H32 _ _ ⟨h1, h2, h3, fun y y0 y1 => hr.2 y (by omega), hfr⟩)
            · refine w_iload_n dX6_best_55 rfl ?_
              refine w_iload dX6_best_56 rfl ?_
              refine w_iadd dX6_best_58 ?_
              refine w_istore_n dX6_best_59 (Nat.le_of_ble_eq_true rfl) ?_
              refine w_iload dX6_best_60 rfl ?_
              refine w_iconst dX6_best_62 ?_
              refine w_idivN dX6_best_63 (by omega) (by omega) (by omega) (by omega) ?_
              refine w_istore dX6_best_64 (Nat.le_of_ble_eq_true rfl) ?_
              refine w_goto (tgt := 28) dX6_best_66 (by decide) ?_
              rw [show (64 : Int) / 2 = 32 by decide]
              first
              | (refine H32 _ _ ⟨h1, h2, h3, fun y y0 y1 => by omega, h5⟩)
              | (rcases hr with hr | hr
                 · refine H32 _ _ ⟨by omega, by omega, hr.2, fun y y0 y1 => h4 y (by omega) y1, hfr⟩
                 · exact absurd c_52 (by omega))
              | (rcases hr with hr | hr
                 · exact absurd c_52 (by omega)
                 · refine H32 _ _ ⟨h1, h2, h3, fun y y0 y1 => hr.2 y (by omega), hfr⟩)
      have H128 : ∀ (t : Int) (τ : St), (0 ≤ t ∧ t ≤ 999 ∧ FitY σ (if op = 0 then 1 else 0) t ∧ (∀ y, t + 256 ≤ y → y ≤ 999 → ¬ FitY σ (if op = 0 then 1 else 0) y) ∧ frC σ τ) → Wp mX6_best 3 (fun z τ => ((z = -1 ∧ ∀ y, 0 ≤ y → ¬ FitY σ (if op = 0 then 1 else 0) y) ∨ (0 ≤ z ∧ z ≤ 999 ∧ FitY σ (if op = 0 then 1 else 0) z ∧ ∀ y, z < y → y ≤ 999 → ¬ FitY σ (if op = 0 then 1 else 0) y)) ∧ frC σ τ) 28 [some (.inr 6), some (.inl op), some (.inl (if op = 0 then 1 else 0)), some (.inl t), some (.inl 128)] [] τ := by
        intro t τ ⟨h1, h2, h3, h4, h5⟩
        refine w_iload dX6_best_28 rfl ?_
        refine w_if_le (tgt := 69) dX6_best_30 (by decide) (by omega) (fun c_30 => ?_) (fun c_30 => ?_)
        · exact absurd c_30 (by omega)
        · refine w_iload_n dX6_best_33 rfl ?_
          refine w_iload dX6_best_34 rfl ?_
          refine w_iadd dX6_best_36 ?_
          refine w_sipush dX6_best_37 (by decide) ?_
          refine w_icmp_gt (tgt := 60) dX6_best_40 (by decide) (by omega) (by omega) (fun c_40 => ?_) (fun c_40 => ?_)
          · refine w_iload dX6_best_60 rfl ?_
            refine w_iconst dX6_best_62 ?_
            refine w_idivN dX6_best_63 (by omega) (by omega) (by omega) (by omega) ?_
            refine w_istore dX6_best_64 (Nat.le_of_ble_eq_true rfl) ?_
            refine w_goto (tgt := 28) dX6_best_66 (by decide) ?_
            rw [show (128 : Int) / 2 = 64 by decide]
            first
            | (refine H64 _ _ ⟨h1, h2, h3, fun y y0 y1 => by omega, h5⟩)
            | (rcases hr with hr | hr
               · refine H64 _ _ ⟨by omega, by omega, hr.2, fun y y0 y1 => h4 y (by omega) y1, hfr⟩
               · exact absurd c_52 (by omega))
            | (rcases hr with hr | hr
               · exact absurd c_52 (by omega)
               · refine H64 _ _ ⟨h1, h2, h3, fun y y0 y1 => hr.2 y (by omega), hfr⟩)
          · refine w_aload_n dX6_best_43 rfl ?_
            refine w_iload_n dX6_best_44 rfl ?_
            refine w_iload dX6_best_45 rfl ?_
            refine w_iadd dX6_best_47 ?_
            refine w_iload_n dX6_best_48 rfl ?_
            refine cv_X6_231 rfl dX6_best_49 (Nat.le_of_ble_eq_true rfl) (Nat.le_of_ble_eq_true rfl) (Wp.mono (ct_room σ τ (t + 128) _ hI h5 (by omega) hkd) (fun z_ τ_ hq_ => ?_))
            obtain ⟨hr, hfr⟩ := hq_
            have hz01 : z_ = 0 ∨ z_ = 1 := by
              rcases hr with hr | hr
              · exact Or.inr hr.1
              · exact Or.inl hr.1
            refine w_if_eq (tgt := 60) dX6_best_52 (by decide) (by omega) (fun c_52 => ?_) (fun c_52 => ?_)
            · refine w_iload dX6_best_60 rfl ?_
              refine w_iconst dX6_best_62 ?_
              refine w_idivN dX6_best_63 (by omega) (by omega) (by omega) (by omega) ?_
              refine w_istore dX6_best_64 (Nat.le_of_ble_eq_true rfl) ?_
              refine w_goto (tgt := 28) dX6_best_66 (by decide) ?_
              rw [show (128 : Int) / 2 = 64 by decide]
              first
              | (refine H64 _ _ ⟨h1, h2, h3, fun y y0 y1 => by omega, h5⟩)
              | (rcases hr with hr | hr
                 · refine H64 _ _ ⟨by omega, by omega, hr.2, fun y y0 y1 => h4 y (by omega) y1, hfr⟩
                 · exact absurd c_52 (by omega))
              | (rcases hr with hr | hr
                 · exact absurd c_52 (by omega)
                 · refine H64 _ _ ⟨h1, h2, h3, fun y y0 y1 => hr.2 y (by omega), hfr⟩)
            · refine w_iload_n dX6_best_55 rfl ?_
              refine w_iload dX6_best_56 rfl ?_
              refine w_iadd dX6_best_58 ?_
              refine w_istore_n dX6_best_59 (Nat.le_of_ble_eq_true rfl) ?_
              refine w_iload dX6_best_60 rfl ?_
              refine w_iconst dX6_best_62 ?_
              refine w_idivN dX6_best_63 (by omega) (by omega) (by omega) (by omega) ?_
              refine w_istore dX6_best_64 (Nat.le_of_ble_eq_true rfl) ?_
              refine w_goto (tgt := 28) dX6_best_66 (by decide) ?_
              rw [show (128 : Int) / 2 = 64 by decide]
              first
              | (refine H64 _ _ ⟨h1, h2, h3, fun y y0 y1 => by omega, h5⟩)
              | (rcases hr with hr | hr
                 · refine H64 _ _ ⟨by omega, by omega, hr.2, fun y y0 y1 => h4 y (by omega) y1, hfr⟩
                 · exact absurd c_52 (by omega))
              | (rcases hr with hr | hr
                 · exact absurd c_52 (by omega)
                 · refine H64 _ _ ⟨h1, h2, h3, fun y y0 y1 => hr.2 y (by omega), hfr⟩)
      have H256 : ∀ (t : Int) (τ : St), (0 ≤ t ∧ t ≤ 999 ∧ FitY σ (if op = 0 then 1 else 0) t ∧ (∀ y, t + 512 ≤ y → y ≤ 999 → ¬ FitY σ (if op = 0 then 1 else 0) y) ∧ frC σ τ) → Wp mX6_best 3 (fun z τ => ((z = -1 ∧ ∀ y, 0 ≤ y → ¬ FitY σ (if op = 0 then 1 else 0) y) ∨ (0 ≤ z ∧ z ≤ 999 ∧ FitY σ (if op = 0 then 1 else 0) z ∧ ∀ y, z < y → y ≤ 999 → ¬ FitY σ (if op = 0 then 1 else 0) y)) ∧ frC σ τ) 28 [some (.inr 6), some (.inl op), some (.inl (if op = 0 then 1 else 0)), some (.inl t), some (.inl 256)] [] τ := by
        intro t τ ⟨h1, h2, h3, h4, h5⟩
        refine w_iload dX6_best_28 rfl ?_
        refine w_if_le (tgt := 69) dX6_best_30 (by decide) (by omega) (fun c_30 => ?_) (fun c_30 => ?_)
        · exact absurd c_30 (by omega)
        · refine w_iload_n dX6_best_33 rfl ?_
          refine w_iload dX6_best_34 rfl ?_
          refine w_iadd dX6_best_36 ?_
          refine w_sipush dX6_best_37 (by decide) ?_
          refine w_icmp_gt (tgt := 60) dX6_best_40 (by decide) (by omega) (by omega) (fun c_40 => ?_) (fun c_40 => ?_)
          · refine w_iload dX6_best_60 rfl ?_
            refine w_iconst dX6_best_62 ?_
            refine w_idivN dX6_best_63 (by omega) (by omega) (by omega) (by omega) ?_
            refine w_istore dX6_best_64 (Nat.le_of_ble_eq_true rfl) ?_
            refine w_goto (tgt := 28) dX6_best_66 (by decide) ?_
            rw [show (256 : Int) / 2 = 128 by decide]
            first
            | (refine H128 _ _ ⟨h1, h2, h3, fun y y0 y1 => by omega, h5⟩)
            | (rcases hr with hr | hr
               · refine H128 _ _ ⟨by omega, by omega, hr.2, fun y y0 y1 => h4 y (by omega) y1, hfr⟩
               · exact absurd c_52 (by omega))
            | (rcases hr with hr | hr
               · exact absurd c_52 (by omega)
               · refine H128 _ _ ⟨h1, h2, h3, fun y y0 y1 => hr.2 y (by omega), hfr⟩)
          · refine w_aload_n dX6_best_43 rfl ?_
            refine w_iload_n dX6_best_44 rfl ?_
            refine w_iload dX6_best_45 rfl ?_
            refine w_iadd dX6_best_47 ?_
            refine w_iload_n dX6_best_48 rfl ?_
            refine cv_X6_231 rfl dX6_best_49 (Nat.le_of_ble_eq_true rfl) (Nat.le_of_ble_eq_true rfl) (Wp.mono (ct_room σ τ (t + 256) _ hI h5 (by omega) hkd) (fun z_ τ_ hq_ => ?_))
            obtain ⟨hr, hfr⟩ := hq_
            have hz01 : z_ = 0 ∨ z_ = 1 := by
              rcases hr with hr | hr
              · exact Or.inr hr.1
              · exact Or.inl hr.1
            refine w_if_eq (tgt := 60) dX6_best_52 (by decide) (by omega) (fun c_52 => ?_) (fun c_52 => ?_)
            · refine w_iload dX6_best_60 rfl ?_
              refine w_iconst dX6_best_62 ?_
              refine w_idivN dX6_best_63 (by omega) (by omega) (by omega) (by omega) ?_
              refine w_istore dX6_best_64 (Nat.le_of_ble_eq_true rfl) ?_
              refine w_goto (tgt := 28) dX6_best_66 (by decide) ?_
              rw [show (256 : Int) / 2 = 128 by decide]
              first
              | (refine H128 _ _ ⟨h1, h2, h3, fun y y0 y1 => by omega, h5⟩)
              | (rcases hr with hr | hr
                 · refine H128 _ _ ⟨by omega, by omega, hr.2, fun y y0 y1 => h4 y (by omega) y1, hfr⟩
                 · exact absurd c_52 (by omega))
              | (rcases hr with hr | hr
                 · exact absurd c_52 (by omega)
                 · refine H128 _ _ ⟨h1, h2, h3, fun y y0 y1 => hr.2 y (by omega), hfr⟩)
            · refine w_iload_n dX6_best_55 rfl ?_
              refine w_iload dX6_best_56 rfl ?_
              refine w_iadd dX6_best_58 ?_
              refine w_istore_n dX6_best_59 (Nat.le_of_ble_eq_true rfl) ?_
              refine w_iload dX6_best_60 rfl ?_
              refine w_iconst dX6_best_62 ?_
              refine w_idivN dX6_best_63 (by omega) (by omega) (by omega) (by omega) ?_
              refine w_istore dX6_best_64 (Nat.le_of_ble_eq_true rfl) ?_
              refine w_goto (tgt := 28) dX6_best_66 (by decide) ?_
              rw [show (256 : Int) / 2 = 128 by decide]
              first
              | (refine H128 _ _ ⟨h1, h2, h3, fun y y0 y1 => by omega, h5⟩)
              | (rcases hr with hr | hr
                 · refine H128 _ _ ⟨by omega, by omega, hr.2, fun y y0 y1 => h4 y (by omega) y1, hfr⟩
                 · exact absurd c_52 (by omega))
              | (rcases hr with hr | hr
                 · exact absurd c_52 (by omega)
                 · refine H128 _ _ ⟨h1, h2, h3, fun y y0 y1 => hr.2 y (by omega), hfr⟩)
      have H512 : ∀ (t : Int) (τ : St), (0 ≤ t ∧ t ≤ 999 ∧ FitY σ (if op = 0 then 1 else 0) t ∧ (∀ y, t + 1024 ≤ y → y ≤ 999 → ¬ FitY σ (if op = 0 then 1 else 0) y) ∧ frC σ τ) → Wp mX6_best 3 (fun z τ => ((z = -1 ∧ ∀ y, 0 ≤ y → ¬ FitY σ (if op = 0 then 1 else 0) y) ∨ (0 ≤ z ∧ z ≤ 999 ∧ FitY σ (if op = 0 then 1 else 0) z ∧ ∀ y, z < y → y ≤ 999 → ¬ FitY σ (if op = 0 then 1 else 0) y)) ∧ frC σ τ) 28 [some (.inr 6), some (.inl op), some (.inl (if op = 0 then 1 else 0)), some (.inl t), some (.inl 512)] [] τ := by
        intro t τ ⟨h1, h2, h3, h4, h5⟩
        refine w_iload dX6_best_28 rfl ?_
        refine w_if_le (tgt := 69) dX6_best_30 (by decide) (by omega) (fun c_30 => ?_) (fun c_30 => ?_)
        · exact absurd c_30 (by omega)
        · refine w_iload_n dX6_best_33 rfl ?_
          refine w_iload dX6_best_34 rfl ?_
          refine w_iadd dX6_best_36 ?_
          refine w_sipush dX6_best_37 (by decide) ?_
          refine w_icmp_gt (tgt := 60) dX6_best_40 (by decide) (by omega) (by omega) (fun c_40 => ?_) (fun c_40 => ?_)
          · refine w_iload dX6_best_60 rfl ?_
            refine w_iconst dX6_best_62 ?_
            refine w_idivN dX6_best_63 (by omega) (by omega) (by omega) (by omega) ?_
            refine w_istore dX6_best_64 (Nat.le_of_ble_eq_true rfl) ?_
            refine w_goto (tgt := 28) dX6_best_66 (by decide) ?_
            rw [show (512 : Int) / 2 = 256 by decide]
            first
            | (refine H256 _ _ ⟨h1, h2, h3, fun y y0 y1 => by omega, h5⟩)
            | (rcases hr with hr | hr
               · refine H256 _ _ ⟨by omega, by omega, hr.2, fun y y0 y1 => h4 y (by omega) y1, hfr⟩
               · exact absurd c_52 (by omega))
            | (rcases hr with hr | hr
               · exact absurd c_52 (by omega)
               · refine H256 _ _ ⟨h1, h2, h3, fun y y0 y1 => hr.2 y (by omega), hfr⟩)
          · refine w_aload_n dX6_best_43 rfl ?_
            refine w_iload_n dX6_best_44 rfl ?_
            refine w_iload dX6_best_45 rfl ?_
            refine w_iadd dX6_best_47 ?_
            refine w_iload_n dX6_best_48 rfl ?_
            refine cv_X6_231 rfl dX6_best_49 (Nat.le_of_ble_eq_true rfl) (Nat.le_of_ble_eq_true rfl) (Wp.mono (ct_room σ τ (t + 512) _ hI h5 (by omega) hkd) (fun z_ τ_ hq_ => ?_))
            obtain ⟨hr, hfr⟩ := hq_
            have hz01 : z_ = 0 ∨ z_ = 1 := by
              rcases hr with hr | hr
              · exact Or.inr hr.1
              · exact Or.inl hr.1
            refine w_if_eq (tgt := 60) dX6_best_52 (by decide) (by omega) (fun c_52 => ?_) (fun c_52 => ?_)
            · refine w_iload dX6_best_60 rfl ?_
              refine w_iconst dX6_best_62 ?_
              refine w_idivN dX6_best_63 (by omega) (by omega) (by omega) (by omega) ?_
              refine w_istore dX6_best_64 (Nat.le_of_ble_eq_true rfl) ?_
              refine w_goto (tgt := 28) dX6_best_66 (by decide) ?_
              rw [show (512 : Int) / 2 = 256 by decide]
              first
              | (refine H256 _ _ ⟨h1, h2, h3, fun y y0 y1 => by omega, h5⟩)
              | (rcases hr with hr | hr
                 · refine H256 _ _ ⟨by omega, by omega, hr.2, fun y y0 y1 => h4 y (by omega) y1, hfr⟩
                 · exact absurd c_52 (by omega))
              | (rcases hr with hr | hr
                 · exact absurd c_52 (by omega)
                 · refine H256 _ _ ⟨h1, h2, h3, fun y y0 y1 => hr.2 y (by omega), hfr⟩)
            · refine w_iload_n dX6_best_55 rfl ?_
              refine w_iload dX6_best_56 rfl ?_
              refine w_iadd dX6_best_58 ?_
              refine w_istore_n dX6_best_59 (Nat.le_of_ble_eq_true rfl) ?_
              refine w_iload dX6_best_60 rfl ?_
              refine w_iconst dX6_best_62 ?_
              refine w_idivN dX6_best_63 (by omega) (by omega) (by omega) (by omega) ?_
              refine w_istore dX6_best_64 (Nat.le_of_ble_eq_true rfl) ?_
              refine w_goto (tgt := 28) dX6_best_66 (by decide) ?_
              rw [show (512 : Int) / 2 = 256 by decide]
              first
              | (refine H256 _ _ ⟨h1, h2, h3, fun y y0 y1 => by omega, h5⟩)
              | (rcases hr with hr | hr
                 · refine H256 _ _ ⟨by omega, by omega, hr.2, fun y y0 y1 => h4 y (by omega) y1, hfr⟩
                 · exact absurd c_52 (by omega))
              | (rcases hr with hr | hr
                 · exact absurd c_52 (by omega)
                 · refine H256 _ _ ⟨h1, h2, h3, fun y y0 y1 => hr.2 y (by omega), hfr⟩)
      exact H512 _ _ ⟨by omega, by omega, hf0, fun y y0 y1 => by omega, hfr⟩
    · refine w_iconst dX6_best_19 ?_
      refine w_iret dX6_best_20 rfl ?_
      rcases hr with hr | hr
      · omega
      · exact ⟨Or.inl ⟨rfl, fun y y0 => hr.2 y y0⟩, hfr⟩
  refine w_iload_n dX6_best_0 rfl ?_
  refine w_if_eq (tgt := 8) dX6_best_1 (by decide) ho (fun c_1 => ?_) (fun c_1 => ?_)
  · refine w_iconst dX6_best_8 ?_
    refine w_istore_n dX6_best_9 (Nat.le_of_ble_eq_true rfl) ?_
    first
    | (have K2 := KEY; simp only [if_pos c_1] at K2 ⊢; exact K2)
    | (have K2 := KEY; simp only [if_neg c_1] at K2 ⊢; exact K2)
  · refine w_iconst dX6_best_4 ?_
    refine w_goto (tgt := 9) dX6_best_5 (by decide) ?_
    refine w_istore_n dX6_best_9 (Nat.le_of_ble_eq_true rfl) ?_
    first
    | (have K2 := KEY; simp only [if_pos c_1] at K2 ⊢; exact K2)
    | (have K2 := KEY; simp only [if_neg c_1] at K2 ⊢; exact K2)

def insK (f : Int → Int) (p v j : Int) : Int → Int := fun x => if x < p then f x else if x < p + j then v else f (x - j)
theorem insK_0 (f : Int → Int) (p v : Int) : insK f p v 0 = f := by
  funext x
  unfold insK
  by_cases h : x < p
  · rw [if_pos h]
  · rw [if_neg h, if_neg (by omega), Int.sub_zero]
theorem insK_s {f g : Int → Int} {p v j n : Int} (hp : 0 ≤ p ∧ p ≤ n) (hj : 0 ≤ j) (h : ∀ x, 0 ≤ x → x < n → g x = insK f p v j x) : ∀ x, 0 ≤ x → x < n + 1 → ins g p v x = insK f p v (j + 1) x := by
  intro x x0 x1
  unfold ins
  by_cases q : x < p
  · rw [if_pos q, h x x0 (by omega)]
    unfold insK
    rw [if_pos q, if_pos q]
  · rw [if_neg q]
    by_cases e : x = p
    · rw [if_pos e]
      unfold insK
      rw [if_neg q, if_pos (by omega)]
    · rw [if_neg e, h (x - 1) (by omega) (by omega)]
      unfold insK
      rw [if_neg (by omega), if_neg q]
      by_cases r : x - 1 < p + j
      · rw [if_pos r, if_pos (by omega)]
      · rw [if_neg r, if_neg (by omega), show x - 1 - j = x - (j + 1) by omega]
def FitK (σ : St) (p w j : Int) : Prop := ∃ q, IsFill (σ 55) (σ 56) (insK (σ 9) p w j) 1 (σ 5 2) (σ 0 6 + j) q ∧ q (σ 5 2) = σ 0 6 + j

set_option maxRecDepth 100000 in
set_option maxHeartbeats 4000000 in
theorem ct_X6_more (σ : St) (g w : Int) (hI : InvC σ) (hg : InR g) (hw : InR w) : Wp mX6_more 2 (fun z τ => (¬ (0 ≤ g ∧ g < σ 2 1 ∧ 1 ≤ w ∧ w ≤ 40) → z = -1) ∧ ((0 ≤ g ∧ g < σ 2 1 ∧ 1 ≤ w ∧ w ≤ 40) → ∃ p, IsNb (σ 8) (σ 0 6) g p ∧ 0 ≤ z ∧ z ≤ 60 - σ 0 6 ∧ (∀ j, 1 ≤ j → j ≤ z → FitK σ p w j) ∧ (z = 60 - σ 0 6 ∨ ¬ FitK σ p w (z + 1))) ∧ frC σ τ) 0 [some (.inr 6), some (.inl g), some (.inl w), none, none, none] [] σ := by
  refine Wp.rg (fun hR => ?_)
  refine w_aload_n dX6_more_0 rfl ?_
  refine w_iload_n dX6_more_1 rfl ?_
  refine cv_X6_81 rfl dX6_more_2 (Nat.le_of_ble_eq_true rfl) (Nat.le_of_ble_eq_true rfl) (Wp.mono (ct_hasG _ g hg) (fun z_ τ_ hq_ => ?_))
  obtain ⟨hw2, hs_⟩ := hq_
  subst τ_
  refine w_if_eq (tgt := 18) dX6_more_5 (by decide) (by omega) (fun c_5 => ?_) (fun c_5 => ?_)
  · refine w_iconst dX6_more_18 ?_
    refine w_iret dX6_more_19 rfl ?_
    exact ⟨fun _ => rfl, fun ok => absurd ok (by omega), fun k _ _ => rfl⟩
  · refine w_iload_n dX6_more_8 rfl ?_
    refine w_iconst dX6_more_9 ?_
    refine w_bipush dX6_more_10 (by decide) ?_
    refine cv_X6_55 rfl dX6_more_12 (Nat.le_of_ble_eq_true rfl) (Nat.le_of_ble_eq_true rfl) (Wp.mono (ct_within _ w 1 40 hw (by omega) (by omega)) (fun z_ τ_ hq_ => ?_))
    obtain ⟨hw12, hs_⟩ := hq_
    subst τ_
    refine w_if_ne (tgt := 20) dX6_more_15 (by decide) (by omega) (fun c_15 => ?_) (fun c_15 => ?_)
    · refine w_aload_n dX6_more_20 rfl ?_
      refine gf_X6_26 rfl dX6_more_21 ?_
      refine w_iload_n dX6_more_24 rfl ?_
      refine cv_X6_92 rfl dX6_more_25 (Nat.le_of_ble_eq_true rfl) (Nat.le_of_ble_eq_true rfl) (Wp.mono (ct_X0_numberBehind σ g hI.nb hg) (fun z_ τ_ hq_ => ?_))
      obtain ⟨hnp, hs_⟩ := hq_
      subst τ_
      generalize z_ = p at hnp
      have hp0 := hnp.1
      have hp1 := hnp.2.1
      have hnb := hI.nb
      refine w_istore_n dX6_more_28 (Nat.le_of_ble_eq_true rfl) ?_
      refine w_bipush dX6_more_29 (by decide) ?_
      refine w_aload_n dX6_more_31 rfl ?_
      refine gf_X6_26 rfl dX6_more_32 ?_
      refine gf_X6_91 rfl dX6_more_35 ?_
      refine w_isub dX6_more_38 ?_
      refine w_istore dX6_more_39 (Nat.le_of_ble_eq_true rfl) ?_
      refine w_aload_n dX6_more_41 rfl ?_
      refine gf_X6_33 rfl dX6_more_42 ?_
      refine w_aload_n dX6_more_45 rfl ?_
      refine gf_X6_10 rfl dX6_more_46 ?_
      refine w_aload_n dX6_more_49 rfl ?_
      refine gf_X6_26 rfl dX6_more_50 ?_
      refine w_iconst dX6_more_53 ?_
      refine cv_X6_95 rfl dX6_more_54 (Nat.le_of_ble_eq_true rfl) (Nat.le_of_ble_eq_true rfl) (Wp.mono (ct_X1_load σ 0 hI.ns hI.nb (by omega) (fun b b0 b1 => by have := hI.bk b b0 b1; omega) (fun b b0 b1 => by have := hI.bk b b0 b1; omega)) (fun z_ τ_ hq_ => ?_))
      obtain ⟨f1, f2, f3, f4, f5, f6⟩ := hq_
      refine w_iconst dX6_more_57 ?_
      refine w_istore dX6_more_58 (Nat.le_of_ble_eq_true rfl) ?_
      refine up_to (60 - σ 0 6) (fun i => 0 ≤ i → ∀ (τ : St), (τ 1 9 = σ 5 2 ∧ τ 1 10 = σ 0 6 + i ∧ (∀ s, 0 ≤ s → s < σ 5 2 → τ 16 s = σ 55 s ∧ τ 17 s = σ 56 s) ∧ (∀ x, 0 ≤ x → x < σ 0 6 + i → τ 19 x = insK (σ 9) p w i x) ∧ frC σ τ ∧ ∀ j, 1 ≤ j → j ≤ i → FitK σ p w j) → Wp mX6_more 2 (fun z τ => (¬ (0 ≤ g ∧ g < σ 2 1 ∧ 1 ≤ w ∧ w ≤ 40) → z = -1) ∧ ((0 ≤ g ∧ g < σ 2 1 ∧ 1 ≤ w ∧ w ≤ 40) → ∃ p, IsNb (σ 8) (σ 0 6) g p ∧ 0 ≤ z ∧ z ≤ 60 - σ 0 6 ∧ (∀ j, 1 ≤ j → j ≤ z → FitK σ p w j) ∧ (z = 60 - σ 0 6 ∨ ¬ FitK σ p w (z + 1))) ∧ frC σ τ) 60 [some (.inr 6), some (.inl g), some (.inl w), some (.inl p), some (.inl (60 - σ 0 6)), some (.inl i)] [] τ) (fun i hi ih h0 τ hinv => ?_) (0) (by omega) (by omega) _ ⟨f1, by rw [f2]; omega, f4, fun x x0 x1 => by rw [(f5 x x0 (by omega)).2.1, insK_0, Int.zero_mul, Int.add_zero], fun k k1 k2 => f6 k k1 (by omega) (by omega) (by omega) (by omega) (by omega), fun j j0 j1 => by omega⟩
      obtain ⟨q1, q2, q3, q4, q5, q6⟩ := hinv
      refine w_iload dX6_more_60 rfl ?_
      refine w_iload dX6_more_62 rfl ?_
      refine w_icmp_ge (tgt := 97) dX6_more_64 (by decide) (by omega) (by omega) (fun c_64 => ?_) (fun c_64 => ?_)
      · refine w_iload dX6_more_97 rfl ?_
        refine w_iret dX6_more_99 rfl ?_
        exact ⟨fun nok => absurd nok (by omega), fun _ => ⟨p, hnp, by omega, by omega, fun j j0 j1 => q6 j j0 (by omega), Or.inl rfl⟩, q5⟩
      · refine w_aload_n dX6_more_67 rfl ?_
        refine gf_X6_33 rfl dX6_more_68 ?_
        refine w_iload_n dX6_more_71 rfl ?_
        refine w_iload_n dX6_more_72 rfl ?_
        refine cv_X6_99 rfl dX6_more_73 (Nat.le_of_ble_eq_true rfl) (Nat.le_of_ble_eq_true rfl) (Wp.mono (ct_X1_insert τ p w (by rw [q2]; omega) hw) (fun z_ τ_ hq_ => ?_))
        obtain ⟨υ, hυ⟩ : ∃ υ, υ = τ_ := ⟨_, rfl⟩
        rw [← hυ] at hq_ ⊢
        clear hυ
        obtain ⟨i1, i2, i3, i4⟩ := hq_
        rw [q2] at i1 i2
        have u9 : υ 1 9 = σ 5 2 := by rw [i3 9 (by decide)]; exact q1
        have u10 : υ 1 10 = σ 0 6 + (i + 1) := by rw [i2]; omega
        have ush : ∀ s, 0 ≤ s → s < σ 5 2 → υ 16 s = σ 55 s ∧ υ 17 s = σ 56 s := fun s s0 s1 => by
          rw [i4 16 (by decide) (by decide) (by decide) (by decide), i4 17 (by decide) (by decide) (by decide) (by decide)]; exact q3 s s0 s1
        have usp : ∀ x, 0 ≤ x → x < σ 0 6 + (i + 1) → υ 19 x = insK (σ 9) p w (i + 1) x := fun x x0 x1 => by
          rw [(i1 x x0 (by omega)).2.1]
          exact insK_s (n := σ 0 6 + i) ⟨hp0, by omega⟩ h0 q4 x x0 (by omega)
        have uspn : ∀ x, 0 ≤ x → x < σ 0 6 + (i + 1) → 0 ≤ insK (σ 9) p w (i + 1) x := fun x x0 x1 => by
          unfold insK
          by_cases a : x < p
          · rw [if_pos a]; have := hI.bk x x0 (by omega); omega
          · rw [if_neg a]
            by_cases c : x < p + (i + 1)
            · rw [if_pos c]; omega
            · rw [if_neg c]; have := hI.bk (x - (i + 1)) (by omega) (by omega); omega
        have ufr : frC σ υ := fun k k1 k2 => by rw [i4 k k1 (by omega) (by omega) (by omega)]; exact q5 k k1 k2
        refine w_aload_n dX6_more_76 rfl ?_
        refine gf_X6_33 rfl dX6_more_77 ?_
        refine w_iconst dX6_more_80 ?_
        refine cv_X6_235 rfl dX6_more_81 (Nat.le_of_ble_eq_true rfl) (Nat.le_of_ble_eq_true rfl) (Wp.mono (ct_X1_shelvesFilled _ 1 (by omega) (by rw [u9]; exact hI.ns) (by rw [u10]; omega) (fun s s0 s1 => by rw [u9] at s1; rw [(ush s s0 s1).1]; have := hI.sh s s0 s1; omega) (fun x x0 x1 => by rw [u10] at x1; rw [usp x x0 x1]; exact uspn x x0 x1)) (fun z_ τ_ hq_ => ?_))
        obtain ⟨⟨q, g1, g2⟩, hs_⟩ := hq_
        subst τ_
        rw [u9, u10] at g1 g2
        have hns := hI.ns
        have g3 := g1.move (len2 := σ 55) (kind2 := σ 56) (span2 := insK (σ 9) p w (i + 1)) (by omega) ush usp
        refine w_iconst dX6_more_84 ?_
        refine w_icmp_ne (tgt := 91) dX6_more_85 (by decide) (by omega) (by omega) (fun c_85 => ?_) (fun c_85 => ?_)
        · refine w_iinc dX6_more_91 (Nat.le_of_ble_eq_true rfl) rfl ?_
          refine w_goto (tgt := 60) dX6_more_94 (by decide) ?_
          refine ih (by omega) (by omega) _ ⟨u9, u10, ush, usp, ufr, fun j j0 j1 => ?_⟩
          by_cases e : j = i + 1
          · subst e
            rcases g2 with g2 | g2
            · exact ⟨q, g3, g2.1⟩
            · omega
          · exact q6 j j0 (by omega)
        · refine w_iload dX6_more_88 rfl ?_
          refine w_iret dX6_more_90 rfl ?_
          refine ⟨fun nok => absurd nok (by omega), fun _ => ⟨p, hnp, h0, by omega, q6, Or.inr ?_⟩, ufr⟩
          rintro ⟨q2', k1, k2⟩
          rcases g2 with g2 | g2
          · omega
          · have := IsFill.uniq (by omega) (fun s _ _ => ⟨rfl, rfl⟩) (fun x x0 x1 => ⟨rfl, uspn x x0 x1⟩) g3 k1 (σ 5 2) hns.1 (Int.le_refl _)
            omega
    · refine w_iconst dX6_more_18 ?_
      refine w_iret dX6_more_19 rfl ?_
      exact ⟨fun _ => rfl, fun ok => absurd ok (by omega), fun k _ _ => rfl⟩

