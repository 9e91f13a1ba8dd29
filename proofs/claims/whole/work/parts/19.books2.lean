/-- the needs of a group are shared out anew -/
def ShG (σ τ : St) (g G : Int) : Prop := (sumW (σ 8) (σ 9) g (σ 0 6) ≤ 0 → τ = σ) ∧ (0 < sumW (σ 8) (σ 9) g (σ 0 6) → τ = putA (putA σ 10 (gvN (σ 8) g (σ 0 6) (shI (σ 8) (σ 9) (σ 0 6) g G (sumW (σ 8) (σ 9) g (σ 0 6)) (σ 10), shL (σ 8) (σ 9) (σ 0 6) g G (sumW (σ 8) (σ 9) g (σ 0 6)) (σ 13)) (lftF (σ 8) (σ 9) (σ 0 6) g G).toNat).1) 13 (gvN (σ 8) g (σ 0 6) (shI (σ 8) (σ 9) (σ 0 6) g G (sumW (σ 8) (σ 9) g (σ 0 6)) (σ 10), shL (σ 8) (σ 9) (σ 0 6) g G (sumW (σ 8) (σ 9) g (σ 0 6)) (σ 13)) (lftF (σ 8) (σ 9) (σ 0 6) g G).toNat).2)
theorem ShG.fr {σ τ : St} {g G : Int} (h : ShG σ τ g G) {k : Nat} (h1 : k ≠ 10) (h2 : k ≠ 13) : τ k = σ k := by
  rcases Int.lt_or_le 0 (sumW (σ 8) (σ 9) g (σ 0 6)) with q | q
  · rw [h.2 q, putA_ne h2, putA_ne h1]
  · rw [h.1 q]
theorem ct_share (σ : St) (g G : Int) (hb : 0 ≤ σ 0 6 ∧ σ 0 6 ≤ 60) (hw : ∀ b, 0 ≤ b → b < σ 0 6 → 1 ≤ σ 9 b ∧ σ 9 b ≤ 40) (hG : 0 ≤ G ∧ G ≤ 99) (hg : InR g) : Wp mX0_shareGrowth 2 (fun z τ => ShG σ τ g G) 0 [some (.inr 0), some (.inl g), some (.inl G), none, none, none] [] σ := ct_X0_shareGrowth σ g G hb hw hG hg

set_option maxRecDepth 100000 in
set_option maxHeartbeats 4000000 in
theorem ct_X6_grow (σ : St) (g G : Int) (hI : InvC σ) (hg : InR g) (hG : InR G) : Wp mX6_grow 3 (fun z τ => ((0 ≤ g ∧ g < σ 2 1 ∧ 0 ≤ G ∧ G ≤ 99 ∧ σ 48 g ≠ G) → z = 1 ∧ ∃ υ, ShG (put σ 48 g G) υ g G ∧ τ = endP υ) ∧ (¬ (0 ≤ g ∧ g < σ 2 1 ∧ 0 ≤ G ∧ G ≤ 99 ∧ σ 48 g ≠ G) → z = 0 ∧ τ = σ)) 0 [some (.inr 6), some (.inl g), some (.inl G)] [] σ := by
  refine Wp.rg (fun hR => ?_)
  refine w_aload_n dX6_grow_0 rfl ?_
  refine w_iload_n dX6_grow_1 rfl ?_
  refine cv_X6_81 rfl dX6_grow_2 (Nat.le_of_ble_eq_true rfl) (Nat.le_of_ble_eq_true rfl) (Wp.mono (ct_hasG _ g hg) (fun z_ τ_ hq_ => ?_))
  obtain ⟨hw2, hs_⟩ := hq_
  subst τ_
  refine w_if_eq (tgt := 31) dX6_grow_5 (by decide) (by omega) (fun c_5 => ?_) (fun c_5 => ?_)
  · refine w_iconst dX6_grow_31 ?_
    refine w_zret dX6_grow_32 rfl (by omega) ?_
    exact ⟨fun ok => absurd ok (by omega), fun _ => ⟨rfl, rfl⟩⟩
  · refine w_iload_n dX6_grow_8 rfl ?_
    refine w_iconst dX6_grow_9 ?_
    refine w_bipush dX6_grow_10 (by decide) ?_
    refine cv_X6_55 rfl dX6_grow_12 (Nat.le_of_ble_eq_true rfl) (Nat.le_of_ble_eq_true rfl) (Wp.mono (ct_within _ G 0 99 hG (by omega) (by omega)) (fun z_ τ_ hq_ => ?_))
    obtain ⟨hw12, hs_⟩ := hq_
    subst τ_
    refine w_if_eq (tgt := 31) dX6_grow_15 (by decide) (by omega) (fun c_15 => ?_) (fun c_15 => ?_)
    · refine w_iconst dX6_grow_31 ?_
      refine w_zret dX6_grow_32 rfl (by omega) ?_
      exact ⟨fun ok => absurd ok (by omega), fun _ => ⟨rfl, rfl⟩⟩
    · refine w_aload_n dX6_grow_18 rfl ?_
      refine gf_X6_19 rfl dX6_grow_19 ?_
      refine gf_X6_84 rfl dX6_grow_22 ?_
      refine w_iload_n dX6_grow_25 rfl ?_
      refine w_iald rfl (by have := hI.ng; omega) dX6_grow_26 ?_
      refine w_iload_n dX6_grow_27 rfl ?_
      refine w_icmp_ne (tgt := 33) dX6_grow_28 (by decide) (hR _ _) hG (fun c_28 => ?_) (fun c_28 => ?_)
      · refine w_aload_n dX6_grow_33 rfl ?_
        refine gf_X6_19 rfl dX6_grow_34 ?_
        refine gf_X6_84 rfl dX6_grow_37 ?_
        refine w_iload_n dX6_grow_40 rfl ?_
        refine w_iload_n dX6_grow_41 rfl ?_
        refine w_iast rfl (by have := hI.ng; omega) hG dX6_grow_42 ?_
        refine w_aload_n dX6_grow_43 rfl ?_
        refine gf_X6_26 rfl dX6_grow_44 ?_
        refine w_iload_n dX6_grow_47 rfl ?_
        refine w_iload_n dX6_grow_48 rfl ?_
        refine cv_X6_87 rfl dX6_grow_49 (Nat.le_of_ble_eq_true rfl) (Nat.le_of_ble_eq_true rfl) (Wp.mono (ct_share _ g G (by rw [put_ne (by decide)]; exact hI.nb) (fun b b0 b1 => by rw [put_ne (by decide)] at b1 ⊢; have := hI.bk b b0 b1; omega) (by omega) hg) (fun z_ τ_ hq_ => ?_))
        have hsg := hq_
        refine w_aload_n dX6_grow_52 rfl ?_
        refine gf_X6_40 rfl dX6_grow_53 ?_
        refine cv_X6_62 rfl dX6_grow_56 (Nat.le_of_ble_eq_true rfl) (Nat.le_of_ble_eq_true rfl) (Wp.mono (ct_X4_end _) (fun z_ τ_ hq_ => ?_))
        subst τ_
        refine w_iconst dX6_grow_59 ?_
        refine w_zret dX6_grow_60 rfl (by omega) ?_
        exact ⟨fun _ => ⟨rfl, _, hsg, rfl⟩, fun nok => absurd nok (by omega)⟩
      · refine w_iconst dX6_grow_31 ?_
        refine w_zret dX6_grow_32 rfl (by omega) ?_
        exact ⟨fun ok => absurd ok (by omega), fun _ => ⟨rfl, rfl⟩⟩

set_option maxRecDepth 100000 in
set_option maxHeartbeats 4000000 in
theorem ct_X6_gone (σ : St) (b : Int) (hI : InvC σ) (hb : InR b) : Wp mX6_gone 3 (fun z τ => ((0 ≤ b ∧ b < σ 0 6) → z = σ 11 b ∧ ∃ β γ, ((∀ j, 0 ≤ j → j < σ 0 6 - 1 → β 8 j = del (σ 8) b j ∧ β 9 j = del (σ 9) b j ∧ β 10 j = del (σ 10) b j ∧ β 11 j = del (σ 11) b j ∧ β 12 j = del (σ 12) b j) ∧ β 0 6 = σ 0 6 - 1 ∧ β 0 7 = σ 0 7 ∧ (∀ es, RepC σ es → RepC β (es ++ [(3, b, σ 9 b, σ 11 b, -1)])) ∧ (∀ k, k ≠ 0 → k ≠ 3 → k ≠ 8 → k ≠ 9 → k ≠ 10 → k ≠ 11 → k ≠ 12 → k ≠ 49 → β k = σ k)) ∧ ShG β γ (σ 8 b) (σ 48 (σ 8 b)) ∧ τ = endP γ) ∧ (¬ (0 ≤ b ∧ b < σ 0 6) → z = -1 ∧ τ = σ)) 0 [some (.inr 6), some (.inl b), none, none] [] σ := by
  refine Wp.rg (fun hR => ?_)
  refine w_aload_n dX6_gone_0 rfl ?_
  refine w_iload_n dX6_gone_1 rfl ?_
  refine cv_X6_123 rfl dX6_gone_2 (Nat.le_of_ble_eq_true rfl) (Nat.le_of_ble_eq_true rfl) (Wp.mono (ct_hasB _ b hb) (fun z_ τ_ hq_ => ?_))
  obtain ⟨hw2, hs_⟩ := hq_
  subst τ_
  refine w_if_ne (tgt := 10) dX6_gone_5 (by decide) (by omega) (fun c_5 => ?_) (fun c_5 => ?_)
  · have hnb := hI.nb
    have hng := hI.ng
    have hbk := hI.bk b (by omega) (by omega)
    obtain ⟨es0, hlog⟩ := hI.lg
    refine w_aload_n dX6_gone_10 rfl ?_
    refine gf_X6_26 rfl dX6_gone_11 ?_
    refine gf_X6_126 rfl dX6_gone_14 ?_
    refine w_iload_n dX6_gone_17 rfl ?_
    refine w_iald rfl (by omega) dX6_gone_18 ?_
    refine w_istore_n dX6_gone_19 (Nat.le_of_ble_eq_true rfl) ?_
    refine w_aload_n dX6_gone_20 rfl ?_
    refine gf_X6_26 rfl dX6_gone_21 ?_
    refine gf_X6_129 rfl dX6_gone_24 ?_
    refine w_iload_n dX6_gone_27 rfl ?_
    refine w_iald rfl (by omega) dX6_gone_28 ?_
    refine w_istore_n dX6_gone_29 (Nat.le_of_ble_eq_true rfl) ?_
    refine w_aload_n dX6_gone_30 rfl ?_
    refine gf_X6_47 rfl dX6_gone_31 ?_
    refine w_iconst dX6_gone_34 ?_
    refine w_iload_n dX6_gone_35 rfl ?_
    refine w_aload_n dX6_gone_36 rfl ?_
    refine gf_X6_26 rfl dX6_gone_37 ?_
    refine gf_X6_132 rfl dX6_gone_40 ?_
    refine w_iload_n dX6_gone_43 rfl ?_
    refine w_iald rfl (by omega) dX6_gone_44 ?_
    refine w_iload_n dX6_gone_45 rfl ?_
    refine w_iconst dX6_gone_46 ?_
    refine cv_X6_119 rfl dX6_gone_47 (Nat.le_of_ble_eq_true rfl) (Nat.le_of_ble_eq_true rfl) (Wp.mono (ct_X3_write σ 3 b (σ 9 b) (σ 11 b) (-1) hlog.1 hlog.cnt (by omega) hb (hR _ _) (hR _ _) (by omega)) (fun z_ τ_ hq_ => ?_))
    obtain ⟨wα, hwα⟩ : ∃ α, α = τ_ := ⟨_, rfl⟩
    rw [← hwα] at hq_ ⊢
    have w0 : ∀ k, k ≠ 3 → k ≠ 49 → wα k = σ k := fun k k3 k49 => by rw [hq_]; rw [put_ne k3, put_ne k3, put_ne k49, put_ne k49, put_ne k49, put_ne k49, put_ne k49]
    have wl : ∀ es, RepC σ es → RepC wα (es ++ [(3, b, σ 9 b, σ 11 b, -1)]) := fun es he => he.app _ (by rw [hq_]; simp [put_eq]) (by rw [hq_]; simp [put_eq]) (by rw [hq_]; funext j; simp only [put_eq, upF]; simp)
    clear hq_ hwα
    refine w_aload_n dX6_gone_50 rfl ?_
    refine gf_X6_26 rfl dX6_gone_51 ?_
    refine w_iload_n dX6_gone_54 rfl ?_
    refine cv_X6_135 rfl dX6_gone_55 (Nat.le_of_ble_eq_true rfl) (Nat.le_of_ble_eq_true rfl) (Wp.mono (ct_X0_remove _ b (by rw [w0 0 (by decide) (by decide)]; omega)) (fun z_ τ_ hq_ => ?_))
    obtain ⟨β, hβ⟩ : ∃ β, β = τ_ := ⟨_, rfl⟩
    rw [← hβ] at hq_ ⊢
    obtain ⟨r1, r2, r3, r4⟩ := hq_
    rw [w0 0 (by decide) (by decide), w0 8 (by decide) (by decide), w0 9 (by decide) (by decide), w0 10 (by decide) (by decide), w0 11 (by decide) (by decide), w0 12 (by decide) (by decide)] at r1
    rw [w0 0 (by decide) (by decide)] at r2 r3
    clear hβ
    have b2 : β 2 = σ 2 := by rw [r4 2 (by decide) (by decide) (by decide) (by decide) (by decide) (by decide)]; exact w0 2 (by decide) (by decide)
    have b48 : β 48 = σ 48 := by rw [r4 48 (by decide) (by decide) (by decide) (by decide) (by decide) (by decide)]; exact w0 48 (by decide) (by decide)
    refine w_aload_n dX6_gone_58 rfl ?_
    refine w_iload_n dX6_gone_59 rfl ?_
    refine cv_X6_81 rfl dX6_gone_60 (Nat.le_of_ble_eq_true rfl) (Nat.le_of_ble_eq_true rfl) (Wp.mono (ct_hasG _ (σ 8 b) (hR _ _)) (fun z_ τ_ hq_ => ?_))
    obtain ⟨hw60, hs_⟩ := hq_
    subst τ_
    rw [b2] at hw60
    refine w_if_eq (tgt := 83) dX6_gone_63 (by decide) (by omega) (fun c_63 => ?_) (fun c_63 => ?_)
    · exact absurd c_63 (by omega)
    · 
      refine w_aload_n dX6_gone_66 rfl ?_
      refine gf_X6_26 rfl dX6_gone_67 ?_
      refine w_iload_n dX6_gone_70 rfl ?_
      refine w_aload_n dX6_gone_71 rfl ?_
      refine gf_X6_19 rfl dX6_gone_72 ?_
      refine gf_X6_84 rfl dX6_gone_75 ?_
      refine w_iload_n dX6_gone_78 rfl ?_
      refine w_iald rfl (by omega) dX6_gone_79 ?_
      refine cv_X6_87 rfl dX6_gone_80 (Nat.le_of_ble_eq_true rfl) (Nat.le_of_ble_eq_true rfl) (Wp.mono (ct_share _ (σ 8 b) (β 48 (σ 8 b)) (by rw [r2]; omega) (fun j j0 j1 => by rw [r2] at j1; rw [(r1 j j0 j1).2.1]; unfold del; have h1 := hI.bk j j0 (by omega); have h2 := hI.bk (j + 1) (by omega) (by omega); split <;> omega) (by rw [b48]; exact hI.gr _ hbk.1 hbk.2.1) (hR _ _)) (fun z_ τ_ hq_ => ?_))
      have hsg := hq_
      refine w_aload_n dX6_gone_83 rfl ?_
      refine gf_X6_40 rfl dX6_gone_84 ?_
      refine cv_X6_62 rfl dX6_gone_87 (Nat.le_of_ble_eq_true rfl) (Nat.le_of_ble_eq_true rfl) (Wp.mono (ct_X4_end _) (fun z_ τ_ hq_ => ?_))
      subst τ_
      refine w_iload_n dX6_gone_90 rfl ?_
      refine w_iret dX6_gone_91 rfl ?_
      refine ⟨fun _ => ⟨rfl, β, _, ⟨r1, r2, r3, fun es he => (wl es he).keep (r4 3 (by decide) (by decide) (by decide) (by decide) (by decide) (by decide)) (r4 49 (by decide) (by decide) (by decide) (by decide) (by decide) (by decide)), fun k k0 k3 k8 k9 k10 k11 k12 k49 => by rw [r4 k k0 k8 k9 k10 k11 k12]; exact w0 k k3 k49⟩, by rw [← b48]; exact hsg, rfl⟩, fun nok => absurd nok (by omega)⟩
  · refine w_iconst dX6_gone_8 ?_
    refine w_iret dX6_gone_9 rfl ?_
    exact ⟨fun ok => absurd ok (by omega), fun _ => ⟨rfl, rfl⟩⟩

theorem ins_del {go : Int → Int} {p j : Int} : ins (del go p) p (go p) j = go j := by
  unfold ins del
  by_cases h : j < p
  · rw [if_pos h, if_pos h]
  · rw [if_neg h]
    by_cases e : j = p
    · rw [if_pos e, e]
    · rw [if_neg e, if_neg (by omega), show j - 1 + 1 = j by omega]
theorem mvL_congr {go go2 sh sh2 : Int → Int} {n : Int} (h : ∀ b, 0 ≤ b → b < n → go b = go2 b ∧ sh b = sh2 b) : mvL go sh n = mvL go2 sh2 n := by
  have k1 : ∀ m : Nat, (m : Int) ≤ n → rts go sh m = rts go2 sh2 m := by
    intro m
    induction m with
    | zero => intro _; rfl
    | succ m ih =>
      intro hm
      have e := h m (by omega) (by omega)
      rw [show rts go sh (m + 1) = (if sh (m : Int) < go (m : Int) then (m : Int) :: rts go sh m else rts go sh m) from rfl, show rts go2 sh2 (m + 1) = (if sh2 (m : Int) < go2 (m : Int) then (m : Int) :: rts go2 sh2 m else rts go2 sh2 m) from rfl, ih (by omega), e.1, e.2]
  have k2 : ∀ m : Nat, (m : Int) ≤ n → lfs go sh m = lfs go2 sh2 m := by
    intro m
    induction m with
    | zero => intro _; rfl
    | succ m ih =>
      intro hm
      have e := h m (by omega) (by omega)
      rw [show lfs go sh (m + 1) = (if go (m : Int) < sh (m : Int) then lfs go sh m ++ [(m : Int)] else lfs go sh m) from rfl, show lfs go2 sh2 (m + 1) = (if go2 (m : Int) < sh2 (m : Int) then lfs go2 sh2 m ++ [(m : Int)] else lfs go2 sh2 m) from rfl, ih (by omega), e.1, e.2]
  unfold mvL
  by_cases h0 : 0 ≤ n
  · rw [k1 n.toNat (by omega), k2 n.toNat (by omega)]
  · rw [show n.toNat = 0 by omega]; rfl
theorem mvE_congr {wid shf go wid2 shf2 go2 : Int → Int} {l : List Int} (h : ∀ b ∈ l, wid b = wid2 b ∧ shf b = shf2 b ∧ go b = go2 b) : l.map (mvE wid shf go) = l.map (mvE wid2 shf2 go2) := by
  apply List.map_congr_left
  intro b hb
  unfold mvE
  rw [(h b hb).1, (h b hb).2.1, (h b hb).2.2]
theorem InvC.cp2 {σ : St} (h : InvC σ) {p w : Int} (hp : 0 ≤ p ∧ p ≤ σ 0 6) (hn : σ 0 6 < 60) (hw : 1 ≤ w ∧ w ≤ 40) : CPok (σ 55, σ 56, ins (σ 9) p w, ins (σ 9) p w, ins (σ 11) p (-1)) (σ 5 2) (σ 0 6 + 1) := by
  have nb := h.nb
  have ns := h.ns
  refine ⟨h.ns, by omega, fun s s0 s1 => ?_, fun b b0 b1 => ?_⟩
  · have := h.sh s s0 s1
    exact ⟨by show 0 ≤ σ 55 s; omega, this.2.1, this.2.2⟩
  · show 1 ≤ ins (σ 9) p w b ∧ ins (σ 9) p w b ≤ 40 ∧ 1 ≤ ins (σ 9) p w b ∧ ins (σ 9) p w b ≤ 1000000 ∧ -1 ≤ ins (σ 11) p (-1) b ∧ ins (σ 11) p (-1) b ≤ 12
    unfold ins
    by_cases q : b < p
    · have := h.bk b b0 (by omega)
      simp only [if_pos q]
      omega
    · by_cases e : b = p
      · simp only [if_neg q, if_pos e]
        omega
      · have := h.bk (b - 1) (by omega) (by omega)
        simp only [if_neg q, if_neg e]
        omega

set_option maxRecDepth 100000 in
set_option maxHeartbeats 4000000 in
theorem ct_X6_book (σ : St) (g w : Int) (hI : InvC σ) (hg : InR g) (hw : InR w) : Wp mX6_book 4 (fun z τ => (¬ (0 ≤ g ∧ g < σ 2 1 ∧ 1 ≤ w ∧ w ≤ 40 ∧ σ 0 6 < 60) → z = -1 ∧ τ = σ) ∧ ((0 ≤ g ∧ g < σ 2 1 ∧ 1 ≤ w ∧ w ≤ 40 ∧ σ 0 6 < 60) → ∃ p L, IsNb (σ 8) (σ 0 6) g p ∧ TblL ((σ 55, σ 56, ins (σ 9) p w, ins (σ 9) p w, ins (σ 11) p (-1)) : CP) (σ 5 2) (σ 0 6 + 1) L ∧ ((1000000000 ≤ L 0 0 ∧ z = -1 ∧ frC σ τ) ∨ (L 0 0 < 1000000000 ∧ z = p ∧ ∃ tk go β γ, IsCut ((σ 55, σ 56, ins (σ 9) p w, ins (σ 9) p w, ins (σ 11) p (-1)) : CP) (σ 5 2) (σ 0 6 + 1) L tk ∧ GoIs tk go (σ 5 2) ∧ ((∀ j, 0 ≤ j → j ≤ σ 0 6 → β 8 j = ins (σ 8) p g j ∧ β 9 j = ins (σ 9) p w j ∧ β 10 j = ins (σ 10) p 0 j ∧ β 11 j = go j ∧ β 12 j = ins (fun j => if del go p j ≠ σ 11 j then wr (σ 12 j + 1) else σ 12 j) p 0 j) ∧ β 0 6 = σ 0 6 + 1 ∧ β 0 7 = wr (σ 0 7 + ((mvL (del go p) (σ 11) (σ 0 6)).length : Int)) ∧ β 4 5 = 0 ∧ β 4 6 = 0 ∧ (∀ k, k ≠ 0 → k ≠ 1 → k ≠ 3 → k ≠ 4 → k ≠ 49 → (k < 8 ∨ 47 < k) → (k < 50 ∨ 54 < k) → β k = σ k)) ∧ ShG β γ g (σ 48 g) ∧ (∀ es, RepC σ es → RepC τ (es ++ (mvL (del go p) (σ 11) (σ 0 6)).map (mvE (σ 9) (σ 11) (del go p)) ++ [(0, p, w, -1, go p)])) ∧ ∀ k, k ≠ 3 → k ≠ 49 → τ k = γ k)))) 0 [some (.inr 6), some (.inl g), some (.inl w), none, none] [] σ := by
  refine Wp.rg (fun hR => ?_)
  refine w_aload_n dX6_book_0 rfl ?_
  refine w_iload_n dX6_book_1 rfl ?_
  refine cv_X6_81 rfl dX6_book_2 (Nat.le_of_ble_eq_true rfl) (Nat.le_of_ble_eq_true rfl) (Wp.mono (ct_hasG _ g hg) (fun z_ τ_ hq_ => ?_))
  obtain ⟨hw2, hs_⟩ := hq_
  subst τ_
  refine w_if_eq (tgt := 30) dX6_book_5 (by decide) (by omega) (fun c_5 => ?_) (fun c_5 => ?_)
  · refine w_iconst dX6_book_30 ?_
    refine w_iret dX6_book_31 rfl ?_
    exact ⟨fun _ => ⟨rfl, rfl⟩, fun ok => absurd ok (by omega)⟩
  · refine w_iload_n dX6_book_8 rfl ?_
    refine w_iconst dX6_book_9 ?_
    refine w_bipush dX6_book_10 (by decide) ?_
    refine cv_X6_55 rfl dX6_book_12 (Nat.le_of_ble_eq_true rfl) (Nat.le_of_ble_eq_true rfl) (Wp.mono (ct_within _ w 1 40 hw (by omega) (by omega)) (fun z_ τ_ hq_ => ?_))
    obtain ⟨hw12, hs_⟩ := hq_
    subst τ_
    refine w_if_eq (tgt := 30) dX6_book_15 (by decide) (by omega) (fun c_15 => ?_) (fun c_15 => ?_)
    · refine w_iconst dX6_book_30 ?_
      refine w_iret dX6_book_31 rfl ?_
      exact ⟨fun _ => ⟨rfl, rfl⟩, fun ok => absurd ok (by omega)⟩
    · refine w_aload_n dX6_book_18 rfl ?_
      refine gf_X6_26 rfl dX6_book_19 ?_
      refine gf_X6_91 rfl dX6_book_22 ?_
      refine w_bipush dX6_book_25 (by decide) ?_
      refine w_icmp_lt (tgt := 32) dX6_book_27 (by decide) (hR _ _) (by omega) (fun c_27 => ?_) (fun c_27 => ?_)
      · have hnb := hI.nb
        have hng := hI.ng
        obtain ⟨es0, hes0⟩ := hI.lg
        refine w_aload_n dX6_book_32 rfl ?_
        refine gf_X6_26 rfl dX6_book_33 ?_
        refine w_iload_n dX6_book_36 rfl ?_
        refine cv_X6_92 rfl dX6_book_37 (Nat.le_of_ble_eq_true rfl) (Nat.le_of_ble_eq_true rfl) (Wp.mono (ct_X0_numberBehind σ g hI.nb hg) (fun z_ τ_ hq_ => ?_))
        obtain ⟨hnp, hs_⟩ := hq_
        subst τ_
        generalize z_ = p at hnp
        have hp0 := hnp.1
        have hp1 := hnp.2.1
        refine w_istore_n dX6_book_40 (Nat.le_of_ble_eq_true rfl) ?_
        refine w_aload_n dX6_book_41 rfl ?_
        refine gf_X6_33 rfl dX6_book_42 ?_
        refine w_aload_n dX6_book_45 rfl ?_
        refine gf_X6_10 rfl dX6_book_46 ?_
        refine w_aload_n dX6_book_49 rfl ?_
        refine gf_X6_26 rfl dX6_book_50 ?_
        refine w_iconst dX6_book_53 ?_
        refine cv_X6_95 rfl dX6_book_54 (Nat.le_of_ble_eq_true rfl) (Nat.le_of_ble_eq_true rfl) (Wp.mono (ct_X1_load σ 0 hI.ns hI.nb (by omega) (fun b b0 b1 => by have := hI.bk b b0 b1; omega) (fun b b0 b1 => by have := hI.bk b b0 b1; omega)) (fun z_ τ_ hq_ => ?_))
        obtain ⟨υ1, hυ1⟩ : ∃ υ, υ = τ_ := ⟨_, rfl⟩
        rw [← hυ1] at hq_ ⊢
        obtain ⟨f1, f2, f3, f4, f5, f6⟩ := hq_
        clear hυ1
        refine w_aload_n dX6_book_57 rfl ?_
        refine gf_X6_33 rfl dX6_book_58 ?_
        refine w_iload_n dX6_book_61 rfl ?_
        refine w_iload_n dX6_book_62 rfl ?_
        refine cv_X6_99 rfl dX6_book_63 (Nat.le_of_ble_eq_true rfl) (Nat.le_of_ble_eq_true rfl) (Wp.mono (ct_X1_insert _ p w (by rw [f2]; omega) hw) (fun z_ τ_ hq_ => ?_))
        obtain ⟨υ2, hυ2⟩ : ∃ υ, υ = τ_ := ⟨_, rfl⟩
        rw [← hυ2] at hq_ ⊢
        obtain ⟨i1, i2, i3, i4⟩ := hq_
        rw [f2] at i1 i2
        clear hυ2
        have g19 : υ2 1 9 = σ 5 2 := by rw [i3 9 (by decide)]; exact f1
        have hcv : ∀ s, 0 ≤ s → s < σ 5 2 → (υ2 16, υ2 17, υ2 18, υ2 19, υ2 20).1 s = ((σ 55, σ 56, ins (σ 9) p w, ins (σ 9) p w, ins (σ 11) p (-1)) : CP).1 s ∧ (υ2 16, υ2 17, υ2 18, υ2 19, υ2 20).2.1 s = ((σ 55, σ 56, ins (σ 9) p w, ins (σ 9) p w, ins (σ 11) p (-1)) : CP).2.1 s := fun s s0 s1 => by
          show υ2 16 s = σ 55 s ∧ υ2 17 s = σ 56 s
          rw [i4 16 (by decide) (by decide) (by decide) (by decide), i4 17 (by decide) (by decide) (by decide) (by decide)]
          exact f4 s s0 s1
        have insc : ∀ (f h : Int → Int) (v : Int), (∀ b, 0 ≤ b → b < σ 0 6 → f b = h b) → ∀ b, 0 ≤ b → b < σ 0 6 + 1 → ins f p v b = ins h p v b := fun f h v e b b0 b1 => by
          unfold ins
          by_cases q1 : b < p
          · rw [if_pos q1, if_pos q1]; exact e b b0 (by omega)
          · rw [if_neg q1, if_neg q1]
            by_cases q2 : b = p
            · rw [if_pos q2, if_pos q2]
            · rw [if_neg q2, if_neg q2]; exact e (b - 1) (by omega) (by omega)
        have hbv : ∀ b, 0 ≤ b → b < σ 0 6 + 1 → (υ2 16, υ2 17, υ2 18, υ2 19, υ2 20).2.2.1 b = ((σ 55, σ 56, ins (σ 9) p w, ins (σ 9) p w, ins (σ 11) p (-1)) : CP).2.2.1 b ∧ (υ2 16, υ2 17, υ2 18, υ2 19, υ2 20).2.2.2.1 b = ((σ 55, σ 56, ins (σ 9) p w, ins (σ 9) p w, ins (σ 11) p (-1)) : CP).2.2.2.1 b ∧ (υ2 16, υ2 17, υ2 18, υ2 19, υ2 20).2.2.2.2 b = ((σ 55, σ 56, ins (σ 9) p w, ins (σ 9) p w, ins (σ 11) p (-1)) : CP).2.2.2.2 b := fun b b0 b1 => by
          show υ2 18 b = ins (σ 9) p w b ∧ υ2 19 b = ins (σ 9) p w b ∧ υ2 20 b = ins (σ 11) p (-1) b
          have r := i1 b b0 (by omega)
          rw [r.1, r.2.1, r.2.2]
          exact ⟨insc _ _ _ (fun x x0 x1 => (f5 x x0 x1).1) b b0 b1, insc _ _ _ (fun x x0 x1 => by rw [(f5 x x0 x1).2.1, Int.zero_mul, Int.add_zero]) b b0 b1, insc _ _ _ (fun x x0 x1 => (f5 x x0 x1).2.2) b b0 b1⟩
        have hcp := (hI.cp2 (p := p) (w := w) ⟨hp0, hp1⟩ (by omega) (by omega)).move hcv hbv
        refine w_aload_n dX6_book_66 rfl ?_
        refine gf_X6_33 rfl dX6_book_67 ?_
        refine cv_X6_102 rfl dX6_book_70 (Nat.le_of_ble_eq_true rfl) (Nat.le_of_ble_eq_true rfl) (Wp.mono (ct_X1_findCuts _ (by rw [g19, i2]; exact hcp)) (fun z_ τ_ hq_ => ?_))
        obtain ⟨υ3, hυ3⟩ : ∃ υ, υ = τ_ := ⟨_, rfl⟩
        rw [← hυ3] at hq_ ⊢
        clear hυ3
        obtain ⟨L, j1, j2, j3, j4, j5⟩ := hq_
        rw [g19, i2] at j1 j3
        have j1 := j1.move hcv hbv
        have h3 : ∀ k, k ≠ 1 → (k < 14 ∨ 47 < k) → υ3 k = σ k := fun k k1 k2 => by rw [j5 k k1 (by omega) (by omega) (by omega), i4 k k1 (by omega) (by omega) (by omega)]; exact f6 k k1 (by omega) (by omega) (by omega) (by omega) (by omega)
        have hz01 : z_ = 0 ∨ z_ = 1 := by omega
        refine w_if_ne (tgt := 78) dX6_book_73 (by decide) (by omega) (fun c_73 => ?_) (fun c_73 => ?_)
        · refine w_aload_n dX6_book_78 rfl ?_
          refine gf_X6_33 rfl dX6_book_79 ?_
          refine gf_X6_106 rfl dX6_book_82 ?_
          refine w_iload_n dX6_book_85 rfl ?_
          refine w_iald rfl (by omega) dX6_book_86 ?_
          refine Wp.rg (fun hR3 => ?_)
          have hgo : InR (υ3 14 p) := hR3 _ _
          refine w_istore dX6_book_87 (Nat.le_of_ble_eq_true rfl) ?_
          refine w_aload_n dX6_book_89 rfl ?_
          refine gf_X6_33 rfl dX6_book_90 ?_
          refine w_iload_n dX6_book_93 rfl ?_
          refine cv_X6_109 rfl dX6_book_94 (Nat.le_of_ble_eq_true rfl) (Nat.le_of_ble_eq_true rfl) (Wp.mono (ct_X1_forget _ p (by rw [j4 10 (by decide), i2]; omega)) (fun z_ τ_ hq_ => ?_))
          obtain ⟨υ4, hυ4⟩ : ∃ υ, υ = τ_ := ⟨_, rfl⟩
          rw [← hυ4] at hq_ ⊢
          clear hυ4
          obtain ⟨l1, l2, l3⟩ := hq_
          rw [j4 10 (by decide), i2, show σ 0 6 + 1 - 1 = σ 0 6 by omega] at l1
          have h4 : ∀ k, k ≠ 1 → (k < 14 ∨ 47 < k) → υ4 k = σ k := fun k k1 k2 => by rw [l3 k k1 (by omega)]; exact h3 k k1 k2
          refine w_aload_n dX6_book_97 rfl ?_
          refine cv_X6_113 rfl dX6_book_98 (Nat.le_of_ble_eq_true rfl) (Nat.le_of_ble_eq_true rfl) (Wp.mono (ct_X6_moveAtOnce _ (by rw [h4 0 (by decide) (by omega)]; exact hI.nb) (by obtain ⟨es, he⟩ := hI.lg; exact ⟨es, he.keep (h4 3 (by decide) (by omega)) (h4 49 (by decide) (by omega))⟩)) (fun z_ τ_ hq_ => ?_))
          obtain ⟨υ5, hυ5⟩ : ∃ υ, υ = τ_ := ⟨_, rfl⟩
          rw [← hυ5] at hq_ ⊢
          clear hυ5
          obtain ⟨m1, m2, m3, m4, m5, m6, m7, m8⟩ := hq_
          rw [h4 0 (by decide) (by omega)] at m1 m2 m3 m4 m7
          rw [h4 11 (by decide) (by omega)] at m2 m4 m7
          rw [h4 12 (by decide) (by omega)] at m2
          rw [h4 9 (by decide) (by omega)] at m7
          have eL : mvL (υ4 14) (σ 11) (σ 0 6) = mvL (del (υ3 14) p) (σ 11) (σ 0 6) := mvL_congr (fun b b0 b1 => ⟨l1 b b0 b1, rfl⟩)
          rw [eL] at m4 m7
          have eM : (mvL (del (υ3 14) p) (σ 11) (σ 0 6)).map (mvE (σ 9) (σ 11) (υ4 14)) = (mvL (del (υ3 14) p) (σ 11) (σ 0 6)).map (mvE (σ 9) (σ 11) (del (υ3 14) p)) := mvE_congr (fun b hb => by
            have := (mvL_mem (del (υ3 14) p) (σ 11) hI.nb.1).mp hb
            exact ⟨rfl, rfl, l1 b this.1 this.2.1⟩)
          rw [eM] at m7
          have h5 : ∀ k, k ≠ 0 → k ≠ 1 → k ≠ 3 → k ≠ 4 → k ≠ 11 → k ≠ 12 → k ≠ 49 → (k < 14 ∨ 47 < k) → (k < 50 ∨ 54 < k) → υ5 k = σ k := fun k k0 k1 k3 k4 k11 k12 k49 k5 k6 => by rw [m8 k k0 k3 k4 k11 k12 k49 (by omega) (by omega) (by omega) (by omega) (by omega)]; exact h4 k k1 k5
          refine w_aload_n dX6_book_101 rfl ?_
          refine gf_X6_26 rfl dX6_book_102 ?_
          refine w_iload_n dX6_book_105 rfl ?_
          refine w_iload_n dX6_book_106 rfl ?_
          refine w_iload_n dX6_book_107 rfl ?_
          refine w_iload dX6_book_108 rfl ?_
          refine cv_X6_116 rfl dX6_book_110 (Nat.le_of_ble_eq_true rfl) (Nat.le_of_ble_eq_true rfl) (Wp.mono (ct_X0_insert _ p g w (υ3 14 p) (by rw [m3]; omega) hg hw hgo) (fun z_ τ_ hq_ => ?_))
          obtain ⟨β, hβ⟩ : ∃ υ, υ = τ_ := ⟨_, rfl⟩
          rw [← hβ] at hq_ ⊢
          clear hβ
          obtain ⟨n1, n2, n3, n4⟩ := hq_
          rw [m3, h5 8 (by decide) (by decide) (by decide) (by decide) (by decide) (by decide) (by decide) (by omega) (by omega), h5 9 (by decide) (by decide) (by decide) (by decide) (by decide) (by decide) (by decide) (by omega) (by omega), h5 10 (by decide) (by decide) (by decide) (by decide) (by decide) (by decide) (by decide) (by omega) (by omega)] at n1
          rw [m3] at n2
          rw [m4] at n3
          have b48 : β 48 = σ 48 := by rw [n4 48 (by decide) (by decide) (by decide) (by decide) (by decide) (by decide)]; exact h5 48 (by decide) (by decide) (by decide) (by decide) (by decide) (by decide) (by decide) (by omega) (by omega)
          refine w_aload_n dX6_book_113 rfl ?_
          refine gf_X6_26 rfl dX6_book_114 ?_
          refine w_iload_n dX6_book_117 rfl ?_
          refine w_aload_n dX6_book_118 rfl ?_
          refine gf_X6_19 rfl dX6_book_119 ?_
          refine gf_X6_84 rfl dX6_book_122 ?_
          refine w_iload_n dX6_book_125 rfl ?_
          refine w_iald rfl (by omega) dX6_book_126 ?_
          refine cv_X6_87 rfl dX6_book_127 (Nat.le_of_ble_eq_true rfl) (Nat.le_of_ble_eq_true rfl) (Wp.mono (ct_share _ g (β 48 g) (by rw [n2]; omega) (fun j j0 j1 => by rw [n2] at j1; rw [(n1 j j0 (by omega)).2.1]; have := (hI.cp2 (p := p) (w := w) ⟨hp0, hp1⟩ (by omega) (by omega)).2.2.2 j j0 j1; dsimp only at this; omega) (by rw [b48]; exact hI.gr g (by omega) (by omega)) hg) (fun z_ τ_ hq_ => ?_))
          obtain ⟨γ, hγ⟩ : ∃ υ, υ = τ_ := ⟨_, rfl⟩
          rw [← hγ] at hq_ ⊢
          clear hγ
          have hsg := hq_
          have hlg : ∀ es, RepC σ es → RepC γ (es ++ (mvL (del (υ3 14) p) (σ 11) (σ 0 6)).map (mvE (σ 9) (σ 11) (del (υ3 14) p))) := fun es he => ((m7 es (he.keep (h4 3 (by decide) (by omega)) (h4 49 (by decide) (by omega)))).keep (n4 3 (by decide) (by decide) (by decide) (by decide) (by decide) (by decide)) (n4 49 (by decide) (by decide) (by decide) (by decide) (by decide) (by decide))).keep (hsg.fr (by decide) (by decide)) (hsg.fr (by decide) (by decide))
          refine w_aload_n dX6_book_130 rfl ?_
          refine gf_X6_47 rfl dX6_book_131 ?_
          refine w_iconst dX6_book_134 ?_
          refine w_iload_n dX6_book_135 rfl ?_
          refine w_iload_n dX6_book_136 rfl ?_
          refine w_iconst dX6_book_137 ?_
          refine w_iload dX6_book_138 rfl ?_
          refine cv_X6_119 rfl dX6_book_140 (Nat.le_of_ble_eq_true rfl) (Nat.le_of_ble_eq_true rfl) (Wp.mono (ct_X3_write _ 0 p w (-1) (υ3 14 p) (hlg es0 hes0).1 (hlg es0 hes0).cnt (by omega) (by omega) hw (by omega) hgo) (fun z_ τ_ hq_ => ?_))
          obtain ⟨δ, hδ⟩ : ∃ υ, υ = τ_ := ⟨_, rfl⟩
          rw [← hδ] at hq_ ⊢
          clear hδ
          refine w_iload_n dX6_book_143 rfl ?_
          refine w_iret dX6_book_144 rfl ?_
          refine ⟨fun nok => absurd nok (by omega), fun _ => ⟨p, L, hnp, j1, Or.inr ⟨by omega, rfl, υ3 15, υ3 14, β, γ, ?_, ?_, ?_, by rw [← b48]; exact hsg, ?_, ?_⟩⟩⟩
          · rcases j3 with j3 | j3
            · exact j3.2.2.1.move (by omega) hcv hbv
            · omega
          · rcases j3 with j3 | j3
            · exact j3.2.2.2
            · omega
          · refine ⟨fun j j0 j1 => ?_, n2, n3, ?_, ?_, fun k k0 k1 k3 k4 k49 k5 k6 => ?_⟩
            · have r := n1 j j0 j1
              refine ⟨r.1, r.2.1, r.2.2.1, ?_, ?_⟩
              · rw [r.2.2.2.1, ← ins_del (go := υ3 14) (p := p) (j := j)]
                exact insc _ _ _ (fun x x0 x1 => by rw [m1 x x0 x1]; exact l1 x x0 x1) j j0 (by omega)
              · rw [r.2.2.2.2]
                exact insc _ _ _ (fun x x0 x1 => by rw [m2 x x0 x1, l1 x x0 x1]) j j0 (by omega)
            · rw [n4 4 (by decide) (by decide) (by decide) (by decide) (by decide) (by decide)]; exact m5
            · rw [n4 4 (by decide) (by decide) (by decide) (by decide) (by decide) (by decide)]; exact m6
            · rw [n4 k k0 (by omega) (by omega) (by omega) (by omega) (by omega)]; exact h5 k k0 k1 k3 k4 (by omega) (by omega) k49 (by omega) k6
          · intro es he
            refine (hlg es he).app _ ?_ ?_ ?_
            · rw [hq_]; simp [put_eq]
            · rw [hq_]; simp [put_eq]
            · rw [hq_]; funext j; simp only [put_eq, upF]; simp
          · intro k k3 k49
            rw [hq_, put_ne k3, put_ne k3, put_ne k49, put_ne k49, put_ne k49, put_ne k49, put_ne k49]
        · refine w_iconst dX6_book_76 ?_
          refine w_iret dX6_book_77 rfl ?_
          refine ⟨fun nok => absurd nok (by omega), fun _ => ⟨p, L, hnp, j1, Or.inl ⟨by omega, rfl, h3⟩⟩⟩
      · refine w_iconst dX6_book_30 ?_
        refine w_iret dX6_book_31 rfl ?_
        exact ⟨fun _ => ⟨rfl, rfl⟩, fun ok => absurd ok (by omega)⟩

