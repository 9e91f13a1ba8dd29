def GoodM (c : CP) (n : Int) (τ : St) (s f : Int) : Prop := IsMn c n (fun b => τ 67 (61 * (s + 1) + b)) s f (τ 67 (61 * s + f)) ∧ 0 ≤ τ 67 (61 * s + f) ∧ τ 67 (61 * s + f) ≤ 1000000000
def BaseM (τ : St) (ns n : Int) : Prop := ∀ b, 0 ≤ b → b ≤ n → τ 67 (61 * ns + b) = if b = n then 0 else 1000000000
theorem GoodM.keep {c : CP} {n s f : Int} {τ υ : St} (hf : 0 ≤ f) (h : GoodM c n τ s f) (e1 : ∀ b, f ≤ b → b ≤ n → υ 67 (61 * (s + 1) + b) = τ 67 (61 * (s + 1) + b)) (e2 : υ 67 (61 * s + f) = τ 67 (61 * s + f)) : GoodM c n υ s f := by
  unfold GoodM
  rw [e2]
  exact ⟨h.1.congr hf (fun b b0 b1 => (e1 b b0 b1).symm), h.2⟩

set_option maxRecDepth 100000 in
set_option maxHeartbeats 4000000 in
theorem cm_cutsB (σ : St) (y : Int) (x2 : Option PV) (hc : CPok ((σ 57, σ 58, σ 61, σ 69, σ 62) : CP) (σ 7 1) (σ 7 6)) : Wp mX7_cuts 2 (fun z τ => ∃ L, TblL ((σ 57, σ 58, σ 61, σ 69, σ 62) : CP) (σ 7 1) (σ 7 6) L ∧ L 0 0 = τ 67 0 ∧ ((z = 1 ∧ L 0 0 < 1000000000 ∧ IsCut ((σ 57, σ 58, σ 61, σ 69, σ 62) : CP) (σ 7 1) (σ 7 6) L (τ 68)) ∨ (z = 0 ∧ 1000000000 ≤ L 0 0)) ∧ ∀ k, k ≠ 67 → k ≠ 68 → τ k = σ k) 41 [some (.inr 7), some (.inl y), x2, none, none] [] σ := by
  refine Wp.rg (fun hR => ?_)
  have hns := hc.1
  have hn := hc.2.1
  refine w_iconst dX7_cuts_41 ?_
  refine w_istore_n dX7_cuts_42 (Nat.le_of_ble_eq_true rfl) ?_
  refine up_to ((σ 7 6) + 1) (fun i => 0 ≤ i → ∀ (τ : St), ((∀ b, 0 ≤ b → b < i → τ 67 (61 * σ 7 1 + b) = if b = (σ 7 6) then 0 else 1000000000) ∧ ∀ k, k ≠ 67 → τ k = σ k) → Wp mX7_cuts 2 (fun z τ => ∃ L, TblL ((σ 57, σ 58, σ 61, σ 69, σ 62) : CP) (σ 7 1) (σ 7 6) L ∧ L 0 0 = τ 67 0 ∧ ((z = 1 ∧ L 0 0 < 1000000000 ∧ IsCut ((σ 57, σ 58, σ 61, σ 69, σ 62) : CP) (σ 7 1) (σ 7 6) L (τ 68)) ∨ (z = 0 ∧ 1000000000 ≤ L 0 0)) ∧ ∀ k, k ≠ 67 → k ≠ 68 → τ k = σ k) 43 [some (.inr 7), some (.inl y), some (.inl i), none, none] [] τ) (fun i hi ih h0 τ hinv => ?_) (0) (by omega) (by omega) σ ⟨fun b b0 b1 => by omega, fun k _ => rfl⟩
  obtain ⟨q1, q2⟩ := hinv
  have e7 : τ 7 = σ 7 := q2 7 (by decide)
  refine w_iload_n dX7_cuts_43 rfl ?_
  refine w_aload_n dX7_cuts_44 rfl ?_
  refine gf_X7_81 rfl dX7_cuts_45 ?_
  refine w_icmp_gt (tgt := 85) dX7_cuts_48 (by decide) (by omega) (by rw [e7]; omega) (fun c_48 => ?_) (fun c_48 => ?_)
  · rw [e7] at c_48
    refine w_aload_n dX7_cuts_85 rfl ?_
    refine gf_X7_71 rfl dX7_cuts_86 ?_
    refine w_iconst dX7_cuts_89 ?_
    refine w_isub dX7_cuts_90 ?_
    refine w_istore_n dX7_cuts_91 (Nat.le_of_ble_eq_true rfl) ?_
    rw [e7]
    refine down_to (-1) (fun i => i < σ 7 1 → ∀ (θ : St) (x3 : Option PV), (BaseM θ (σ 7 1) (σ 7 6) ∧ (∀ s, i < s → s < (σ 7 1) → ∀ f, 0 ≤ f → f ≤ (σ 7 6) → GoodM ((σ 57, σ 58, σ 61, σ 69, σ 62) : CP) (σ 7 6) θ s f) ∧ ∀ k, k ≠ 67 → θ k = σ k) → Wp mX7_cuts 2 (fun z τ => ∃ L, TblL ((σ 57, σ 58, σ 61, σ 69, σ 62) : CP) (σ 7 1) (σ 7 6) L ∧ L 0 0 = τ 67 0 ∧ ((z = 1 ∧ L 0 0 < 1000000000 ∧ IsCut ((σ 57, σ 58, σ 61, σ 69, σ 62) : CP) (σ 7 1) (σ 7 6) L (τ 68)) ∨ (z = 0 ∧ 1000000000 ≤ L 0 0)) ∧ ∀ k, k ≠ 67 → k ≠ 68 → τ k = σ k) 92 [some (.inr 7), some (.inl y), some (.inl i), x3, none] [] θ) (fun i hi ih h0 θ x3 hinv => ?_) (σ 7 1 - 1) (by omega) (by omega) _ _ ⟨fun b b0 b1 => q1 b b0 (by omega), fun s s0 s1 => by omega, q2⟩
    obtain ⟨w1, w2, w3⟩ := hinv
    refine Wp.rg (fun hR3 => ?_)
    refine w_iload_n dX7_cuts_92 rfl ?_
    refine w_if_lt (tgt := 124) dX7_cuts_93 (by decide) (by omega) (fun c_93 => ?_) (fun c_93 => ?_)
    · have hT : TblL ((σ 57, σ 58, σ 61, σ 69, σ 62) : CP) (σ 7 1) (σ 7 6) (fun s b => θ 67 (61 * s + b)) := ⟨w1, fun s s0 s1 f f0 f1 => (w2 s (by omega) s1 f f0 f1).1⟩
      refine w_aload_n dX7_cuts_124 rfl ?_
      refine gf_X7_44 rfl dX7_cuts_125 ?_
      refine w_iconst dX7_cuts_128 ?_
      refine w_iald rfl (by omega) dX7_cuts_129 ?_
      refine w_ldc (n := 1000000000) dX7_cuts_130 tw_846 ?_
      refine w_icmp_lt (tgt := 137) dX7_cuts_132 (by decide) (hR3 _ _) (by omega) (fun c_132 => ?_) (fun c_132 => ?_)
      · have hlt : (fun s b => θ 67 (61 * s + b)) 0 0 < 1000000000 := c_132
        replace w2 : ∀ s, 0 ≤ s → s < σ 7 1 → ∀ f, 0 ≤ f → f ≤ σ 7 6 → GoodM ((σ 57, σ 58, σ 61, σ 69, σ 62) : CP) (σ 7 6) θ s f := fun s s0 s1 => w2 s (by omega) s1
        refine w_iconst dX7_cuts_137 ?_
        refine w_istore_n dX7_cuts_138 (Nat.le_of_ble_eq_true rfl) ?_
        refine w_iconst dX7_cuts_139 ?_
        refine w_istore_n dX7_cuts_140 (Nat.le_of_ble_eq_true rfl) ?_
        refine up_to ((σ 7 1)) (fun i => 0 ≤ i → ∀ (τ : St) (b : Int) (x4 : Option PV), ((∀ s, 0 ≤ s → s < i → IsMost ((σ 57, σ 58, σ 61, σ 69, σ 62) : CP) (σ 7 6) ((fun s b => θ 67 (61 * s + b)) (s + 1)) s (sumF (τ 68) 0 s) ((fun s b => θ 67 (61 * s + b)) s (sumF (τ 68) 0 s)) (τ 68 s)) ∧ b = sumF (τ 68) 0 i ∧ 0 ≤ b ∧ b ≤ (σ 7 6) ∧ (fun s b => θ 67 (61 * s + b)) i b < 1000000000 ∧ ∀ k, k ≠ 68 → τ k = θ k) → Wp mX7_cuts 2 (fun z τ => ∃ L, TblL ((σ 57, σ 58, σ 61, σ 69, σ 62) : CP) (σ 7 1) (σ 7 6) L ∧ L 0 0 = τ 67 0 ∧ ((z = 1 ∧ L 0 0 < 1000000000 ∧ IsCut ((σ 57, σ 58, σ 61, σ 69, σ 62) : CP) (σ 7 1) (σ 7 6) L (τ 68)) ∨ (z = 0 ∧ 1000000000 ≤ L 0 0)) ∧ ∀ k, k ≠ 67 → k ≠ 68 → τ k = σ k) 141 [some (.inr 7), some (.inl y), some (.inl b), some (.inl i), x4] [] τ) (fun i hi ih h0 τ b x4 hinv => ?_) (0) (by omega) (by omega) θ 0 _ ⟨fun s s0 s1 => by omega, rfl, by omega, by omega, hlt, fun k _ => rfl⟩
        obtain ⟨p1, p2, p3, p4, p5, p6⟩ := hinv
        have t67 : τ 67 = θ 67 := p6 67 (by decide)
        have t7 : τ 7 = σ 7 := by rw [p6 7 (by decide)]; exact w3 7 (by decide)
        have t57 : τ 57 = σ 57 := by rw [p6 57 (by decide)]; exact w3 57 (by decide)
        have t58 : τ 58 = σ 58 := by rw [p6 58 (by decide)]; exact w3 58 (by decide)
        have t61 : τ 61 = σ 61 := by rw [p6 61 (by decide)]; exact w3 61 (by decide)
        have t62 : τ 62 = σ 62 := by rw [p6 62 (by decide)]; exact w3 62 (by decide)
        have t69 : τ 69 = σ 69 := by rw [p6 69 (by decide)]; exact w3 69 (by decide)
        dsimp only at p5
        refine Wp.rg (fun hR2 => ?_)
        refine w_iload_n dX7_cuts_141 rfl ?_
        refine w_aload_n dX7_cuts_142 rfl ?_
        refine gf_X7_71 rfl dX7_cuts_143 ?_
        refine w_icmp_ge (tgt := 242) dX7_cuts_146 (by decide) (by omega) (by rw [t7]; omega) (fun c_146 => ?_) (fun c_146 => ?_)
        · refine w_iconst dX7_cuts_242 ?_
          refine w_zret dX7_cuts_243 rfl (by omega) ?_
          rw [t7] at c_146
          refine ⟨(fun s b => θ 67 (61 * s + b)), hT, by rw [t67]; rfl, Or.inl ⟨rfl, hlt, fun s s0 s1 => p1 s s0 (by omega)⟩, fun k k67 k68 => by rw [p6 k k68]; exact w3 k k67⟩
        · rw [t7] at c_146
          refine w_aload_n dX7_cuts_149 rfl ?_
          refine w_iload_n dX7_cuts_150 rfl ?_
          refine w_iload_n dX7_cuts_151 rfl ?_
          refine cv_X7_110 rfl dX7_cuts_152 (Nat.le_of_ble_eq_true rfl) (Nat.le_of_ble_eq_true rfl) (Wp.mono (cm_mostOn τ i b (by omega) (by rw [t7]; omega) (by rw [t57]; have := hc.2.2.1 i h0 c_146; dsimp only at this; omega) (fun x x0 x1 => by rw [t7] at x1; rw [t69]; have := hc.2.2.2 x x0 x1; dsimp only at this; omega)) (fun z_ τ_ hq_ => ?_))
          obtain ⟨hd, hs_⟩ := hq_
          rw [t57, t58, t69, t7] at hd
          subst τ_
          generalize z_ = M at hd
          have hM0 := hd.1
          have hM1 := hd.2.1
          have hfit : ∀ m, fitP ((σ 57, σ 58, σ 61, σ 69, σ 62) : CP) (σ 7 6) i b m ↔ 0 ≤ m ∧ m ≤ M := fun m => fit_iff (c := ((σ 57, σ 58, σ 61, σ 69, σ 62) : CP)) (fun x x0 x1 => by have := hc.2.2.2 x (by omega) x1; dsimp only at this ⊢; omega) hd
          refine w_istore dX7_cuts_155 (Nat.le_of_ble_eq_true rfl) ?_
          refine down_to (-1) (fun m => m ≤ M → (∀ m2, m < m2 → m2 ≤ M → θ 67 (61 * i + b) ≠ owP ((σ 57, σ 58, σ 61, σ 69, σ 62) : CP) i b m2 + θ 67 (61 * (i + 1) + (b + m2))) → Wp mX7_cuts 2 (fun z τ => ∃ L, TblL ((σ 57, σ 58, σ 61, σ 69, σ 62) : CP) (σ 7 1) (σ 7 6) L ∧ L 0 0 = τ 67 0 ∧ ((z = 1 ∧ L 0 0 < 1000000000 ∧ IsCut ((σ 57, σ 58, σ 61, σ 69, σ 62) : CP) (σ 7 1) (σ 7 6) L (τ 68)) ∨ (z = 0 ∧ 1000000000 ≤ L 0 0)) ∧ ∀ k, k ≠ 67 → k ≠ 68 → τ k = σ k) 157 [some (.inr 7), some (.inl y), some (.inl b), some (.inl i), some (.inl m)] [] τ) (fun m hi3 ih3 hi3b hinv3 => ?_) M (by omega) (by omega) (fun m2 a0 a1 => by omega)
          have hm0 : 0 ≤ m := by
            obtain ⟨-, ms, hms, hmv⟩ := (w2 i h0 (by omega) b (by omega) (by omega)).1
            have hms2 := (hfit ms).mp hms
            by_cases q : ms ≤ m
            · omega
            · exact absurd hmv (hinv3 ms (by omega) hms2.2)
          have hob := owP_bd hc i (f := b) (m := m) (by omega) (by omega) (by omega)
          have hrb : 0 ≤ θ 67 (61 * (i + 1) + (b + m)) ∧ θ 67 (61 * (i + 1) + (b + m)) ≤ 1000000000 := hT.bd hc (i + 1) (by omega) (by omega) (b + m) (by omega) (by omega)
          rw [← t67] at hrb
          refine w_aload_n dX7_cuts_157 rfl ?_
          refine gf_X7_44 rfl dX7_cuts_158 ?_
          refine w_aload_n dX7_cuts_161 rfl ?_
          refine w_iload_n dX7_cuts_162 rfl ?_
          refine w_iconst dX7_cuts_163 ?_
          refine w_iadd dX7_cuts_164 ?_
          refine w_iload_n dX7_cuts_165 rfl ?_
          refine w_iload dX7_cuts_166 rfl ?_
          refine w_iadd dX7_cuts_168 ?_
          refine cv_X7_101 rfl dX7_cuts_169 (Nat.le_of_ble_eq_true rfl) (Nat.le_of_ble_eq_true rfl) (Wp.mono (cm_cell τ (i + 1) (b + m)) (fun z_ τ_ hq_ => ?_))
          obtain ⟨hz_, hs_⟩ := hq_
          subst z_
          subst τ_
          refine w_iald rfl (by omega) dX7_cuts_172 ?_
          refine w_ldc (n := 1000000000) dX7_cuts_173 tw_846 ?_
          refine w_icmp_ge (tgt := 217) dX7_cuts_175 (by decide) (hR2 _ _) (by omega) (fun c_175 => ?_) (fun c_175 => ?_)
          · refine w_iinc dX7_cuts_217 (Nat.le_of_ble_eq_true rfl) rfl ?_
            refine w_goto (tgt := 157) dX7_cuts_220 (by decide) ?_
            refine ih3 (by omega) (by omega) (fun m2 a0 a1 => ?_)
            by_cases e : m2 = m
            · subst e
              rw [t67] at *
              first
              | omega
              | (intro q; exact c_214 q.symm)
            · exact hinv3 m2 (by omega) a1
          · refine w_aload_n dX7_cuts_178 rfl ?_
            refine w_iload_n dX7_cuts_179 rfl ?_
            refine w_iload_n dX7_cuts_180 rfl ?_
            refine w_iload dX7_cuts_181 rfl ?_
            refine cv_X7_113 rfl dX7_cuts_183 (Nat.le_of_ble_eq_true rfl) (Nat.le_of_ble_eq_true rfl) (Wp.mono (cm_costOf τ (σ 57) (σ 69) i b m (by omega) (by omega)) (fun z_ τ_ hq_ => ?_))
            obtain ⟨hz_, hs_⟩ := hq_
            rw [t58, t61, t62] at hz_
            subst z_
            subst τ_
            refine w_aload_n dX7_cuts_186 rfl ?_
            refine gf_X7_44 rfl dX7_cuts_187 ?_
            refine w_aload_n dX7_cuts_190 rfl ?_
            refine w_iload_n dX7_cuts_191 rfl ?_
            refine w_iconst dX7_cuts_192 ?_
            refine w_iadd dX7_cuts_193 ?_
            refine w_iload_n dX7_cuts_194 rfl ?_
            refine w_iload dX7_cuts_195 rfl ?_
            refine w_iadd dX7_cuts_197 ?_
            refine cv_X7_101 rfl dX7_cuts_198 (Nat.le_of_ble_eq_true rfl) (Nat.le_of_ble_eq_true rfl) (Wp.mono (cm_cell τ (i + 1) (b + m)) (fun z_ τ_ hq_ => ?_))
            obtain ⟨hz_, hs_⟩ := hq_
            subst z_
            subst τ_
            refine w_iald rfl (by omega) dX7_cuts_201 ?_
            refine w_iadd dX7_cuts_202 ?_
            refine w_aload_n dX7_cuts_203 rfl ?_
            refine gf_X7_44 rfl dX7_cuts_204 ?_
            refine w_aload_n dX7_cuts_207 rfl ?_
            refine w_iload_n dX7_cuts_208 rfl ?_
            refine w_iload_n dX7_cuts_209 rfl ?_
            refine cv_X7_101 rfl dX7_cuts_210 (Nat.le_of_ble_eq_true rfl) (Nat.le_of_ble_eq_true rfl) (Wp.mono (cm_cell τ i b) (fun z_ τ_ hq_ => ?_))
            obtain ⟨hz_, hs_⟩ := hq_
            subst z_
            subst τ_
            refine w_iald rfl (by omega) dX7_cuts_213 ?_
            refine w_icmp_eq (tgt := 223) dX7_cuts_214 (by decide) (by omega) (hR2 _ _) (fun c_214 => ?_) (fun c_214 => ?_)
            · refine w_aload_n dX7_cuts_223 rfl ?_
              refine gf_X7_47 rfl dX7_cuts_224 ?_
              refine w_iload_n dX7_cuts_227 rfl ?_
              refine w_iload dX7_cuts_228 rfl ?_
              refine w_iast rfl (by omega) (by omega) dX7_cuts_230 ?_
              refine w_iload_n dX7_cuts_231 rfl ?_
              refine w_iload dX7_cuts_232 rfl ?_
              refine w_iadd dX7_cuts_234 ?_
              refine w_istore_n dX7_cuts_235 (Nat.le_of_ble_eq_true rfl) ?_
              refine w_iinc dX7_cuts_236 (Nat.le_of_ble_eq_true rfl) rfl ?_
              refine w_goto (tgt := 141) dX7_cuts_239 (by decide) ?_
              rw [t67] at c_175 c_214
              refine ih (by omega) (by omega) _ _ _ ⟨fun s s0 s1 => ?_, ?_, by omega, by omega, ?_, fun k hk => by rw [put_ne hk]; exact p6 k hk⟩
              · rw [put_row]
                by_cases e : s = i
                · subst e
                  rw [pos_put _ _ _ (by omega), ← p2]
                  unfold upF
                  rw [if_pos rfl]
                  exact ⟨(hfit m).mpr ⟨hm0, hi3b⟩, c_214.symm, fun m2 a0 a1 => hinv3 m2 a0 ((hfit m2).mp a1).2⟩
                · rw [pos_put _ _ _ (by omega)]
                  unfold upF
                  rw [if_neg e]
                  exact p1 s s0 (by omega)
              · rw [put_row, pos_s _ h0, pos_put _ _ _ (by omega), ← p2]
                unfold upF
                rw [if_pos rfl]
              · show θ 67 (61 * (i + 1) + (b + m)) < 1000000000
                omega
            · refine w_iinc dX7_cuts_217 (Nat.le_of_ble_eq_true rfl) rfl ?_
              refine w_goto (tgt := 157) dX7_cuts_220 (by decide) ?_
              refine ih3 (by omega) (by omega) (fun m2 a0 a1 => ?_)
              by_cases e : m2 = m
              · subst e
                rw [t67] at *
                first
                | omega
                | (intro q; exact c_214 q.symm)
              · exact hinv3 m2 (by omega) a1
      · refine w_iconst dX7_cuts_135 ?_
        refine w_zret dX7_cuts_136 rfl (by omega) ?_
        exact ⟨(fun s b => θ 67 (61 * s + b)), hT, rfl, Or.inr ⟨rfl, c_132⟩, fun k k67 _ => w3 k k67⟩
    · refine w_iconst dX7_cuts_96 ?_
      refine w_istore_n dX7_cuts_97 (Nat.le_of_ble_eq_true rfl) ?_
      refine up_to ((σ 7 6) + 1) (fun j => 0 ≤ j → ∀ (τ : St), (BaseM τ (σ 7 1) (σ 7 6) ∧ (∀ s, i < s → s < (σ 7 1) → ∀ f, 0 ≤ f → f ≤ (σ 7 6) → GoodM ((σ 57, σ 58, σ 61, σ 69, σ 62) : CP) (σ 7 6) τ s f) ∧ (∀ f, 0 ≤ f → f < j → GoodM ((σ 57, σ 58, σ 61, σ 69, σ 62) : CP) (σ 7 6) τ i f) ∧ ∀ k, k ≠ 67 → τ k = σ k) → Wp mX7_cuts 2 (fun z τ => ∃ L, TblL ((σ 57, σ 58, σ 61, σ 69, σ 62) : CP) (σ 7 1) (σ 7 6) L ∧ L 0 0 = τ 67 0 ∧ ((z = 1 ∧ L 0 0 < 1000000000 ∧ IsCut ((σ 57, σ 58, σ 61, σ 69, σ 62) : CP) (σ 7 1) (σ 7 6) L (τ 68)) ∨ (z = 0 ∧ 1000000000 ≤ L 0 0)) ∧ ∀ k, k ≠ 67 → k ≠ 68 → τ k = σ k) 98 [some (.inr 7), some (.inl y), some (.inl i), some (.inl j), none] [] τ) (fun j hi2 ih2 h02 τ hinv2 => ?_) (0) (by omega) (by omega) _ ⟨w1, w2, fun f f0 f1 => by omega, w3⟩
      obtain ⟨r1, r2, r3, r4⟩ := hinv2
      have u7 : τ 7 = σ 7 := r4 7 (by decide)
      have u57 : τ 57 = σ 57 := r4 57 (by decide)
      have u58 : τ 58 = σ 58 := r4 58 (by decide)
      have u61 : τ 61 = σ 61 := r4 61 (by decide)
      have u62 : τ 62 = σ 62 := r4 62 (by decide)
      have u69 : τ 69 = σ 69 := r4 69 (by decide)
      refine w_iload_n dX7_cuts_98 rfl ?_
      refine w_aload_n dX7_cuts_99 rfl ?_
      refine gf_X7_81 rfl dX7_cuts_100 ?_
      refine w_icmp_gt (tgt := 118) dX7_cuts_103 (by decide) (by omega) (by rw [u7]; omega) (fun c_103 => ?_) (fun c_103 => ?_)
      · refine w_iinc dX7_cuts_118 (Nat.le_of_ble_eq_true rfl) rfl ?_
        refine w_goto (tgt := 92) dX7_cuts_121 (by decide) ?_
        rw [u7] at c_103
        refine ih (by omega) (by omega) _ _ ⟨r1, ?_, r4⟩
        intro s s0 s1 f f0 f1
        by_cases q : s = i
        · subst q; exact r3 f f0 (by omega)
        · exact r2 s (by omega) s1 f f0 f1
      · have hrow : ∀ b, j ≤ b → b ≤ τ 7 6 → 0 ≤ (fun b => τ 67 (61 * (i + 1) + b)) b ∧ (fun b => τ 67 (61 * (i + 1) + b)) b ≤ 1000000000 := by
          rw [u7]
          dsimp only
          intro b b0 b1
          by_cases q : i + 1 = σ 7 1
          · rw [q, r1 b (by omega) b1]
            split <;> omega
          · exact (r2 (i + 1) (by omega) (by omega) b (by omega) b1).2
        refine w_aload_n dX7_cuts_106 rfl ?_
        refine w_iload_n dX7_cuts_107 rfl ?_
        refine w_iload_n dX7_cuts_108 rfl ?_
        refine cv_X7_106 rfl dX7_cuts_109 (Nat.le_of_ble_eq_true rfl) (Nat.le_of_ble_eq_true rfl) (Wp.mono (cm_laysLeast τ i j (by rw [u57, u58, u61, u69, u62, u7]; exact hc) (by rw [u7]; omega) (by rw [u7] at c_103 ⊢; omega) hrow) (fun z_ τ_ hq_ => ?_))
        obtain ⟨v, g1, g3, g4, hs_⟩ := hq_
        rw [u57, u58, u61, u69, u62, u7] at g1
        subst τ_
        rw [u7] at c_103
        refine w_iinc dX7_cuts_112 (Nat.le_of_ble_eq_true rfl) rfl ?_
        refine w_goto (tgt := 98) dX7_cuts_115 (by decide) ?_
        refine ih2 (by omega) (by omega) _ ⟨?_, ?_, ?_, ?_⟩
        · intro b b0 b1
          rw [put_eq, if_pos rfl, if_neg (by omega)]
          exact r1 b b0 b1
        · intro s s0 s1 f f0 f1
          refine (r2 s s0 s1 f f0 f1).keep f0 (fun b b0 b1 => ?_) ?_
          · rw [put_eq, if_pos rfl, if_neg (by omega)]
          · rw [put_eq, if_pos rfl, if_neg (by omega)]
        · intro f f0 f1
          by_cases q : f = j
          · subst q
            unfold GoodM
            have a1 : put τ 67 (61 * i + f) v 67 (61 * i + f) = v := by simp [put_eq]
            rw [a1]
            refine ⟨g1.congr f0 (fun b b0 b1 => ?_), g3, g4⟩
            rw [put_eq, if_pos rfl, if_neg (by omega)]
          · refine (r3 f f0 (by omega)).keep f0 (fun b b0 b1 => ?_) ?_
            · rw [put_eq, if_pos rfl, if_neg (by omega)]
            · rw [put_eq, if_pos rfl, if_neg (by omega)]
        · intro k hk
          rw [put_ne hk]
          exact r4 k hk
  · refine w_aload_n dX7_cuts_51 rfl ?_
    refine gf_X7_44 rfl dX7_cuts_52 ?_
    refine w_aload_n dX7_cuts_55 rfl ?_
    refine w_aload_n dX7_cuts_56 rfl ?_
    refine gf_X7_71 rfl dX7_cuts_57 ?_
    refine w_iload_n dX7_cuts_60 rfl ?_
    refine cv_X7_101 rfl dX7_cuts_61 (Nat.le_of_ble_eq_true rfl) (Nat.le_of_ble_eq_true rfl) (Wp.mono (cm_cell τ (τ 7 1) i) (fun z_ τ_ hq_ => ?_))
    obtain ⟨hz_, hs_⟩ := hq_
    subst z_
    subst τ_
    refine w_iload_n dX7_cuts_64 rfl ?_
    refine w_aload_n dX7_cuts_65 rfl ?_
    refine gf_X7_81 rfl dX7_cuts_66 ?_
    refine w_icmp_ne (tgt := 76) dX7_cuts_69 (by decide) (by omega) (by rw [e7]; omega) (fun c_69 => ?_) (fun c_69 => ?_)
    · refine w_ldc (n := 1000000000) dX7_cuts_76 tw_846 ?_
      refine w_iast rfl (by rw [e7] at c_48 ⊢; omega) (by omega) dX7_cuts_78 ?_
      refine w_iinc dX7_cuts_79 (Nat.le_of_ble_eq_true rfl) rfl ?_
      refine w_goto (tgt := 43) dX7_cuts_82 (by decide) ?_
      rw [e7] at c_48 c_69 ⊢
      refine ih (by omega) (by omega) _ ⟨fun b b0 b1 => ?_, fun k hk => by rw [put_ne hk]; exact q2 k hk⟩
      rw [put_eq, if_pos rfl]
      by_cases q : b = i
      · rw [if_pos (by omega)]
        first | (rw [if_pos (by omega)]) | (rw [if_neg (by omega)])
      · rw [if_neg (by omega)]; exact q1 b b0 (by omega)
    · refine w_iconst dX7_cuts_72 ?_
      refine w_goto (tgt := 78) dX7_cuts_73 (by decide) ?_
      refine w_iast rfl (by rw [e7] at c_48 ⊢; omega) (by omega) dX7_cuts_78 ?_
      refine w_iinc dX7_cuts_79 (Nat.le_of_ble_eq_true rfl) rfl ?_
      refine w_goto (tgt := 43) dX7_cuts_82 (by decide) ?_
      rw [e7] at c_48 c_69 ⊢
      refine ih (by omega) (by omega) _ ⟨fun b b0 b1 => ?_, fun k hk => by rw [put_ne hk]; exact q2 k hk⟩
      rw [put_eq, if_pos rfl]
      by_cases q : b = i
      · rw [if_pos (by omega)]
        first | (rw [if_pos (by omega)]) | (rw [if_neg (by omega)])
      · rw [if_neg (by omega)]; exact q1 b b0 (by omega)
/-- what the reference's rows keep to, also with a book that stands nowhere yet -/
def InvW (σ : St) : Prop := (0 ≤ σ 7 1 ∧ σ 7 1 ≤ 12) ∧ (∀ s, 0 ≤ s → s < σ 7 1 → 10 ≤ σ 57 s ∧ σ 57 s ≤ 200 ∧ 0 ≤ σ 58 s ∧ σ 58 s ≤ 2) ∧ (0 ≤ σ 7 4 ∧ σ 7 4 ≤ 8) ∧ (∀ g, 0 ≤ g → g < σ 7 4 → 0 ≤ σ 59 g ∧ σ 59 g ≤ 99) ∧ (0 ≤ σ 7 6 ∧ σ 7 6 ≤ 60) ∧ ∀ b, 0 ≤ b → b < σ 7 6 → 0 ≤ σ 60 b ∧ σ 60 b < σ 7 4 ∧ 1 ≤ σ 61 b ∧ σ 61 b ≤ 40 ∧ -1 ≤ σ 62 b ∧ σ 62 b < σ 7 1
theorem InvW.ns {σ : St} (h : InvW σ) : 0 ≤ σ 7 1 ∧ σ 7 1 ≤ 12 := h.1
theorem InvW.sh {σ : St} (h : InvW σ) : ∀ s, 0 ≤ s → s < σ 7 1 → 10 ≤ σ 57 s ∧ σ 57 s ≤ 200 ∧ 0 ≤ σ 58 s ∧ σ 58 s ≤ 2 := h.2.1
theorem InvW.ng {σ : St} (h : InvW σ) : 0 ≤ σ 7 4 ∧ σ 7 4 ≤ 8 := h.2.2.1
theorem InvW.gr {σ : St} (h : InvW σ) : ∀ g, 0 ≤ g → g < σ 7 4 → 0 ≤ σ 59 g ∧ σ 59 g ≤ 99 := h.2.2.2.1
theorem InvW.nb {σ : St} (h : InvW σ) : 0 ≤ σ 7 6 ∧ σ 7 6 ≤ 60 := h.2.2.2.2.1
theorem InvW.bk {σ : St} (h : InvW σ) : ∀ b, 0 ≤ b → b < σ 7 6 → 0 ≤ σ 60 b ∧ σ 60 b < σ 7 4 ∧ 1 ≤ σ 61 b ∧ σ 61 b ≤ 40 ∧ -1 ≤ σ 62 b ∧ σ 62 b < σ 7 1 := h.2.2.2.2.2
def ndM (σ : St) (b : Int) : Int := ndS (σ 60) (σ 61) (σ 7 6) (σ 60 b) (σ 59 (σ 60 b)) b
theorem InvW.nd {σ : St} (h : InvW σ) {b : Int} (b0 : 0 ≤ b) (b1 : b < σ 7 6) : 0 ≤ ndM σ b ∧ ndM σ b ≤ 1000 := by
  have a := h.bk b b0 b1
  exact nd_bd h.nb (h.gr _ a.1 a.2.1) (fun x x0 x1 => by have := h.bk x x0 x1; omega) b0 b1 rfl
def spM (σ : St) (y : Int) : Int → Int := fun b => σ 61 b + y * ndM σ b
def cpM (σ : St) (y : Int) : CP := (σ 57, σ 58, σ 61, spM σ y, σ 62)
theorem InvW.sp {σ : St} (h : InvW σ) {y : Int} (hy : 0 ≤ y ∧ y ≤ 999) {b : Int} (b0 : 0 ≤ b) (b1 : b < σ 7 6) : 1 ≤ spM σ y b ∧ spM σ y b ≤ 1000000 := by
  have a := h.bk b b0 b1
  have n := h.nd b0 b1
  have h1 : 0 ≤ y * ndM σ b := Int.mul_nonneg hy.1 n.1
  have h2 : y * ndM σ b ≤ 999 * 1000 := Int.le_trans (Int.mul_le_mul_of_nonneg_right hy.2 n.1) (Int.mul_le_mul_of_nonneg_left n.2 (by omega))
  unfold spM
  omega
theorem InvW.cp {σ : St} (h : InvW σ) {y : Int} (hy : 0 ≤ y ∧ y ≤ 999) : CPok (cpM σ y) (σ 7 1) (σ 7 6) := by
  have n1 := h.ns
  refine ⟨h.ns, h.nb, fun s s0 s1 => ?_, fun b b0 b1 => ?_⟩
  · have := h.sh s s0 s1
    exact ⟨by show 0 ≤ σ 57 s; omega, this.2.1, this.2.2⟩
  · have a := h.bk b b0 b1
    have s := h.sp hy b0 b1
    show 1 ≤ σ 61 b ∧ σ 61 b ≤ 40 ∧ 1 ≤ spM σ y b ∧ spM σ y b ≤ 1000000 ∧ -1 ≤ σ 62 b ∧ σ 62 b ≤ 12
    omega
theorem cm_needs (σ : St) (h : InvW σ) : Wp mX7_laysNeeds 1 (fun z τ => (∀ b, 0 ≤ b → b < σ 7 6 → τ 65 b = ndM σ b) ∧ ∀ k, k ≠ 65 → k ≠ 66 → τ k = σ k) 0 [some (.inr 7), none, none, none, none, none] [] σ :=
  cm_laysNeeds σ h.nb h.ng h.gr (fun b b0 b1 => ⟨(h.bk b b0 b1).1, (h.bk b b0 b1).2.1⟩) (fun b b0 b1 => ⟨(h.bk b b0 b1).2.2.1, (h.bk b b0 b1).2.2.2.1⟩)

set_option maxRecDepth 100000 in
set_option maxHeartbeats 4000000 in
theorem cm_cuts (σ : St) (y : Int) (hI : InvW σ) (hy : 0 ≤ y ∧ y ≤ 999) : Wp mX7_cuts 2 (fun z τ => ∃ L, TblL (cpM σ y) (σ 7 1) (σ 7 6) L ∧ L 0 0 = τ 67 0 ∧ ((z = 1 ∧ L 0 0 < 1000000000 ∧ IsCut (cpM σ y) (σ 7 1) (σ 7 6) L (τ 68)) ∨ (z = 0 ∧ 1000000000 ≤ L 0 0)) ∧ ∀ k, (k < 65 ∨ 69 < k) → τ k = σ k) 0 [some (.inr 7), some (.inl y), none, none, none] [] σ := by
  refine Wp.rg (fun hR => ?_)
  refine w_aload_n dX7_cuts_0 rfl ?_
  refine cv_X7_91 rfl dX7_cuts_1 (Nat.le_of_ble_eq_true rfl) (Nat.le_of_ble_eq_true rfl) (Wp.mono (cm_needs σ hI) (fun z_ τ_ hq_ => ?_))
  obtain ⟨f1, f2⟩ := hq_
  refine w_iconst dX7_cuts_4 ?_
  refine w_istore_n dX7_cuts_5 (Nat.le_of_ble_eq_true rfl) ?_
  refine up_to ((σ 7 6)) (fun i => 0 ≤ i → ∀ (τ : St), ((∀ b, 0 ≤ b → b < σ 7 6 → τ 65 b = ndM σ b) ∧ (∀ b, 0 ≤ b → b < i → τ 69 b = spM σ y b) ∧ ∀ k, k ≠ 65 → k ≠ 66 → k ≠ 69 → τ k = σ k) → Wp mX7_cuts 2 (fun z τ => ∃ L, TblL (cpM σ y) (σ 7 1) (σ 7 6) L ∧ L 0 0 = τ 67 0 ∧ ((z = 1 ∧ L 0 0 < 1000000000 ∧ IsCut (cpM σ y) (σ 7 1) (σ 7 6) L (τ 68)) ∨ (z = 0 ∧ 1000000000 ≤ L 0 0)) ∧ ∀ k, (k < 65 ∨ 69 < k) → τ k = σ k) 6 [some (.inr 7), some (.inl y), some (.inl i), none, none] [] τ) (fun i hi ih h0 τ hinv => ?_) (0) (by have := hI.nb; omega) (by omega) _ ⟨f1, fun b b0 b1 => by omega, fun k k1 k2 _ => f2 k k1 k2⟩
  obtain ⟨q1, q2, q3⟩ := hinv
  have hnb := hI.nb
  have e7 : τ 7 = σ 7 := q3 7 (by decide) (by decide) (by decide)
  have e61 : τ 61 = σ 61 := q3 61 (by decide) (by decide) (by decide)
  refine w_iload_n dX7_cuts_6 rfl ?_
  refine w_aload_n dX7_cuts_7 rfl ?_
  refine gf_X7_81 rfl dX7_cuts_8 ?_
  refine w_icmp_ge (tgt := 41) dX7_cuts_11 (by decide) (by omega) (by rw [e7]; omega) (fun c_11 => ?_) (fun c_11 => ?_)
  · rw [e7] at c_11
    have e57 : τ 57 = σ 57 := q3 57 (by decide) (by decide) (by decide)
    have e58 : τ 58 = σ 58 := q3 58 (by decide) (by decide) (by decide)
    have e62 : τ 62 = σ 62 := q3 62 (by decide) (by decide) (by decide)
    have hcv : ∀ s, 0 ≤ s → s < σ 7 1 → ((τ 57, τ 58, τ 61, τ 69, τ 62) : CP).1 s = (cpM σ y).1 s ∧ ((τ 57, τ 58, τ 61, τ 69, τ 62) : CP).2.1 s = (cpM σ y).2.1 s := fun s s0 s1 => by
      show τ 57 s = σ 57 s ∧ τ 58 s = σ 58 s
      rw [e57, e58]; exact ⟨rfl, rfl⟩
    have hbv : ∀ b, 0 ≤ b → b < σ 7 6 → ((τ 57, τ 58, τ 61, τ 69, τ 62) : CP).2.2.1 b = (cpM σ y).2.2.1 b ∧ ((τ 57, τ 58, τ 61, τ 69, τ 62) : CP).2.2.2.1 b = (cpM σ y).2.2.2.1 b ∧ ((τ 57, τ 58, τ 61, τ 69, τ 62) : CP).2.2.2.2 b = (cpM σ y).2.2.2.2 b := fun b b0 b1 => by
      show τ 61 b = σ 61 b ∧ τ 69 b = spM σ y b ∧ τ 62 b = σ 62 b
      rw [e61, e62]; exact ⟨rfl, q2 b b0 (by omega), rfl⟩
    refine Wp.mono (cm_cutsB τ y _ (by rw [e7]; exact (hI.cp hy).move hcv hbv)) (fun z υ hq => ?_)
    obtain ⟨L, g1, g2, g3, g4⟩ := hq
    rw [e7] at g1 g3
    refine ⟨L, g1.move hcv hbv, g2, ?_, fun k hk => ?_⟩
    · rcases g3 with g3 | g3
      · exact Or.inl ⟨g3.1, g3.2.1, g3.2.2.move hI.nb.1 hcv hbv⟩
      · exact Or.inr g3
    · rw [g4 k (by omega) (by omega)]; exact q3 k (by omega) (by omega) (by omega)
  · rw [e7] at c_11
    refine w_aload_n dX7_cuts_14 rfl ?_
    refine gf_X7_50 rfl dX7_cuts_15 ?_
    refine w_iload_n dX7_cuts_18 rfl ?_
    refine w_aload_n dX7_cuts_19 rfl ?_
    refine gf_X7_22 rfl dX7_cuts_20 ?_
    refine w_iload_n dX7_cuts_23 rfl ?_
    refine w_iald rfl (by omega) dX7_cuts_24 ?_
    refine w_iload_n dX7_cuts_25 rfl ?_
    refine w_aload_n dX7_cuts_26 rfl ?_
    refine gf_X7_38 rfl dX7_cuts_27 ?_
    refine w_iload_n dX7_cuts_30 rfl ?_
    refine w_iald rfl (by omega) dX7_cuts_31 ?_
    refine w_imul dX7_cuts_32 ?_
    refine w_iadd dX7_cuts_33 ?_
    refine w_iast rfl (by omega) (by rw [e61, q1 i h0 c_11]; have := hI.sp hy h0 c_11; unfold spM at this; omega) dX7_cuts_34 ?_
    refine w_iinc dX7_cuts_35 (Nat.le_of_ble_eq_true rfl) rfl ?_
    refine w_goto (tgt := 6) dX7_cuts_38 (by decide) ?_
    refine ih (by omega) (by omega) _ ⟨fun b b0 b1 => by rw [put_ne (by decide)]; exact q1 b b0 b1, fun b b0 b1 => ?_, fun k k1 k2 k3 => by rw [put_ne k3]; exact q3 k k1 k2 k3⟩
    rw [put_eq, if_pos rfl]
    by_cases q : b = i
    · rw [if_pos q, e61, q1 i h0 c_11, q]; rfl
    · rw [if_neg q]; exact q2 b b0 (by omega)

set_option maxRecDepth 100000 in
set_option maxHeartbeats 4000000 in
theorem cm_laysGoals (σ : St) (hns : 0 ≤ σ 7 1 ∧ σ 7 1 ≤ 12) (htk : ∀ s, 0 ≤ s → s < σ 7 1 → 0 ≤ σ 68 s) (hsum : sumF (σ 68) 0 (σ 7 1) ≤ 60) : Wp mX7_laysGoals 0 (fun z τ => GoIs (σ 68) (τ 70) (σ 7 1) ∧ ∀ k, k ≠ 70 → τ k = σ k) 0 [some (.inr 7), none, none, none] [] σ := by
  refine Wp.rg (fun hR => ?_)
  have hpm : ∀ s t, 0 ≤ s → s ≤ t → t ≤ σ 7 1 → sumF (σ 68) 0 s ≤ sumF (σ 68) 0 t := fun s t s0 s1 s2 => sumF_mono (n := σ 7 1) (fun k k1 k2 => htk k k1 k2) s0 s1 (by omega)
  refine w_iconst dX7_laysGoals_0 ?_
  refine w_istore_n dX7_laysGoals_1 (Nat.le_of_ble_eq_true rfl) ?_
  refine w_iconst dX7_laysGoals_2 ?_
  refine w_istore_n dX7_laysGoals_3 (Nat.le_of_ble_eq_true rfl) ?_
  refine up_to (σ 7 1) (fun i => 0 ≤ i → ∀ (τ : St) (x3 : Option PV), ((∀ s x, 0 ≤ s → s < i → sumF (σ 68) 0 s ≤ x → x < sumF (σ 68) 0 (s + 1) → τ 70 x = s) ∧ ∀ k, k ≠ 70 → τ k = σ k) → Wp mX7_laysGoals 0 (fun z τ => GoIs (σ 68) (τ 70) (σ 7 1) ∧ ∀ k, k ≠ 70 → τ k = σ k) 4 [some (.inr 7), some (.inl (sumF (σ 68) 0 i)), some (.inl i), x3] [] τ) (fun i hi ih h0 τ x3 hinv => ?_) (0) (by omega) (by omega) σ _ ⟨fun s x s0 s1 => by omega, fun k _ => rfl⟩
  obtain ⟨q1, q2⟩ := hinv
  have e7 : τ 7 = σ 7 := q2 7 (by decide)
  refine w_iload_n dX7_laysGoals_4 rfl ?_
  refine w_aload_n dX7_laysGoals_5 rfl ?_
  refine gf_X7_71 rfl dX7_laysGoals_6 ?_
  refine w_icmp_ge (tgt := 46) dX7_laysGoals_9 (by decide) (by omega) (by rw [e7]; omega) (fun c_9 => ?_) (fun c_9 => ?_)
  · refine w_ret dX7_laysGoals_46 rfl ?_
    rw [e7] at c_9
    exact ⟨fun s x s0 s1 => q1 s x s0 (by omega), q2⟩
  · rw [e7] at c_9
    have hti := htk i h0 c_9
    have hp1 := hpm i (σ 7 1) h0 (by omega) (by omega)
    have hp0 := hpm 0 i (by omega) (by omega) (by omega)
    rw [sumF_0] at hp0
    have hp2 := hpm (i + 1) (σ 7 1) (by omega) (by omega) (by omega)
    rw [pos_s _ h0] at hp2
    refine w_iconst dX7_laysGoals_12 ?_
    refine w_istore_n dX7_laysGoals_13 (Nat.le_of_ble_eq_true rfl) ?_
    rw [show sumF (σ 68) 0 i = sumF (σ 68) 0 i + 0 by omega]
    refine up_to (σ 68 i) (fun j => 0 ≤ j → ∀ (τ : St), ((∀ s x, 0 ≤ s → s < i → sumF (σ 68) 0 s ≤ x → x < sumF (σ 68) 0 (s + 1) → τ 70 x = s) ∧ (∀ x, sumF (σ 68) 0 i ≤ x → x < sumF (σ 68) 0 i + j → τ 70 x = i) ∧ ∀ k, k ≠ 70 → τ k = σ k) → Wp mX7_laysGoals 0 (fun z τ => GoIs (σ 68) (τ 70) (σ 7 1) ∧ ∀ k, k ≠ 70 → τ k = σ k) 14 [some (.inr 7), some (.inl (sumF (σ 68) 0 i + j)), some (.inl i), some (.inl j)] [] τ) (fun j hi2 ih2 h02 τ hinv2 => ?_) (0) (by omega) (by omega) τ ⟨q1, fun x x0 x1 => by omega, q2⟩
    obtain ⟨r1, r2, r3⟩ := hinv2
    have t68 : τ 68 = σ 68 := r3 68 (by decide)
    refine w_iload_n dX7_laysGoals_14 rfl ?_
    refine w_aload_n dX7_laysGoals_15 rfl ?_
    refine gf_X7_47 rfl dX7_laysGoals_16 ?_
    refine w_iload_n dX7_laysGoals_19 rfl ?_
    refine w_iald rfl (by omega) dX7_laysGoals_20 ?_
    refine w_icmp_ge (tgt := 40) dX7_laysGoals_21 (by decide) (by omega) (by rw [t68]; omega) (fun c_21 => ?_) (fun c_21 => ?_)
    · refine w_iinc dX7_laysGoals_40 (Nat.le_of_ble_eq_true rfl) rfl ?_
      refine w_goto (tgt := 4) dX7_laysGoals_43 (by decide) ?_
      rw [t68] at c_21
      rw [show sumF (σ 68) 0 i + j = sumF (σ 68) 0 (i + 1) by rw [pos_s _ h0]; omega]
      refine ih (by omega) (by omega) _ _ ⟨fun s x s0 s1 x0 x1 => ?_, r3⟩
      by_cases e : s = i
      · subst e
        rw [pos_s _ s0] at x1
        exact r2 x x0 (by omega)
      · exact r1 s x s0 (by omega) x0 x1
    · refine w_aload_n dX7_laysGoals_24 rfl ?_
      refine gf_X7_53 rfl dX7_laysGoals_25 ?_
      refine w_iload_n dX7_laysGoals_28 rfl ?_
      refine w_iload_n dX7_laysGoals_29 rfl ?_
      refine w_iast rfl (by omega) (by omega) dX7_laysGoals_30 ?_
      refine w_iinc dX7_laysGoals_31 (Nat.le_of_ble_eq_true rfl) rfl ?_
      refine w_iinc dX7_laysGoals_34 (Nat.le_of_ble_eq_true rfl) rfl ?_
      refine w_goto (tgt := 14) dX7_laysGoals_37 (by decide) ?_
      rw [t68] at c_21
      rw [show sumF (σ 68) 0 i + j + 1 = sumF (σ 68) 0 i + (j + 1) by omega]
      refine ih2 (by omega) (by omega) _ ⟨fun s x s0 s1 x0 x1 => ?_, fun x x0 x1 => ?_, fun k hk => by rw [put_ne hk]; exact r3 k hk⟩
      · have hp := hpm (s + 1) i (by omega) (by omega) (by omega)
        rw [put_eq, if_pos rfl, if_neg (by omega)]
        exact r1 s x s0 s1 x0 x1
      · rw [put_eq, if_pos rfl]
        by_cases e : x = sumF (σ 68) 0 i + j
        · rw [if_pos e]
        · rw [if_neg e]; exact r2 x x0 (by omega)

