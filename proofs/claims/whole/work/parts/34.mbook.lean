def MdM (ρ : St) (go : Int → Int) (l : List Int) (τ : St) : Prop := (∀ b, τ 62 b = if b ∈ l then go b else ρ 62 b) ∧ (∀ b, τ 63 b = if b ∈ l then wr (ρ 63 b + 1) else ρ 63 b) ∧ τ 7 11 = wr (ρ 7 11 + l.length) ∧ (∀ es, RepM ρ es → RepM τ (es ++ l.map (mvE (ρ 61) (ρ 62) go))) ∧ (∀ j, j ≠ 11 → j ≠ 14 → τ 7 j = ρ 7 j) ∧ ∀ k, k ≠ 7 → k ≠ 62 → k ≠ 63 → k ≠ 64 → τ k = ρ k
theorem MdM.z {ρ : St} {go : Int → Int} (h : RgS ρ) : MdM ρ go [] ρ := by
  refine ⟨fun b => by simp, fun b => by simp, ?_, fun es he => by simpa using he, fun j _ _ => rfl, fun k _ _ _ _ => rfl⟩
  rw [show ρ 7 11 + (([] : List Int).length : Int) = ρ 7 11 by simp, wr_of (h 7 11)]
theorem MdM.step {ρ τ υ : St} {go : Int → Int} {l : List Int} {b : Int} (hb : b ∉ l) (h : MdM ρ go l τ) (u1 : ∀ es, RepM τ es → RepM υ (es ++ [(if τ 62 b < go b then 1 else 2, b, τ 61 b, τ 62 b, go b)])) (u2 : υ 62 = upF (τ 62) b (go b)) (u3 : υ 63 = upF (τ 63) b (wr (τ 63 b + 1))) (u4 : υ 7 11 = wr (τ 7 11 + 1)) (u5 : ∀ j, j ≠ 11 → j ≠ 14 → υ 7 j = τ 7 j) (u6 : ∀ k, k ≠ 7 → k ≠ 62 → k ≠ 63 → k ≠ 64 → υ k = τ k) : MdM ρ go (l ++ [b]) υ := by
  obtain ⟨h1, h2, h3, h4, h5, h6⟩ := h
  have hs : τ 62 b = ρ 62 b := by rw [h1, if_neg hb]
  refine ⟨fun x => ?_, fun x => ?_, ?_, fun es he => ?_, fun j j1 j2 => by rw [u5 j j1 j2]; exact h5 j j1 j2, fun k k1 k2 k3 k4 => by rw [u6 k k1 k2 k3 k4]; exact h6 k k1 k2 k3 k4⟩
  · rw [u2]
    unfold upF
    by_cases e : x = b
    · subst e; rw [if_pos rfl, if_pos (by simp)]
    · rw [if_neg e, h1 x]
      by_cases m : x ∈ l
      · rw [if_pos m, if_pos (List.mem_append_left _ m)]
      · rw [if_neg m, if_neg (by simp [m, e])]
  · rw [u3]
    unfold upF
    by_cases e : x = b
    · subst e; rw [if_pos rfl, if_pos (by simp), h2, if_neg hb]
    · rw [if_neg e, h2 x]
      by_cases m : x ∈ l
      · rw [if_pos m, if_pos (List.mem_append_left _ m)]
      · rw [if_neg m, if_neg (by simp [m, e])]
  · rw [u4, h3, wr_add, List.length_append]
    congr 1
    simp
    omega
  · have r := u1 _ (h4 es he)
    rw [List.map_append, ← List.append_assoc]
    rw [hs, h6 61 (by decide) (by decide) (by decide) (by decide)] at r
    exact r

set_option maxRecDepth 100000 in
set_option maxHeartbeats 4000000 in
theorem cm_book216 (θ : St) (p g w s : Int) (x5 : Option PV) (hp : 0 ≤ p ∧ p ≤ θ 7 6 ∧ θ 7 6 < 60) (hg : InR g) (hw : InR w) (hs : InR s) (hcn : 0 ≤ θ 7 14 ∧ θ 7 14 ≤ 40) : Wp mX7_book 3 (fun z τ => z = p ∧ (∀ j, 0 ≤ j → j ≤ θ 7 6 → τ 60 j = ins (θ 60) p g j ∧ τ 61 j = ins (θ 61) p w j ∧ τ 62 j = ins (θ 62) p s j ∧ τ 63 j = ins (θ 63) p 0 j) ∧ τ 7 6 = θ 7 6 + 1 ∧ (∀ es, RepM θ es → RepM τ (es ++ [(0, p, w, -1, s)])) ∧ (∀ j, j ≠ 6 → j ≠ 14 → τ 7 j = θ 7 j) ∧ ∀ k, k ≠ 7 → (k < 60 ∨ 64 < k) → τ k = θ k) 216 [some (.inr 7), some (.inl g), some (.inl w), some (.inl p), some (.inl s), x5] [] θ := by
  refine Wp.rg (fun hR => ?_)
  refine w_aload_n dX7_book_216 rfl ?_
  refine w_iload_n dX7_book_217 rfl ?_
  refine w_iload_n dX7_book_218 rfl ?_
  refine w_iload_n dX7_book_219 rfl ?_
  refine cv_X7_141 rfl dX7_book_220 (Nat.le_of_ble_eq_true rfl) (Nat.le_of_ble_eq_true rfl) (Wp.mono (cm_comes θ p g w (by omega) hg hw) (fun z_ τ_ hq_ => ?_))
  obtain ⟨υ, hυ⟩ : ∃ υ, υ = τ_ := ⟨_, rfl⟩
  rw [← hυ] at hq_ ⊢
  clear hυ
  obtain ⟨u1, u2, u3, u4⟩ := hq_
  have u14 := u3 14 (by decide)
  have up := u1 p (by omega) (by omega)
  have e61 : υ 61 p = w := by rw [up.2.1]; unfold ins; rw [if_neg (by omega), if_pos rfl]
  refine w_aload_n dX7_book_223 rfl ?_
  refine gf_X7_25 rfl dX7_book_224 ?_
  refine w_iload_n dX7_book_227 rfl ?_
  refine w_iload dX7_book_228 rfl ?_
  refine w_iast rfl (by omega) hs dX7_book_230 ?_
  refine w_aload_n dX7_book_231 rfl ?_
  refine w_iconst dX7_book_232 ?_
  refine w_iload_n dX7_book_233 rfl ?_
  refine w_iconst dX7_book_234 ?_
  refine w_iload dX7_book_235 rfl ?_
  refine cv_X7_157 rfl dX7_book_237 (Nat.le_of_ble_eq_true rfl) (Nat.le_of_ble_eq_true rfl) (Wp.mono (cm_notes (put υ 62 p s) 0 p (-1) s (by rw [put_ne (by decide)]; omega) (by omega) (by omega) (by omega) hs) (fun z_ τ_ hq_ => ?_))
  obtain ⟨κ, hκ⟩ : ∃ υ, υ = τ_ := ⟨_, rfl⟩
  rw [← hκ] at hq_ ⊢
  clear hκ
  obtain ⟨v1, v2, v3⟩ := hq_
  rw [put_ne (by decide), e61] at v1
  refine w_iload_n dX7_book_240 rfl ?_
  refine w_iret dX7_book_241 rfl ?_
  refine ⟨rfl, fun j j0 j1 => ?_, ?_, fun es he => ?_, fun j j6 j14 => ?_, fun k k7 kk => ?_⟩
  · have r := u1 j j0 j1
    rw [v3 60 (by decide) (by decide), v3 61 (by decide) (by decide), v3 62 (by decide) (by decide), v3 63 (by decide) (by decide)]
    simp only [put_ne (show (60 : Nat) ≠ 62 by decide), put_ne (show (61 : Nat) ≠ 62 by decide), put_ne (show (63 : Nat) ≠ 62 by decide)]
    refine ⟨r.1, r.2.1, ?_, r.2.2.2⟩
    rw [put_eq, if_pos rfl]
    by_cases e : j = p
    · rw [if_pos e, e]; unfold ins; rw [if_neg (by omega), if_pos rfl]
    · rw [if_neg e, r.2.2.1]; unfold ins
      by_cases e2 : j < p
      · rw [if_pos e2, if_pos e2]
      · rw [if_neg e2, if_neg e2, if_neg e, if_neg e]
  · rw [v2 6 (by decide), put_ne (by decide)]; exact u2
  · refine v1 es (he.keep ?_ ?_)
    · rw [put_ne (by decide)]; exact u14
    · rw [put_ne (by decide)]; exact u4 64 (by decide) (by decide) (by decide) (by decide) (by decide)
  · rw [v2 j j14, put_ne (by decide)]; exact u3 j j6
  · rw [v3 k k7 (by omega), put_ne (by omega)]; exact u4 k k7 (by omega) (by omega) (by omega) (by omega)

set_option maxRecDepth 100000 in
set_option maxHeartbeats 4000000 in
theorem cm_book119 {Q : Int → St → Prop} (ρ : St) (p g w : Int) (s4 x5 : Option PV) (hn : 0 ≤ ρ 7 6 ∧ ρ 7 6 ≤ 60) (hes : ∃ es, RepM ρ es) (hcont : ∀ (θ : St) (x : Option PV), MdM ρ (ρ 70) (mvL (ρ 70) (ρ 62) (ρ 7 6)) θ → Wp mX7_book 3 Q 216 [some (.inr 7), some (.inl g), some (.inl w), some (.inl p), s4, x] [] θ) : Wp mX7_book 3 (Q) 119 [some (.inr 7), some (.inl g), some (.inl w), some (.inl p), s4, x5] [] ρ := by
  refine Wp.rg (fun hR => ?_)
  refine w_aload_n dX7_book_119 rfl ?_
  refine gf_X7_81 rfl dX7_book_120 ?_
  refine w_iconst dX7_book_123 ?_
  refine w_isub dX7_book_124 ?_
  refine w_istore dX7_book_125 (Nat.le_of_ble_eq_true rfl) ?_
  refine down_to (-1) (fun i => i < ρ 7 6 → ∀ (τ : St), (∃ l, l ++ rts (ρ 70) (ρ 62) (i + 1).toNat = rts (ρ 70) (ρ 62) (ρ 7 6).toNat ∧ (∀ b ∈ l, i < b) ∧ MdM ρ (ρ 70) l τ) → Wp mX7_book 3 Q 127 [some (.inr 7), some (.inl g), some (.inl w), some (.inl p), s4, some (.inl i)] [] τ) (fun i hi ih h0 τ hinv => ?_) (ρ 7 6 - 1) (by omega) (by omega) ρ ⟨[], by rw [show ρ 7 6 - 1 + 1 = ρ 7 6 by omega]; rfl, fun b hb => by simp at hb, MdM.z hR⟩
  obtain ⟨l, ql, qg, hmd⟩ := hinv
  obtain ⟨h1, h2, h3, h4, h5, h6⟩ := id hmd
  have e76 : τ 7 6 = ρ 7 6 := h5 6 (by decide) (by decide)
  have e70 : τ 70 = ρ 70 := h6 70 (by decide) (by decide) (by decide) (by decide)
  have ec : 0 ≤ τ 7 14 ∧ τ 7 14 ≤ 40 := by
    obtain ⟨es, he⟩ := hes
    exact (h4 es he).cnt
  refine Wp.rg (fun hR2 => ?_)
  refine w_iload dX7_book_127 rfl ?_
  refine w_if_lt (tgt := 168) dX7_book_129 (by decide) (by omega) (fun c_129 => ?_) (fun c_129 => ?_)
  · refine w_iconst dX7_book_168 ?_
    refine w_istore dX7_book_169 (Nat.le_of_ble_eq_true rfl) ?_
    refine up_to (ρ 7 6) (fun i => 0 ≤ i → ∀ (τ : St), MdM ρ (ρ 70) (rts (ρ 70) (ρ 62) (ρ 7 6).toNat ++ lfs (ρ 70) (ρ 62) i.toNat) τ → Wp mX7_book 3 Q 171 [some (.inr 7), some (.inl g), some (.inl w), some (.inl p), s4, some (.inl i)] [] τ) (fun i hi ih h0 τ hmd => ?_) 0 (by omega) (by omega) τ ?_
    rotate_left 1
    · rw [show (i + 1).toNat = 0 by omega] at ql
      have ql2 : l = rts (ρ 70) (ρ 62) (ρ 7 6).toNat := by simpa [rts] using ql
      show MdM ρ (ρ 70) (rts (ρ 70) (ρ 62) (ρ 7 6).toNat ++ []) τ
      rw [List.append_nil, ← ql2]
      exact hmd
    clear h1 h2 h3 h4 h5 h6 e76 e70 ec
    obtain ⟨h1, h2, h3, h4, h5, h6⟩ := id hmd
    have e76 : τ 7 6 = ρ 7 6 := h5 6 (by decide) (by decide)
    have e70 : τ 70 = ρ 70 := h6 70 (by decide) (by decide) (by decide) (by decide)
    have ec : 0 ≤ τ 7 14 ∧ τ 7 14 ≤ 40 := by
      obtain ⟨es, he⟩ := hes
      exact (h4 es he).cnt
    refine Wp.rg (fun hR2 => ?_)
    refine w_iload dX7_book_171 rfl ?_
    refine w_aload_n dX7_book_173 rfl ?_
    refine gf_X7_81 rfl dX7_book_174 ?_
    refine w_icmp_ge (tgt := 216) dX7_book_177 (by decide) (by omega) (by omega) (fun c_177 => ?_) (fun c_177 => ?_)
    · refine hcont τ _ ?_
      rw [e76] at c_177
      unfold mvL
      rw [show (ρ 7 6).toNat = i.toNat by omega] at hmd ⊢
      exact hmd
    · rw [e76] at c_177
      refine w_aload_n dX7_book_180 rfl ?_
      refine gf_X7_53 rfl dX7_book_181 ?_
      refine w_iload dX7_book_184 rfl ?_
      refine w_iald rfl (by omega) dX7_book_186 ?_
      refine w_aload_n dX7_book_187 rfl ?_
      refine gf_X7_25 rfl dX7_book_188 ?_
      refine w_iload dX7_book_191 rfl ?_
      refine w_iald rfl (by omega) dX7_book_193 ?_
      refine w_icmp_ge (tgt := 210) dX7_book_194 (by decide) (hR2 _ _) (hR2 _ _) (fun c_194 => ?_) (fun c_194 => ?_)
      · refine w_iinc dX7_book_210 (Nat.le_of_ble_eq_true rfl) rfl ?_
        refine w_goto (tgt := 171) dX7_book_213 (by decide) ?_
        have hin : i ∉ lfs (ρ 70) (ρ 62) i.toNat := fun q => by
          have := (lfs_mem (ρ 70) (ρ 62) i i.toNat).mp q
          omega
        have hlf : lfs (ρ 70) (ρ 62) (i + 1).toNat = if ρ 70 i < ρ 62 i then lfs (ρ 70) (ρ 62) i.toNat ++ [i] else lfs (ρ 70) (ρ 62) i.toNat := by
          rw [show (i + 1).toNat = i.toNat + 1 by omega]
          show (if ρ 70 ((i.toNat : Nat) : Int) < ρ 62 ((i.toNat : Nat) : Int) then lfs (ρ 70) (ρ 62) i.toNat ++ [((i.toNat : Nat) : Int)] else lfs (ρ 70) (ρ 62) i.toNat) = _
          rw [show ((i.toNat : Nat) : Int) = i by omega]
        have hir := rts_mem (ρ 70) (ρ 62) i (ρ 7 6).toNat
        have h1i := h1 i
        rw [e70, h1i] at c_194
        by_cases hr : i ∈ rts (ρ 70) (ρ 62) (ρ 7 6).toNat
        · have hr2 := hir.mp hr
          rw [if_pos (List.mem_append_left _ hr)] at c_194
          first
          | exact absurd c_194 (Int.lt_irrefl _)
          | (refine ih (by omega) (by omega) _ ?_
             rw [hlf, if_neg (by omega)]
             exact hmd)
        · have hnot : i ∉ rts (ρ 70) (ρ 62) (ρ 7 6).toNat ++ lfs (ρ 70) (ρ 62) i.toNat := fun q => by
            rcases List.mem_append.mp q with q | q
            · exact hr q
            · exact hin q
          rw [if_neg hnot] at c_194
          first
          | (refine ih (by omega) (by omega) _ ?_
             rw [hlf, if_pos c_194, ← List.append_assoc]
             exact hmd.step hnot u1 u2 u3 u4 u5 u6)
          | (refine ih (by omega) (by omega) _ ?_
             rw [hlf, if_neg (by omega)]
             exact hmd)
      · refine w_aload_n dX7_book_197 rfl ?_
        refine w_iload dX7_book_198 rfl ?_
        refine w_aload_n dX7_book_200 rfl ?_
        refine gf_X7_53 rfl dX7_book_201 ?_
        refine w_iload dX7_book_204 rfl ?_
        refine w_iald rfl (by omega) dX7_book_206 ?_
        refine cv_X7_154 rfl dX7_book_207 (Nat.le_of_ble_eq_true rfl) (Nat.le_of_ble_eq_true rfl) (Wp.mono (cm_moves τ i (τ 70 i) ec (by omega) (hR2 _ _)) (fun z_ τ_ hq_ => ?_))
        obtain ⟨υ, hυ⟩ : ∃ υ, υ = τ_ := ⟨_, rfl⟩
        rw [← hυ] at hq_ ⊢
        clear hυ
        obtain ⟨u1, u2, u3, u4, u5, u6⟩ := hq_
        rw [e70] at u1 u2
        refine w_iinc dX7_book_210 (Nat.le_of_ble_eq_true rfl) rfl ?_
        refine w_goto (tgt := 171) dX7_book_213 (by decide) ?_
        have hin : i ∉ lfs (ρ 70) (ρ 62) i.toNat := fun q => by
          have := (lfs_mem (ρ 70) (ρ 62) i i.toNat).mp q
          omega
        have hlf : lfs (ρ 70) (ρ 62) (i + 1).toNat = if ρ 70 i < ρ 62 i then lfs (ρ 70) (ρ 62) i.toNat ++ [i] else lfs (ρ 70) (ρ 62) i.toNat := by
          rw [show (i + 1).toNat = i.toNat + 1 by omega]
          show (if ρ 70 ((i.toNat : Nat) : Int) < ρ 62 ((i.toNat : Nat) : Int) then lfs (ρ 70) (ρ 62) i.toNat ++ [((i.toNat : Nat) : Int)] else lfs (ρ 70) (ρ 62) i.toNat) = _
          rw [show ((i.toNat : Nat) : Int) = i by omega]
        have hir := rts_mem (ρ 70) (ρ 62) i (ρ 7 6).toNat
        have h1i := h1 i
        rw [e70, h1i] at c_194
        by_cases hr : i ∈ rts (ρ 70) (ρ 62) (ρ 7 6).toNat
        · have hr2 := hir.mp hr
          rw [if_pos (List.mem_append_left _ hr)] at c_194
          first
          | exact absurd c_194 (Int.lt_irrefl _)
          | (refine ih (by omega) (by omega) _ ?_
             rw [hlf, if_neg (by omega)]
             exact hmd)
        · have hnot : i ∉ rts (ρ 70) (ρ 62) (ρ 7 6).toNat ++ lfs (ρ 70) (ρ 62) i.toNat := fun q => by
            rcases List.mem_append.mp q with q | q
            · exact hr q
            · exact hin q
          rw [if_neg hnot] at c_194
          first
          | (refine ih (by omega) (by omega) _ ?_
             rw [hlf, if_pos c_194, ← List.append_assoc]
             exact hmd.step hnot u1 u2 u3 u4 u5 u6)
          | (refine ih (by omega) (by omega) _ ?_
             rw [hlf, if_neg (by omega)]
             exact hmd)
  · have hni : i ∉ l := fun q => by
      have := qg i q
      omega
    have h1i := h1 i
    rw [if_neg hni] at h1i
    refine w_aload_n dX7_book_132 rfl ?_
    refine gf_X7_53 rfl dX7_book_133 ?_
    refine w_iload dX7_book_136 rfl ?_
    refine w_iald rfl (by omega) dX7_book_138 ?_
    refine w_aload_n dX7_book_139 rfl ?_
    refine gf_X7_25 rfl dX7_book_140 ?_
    refine w_iload dX7_book_143 rfl ?_
    refine w_iald rfl (by omega) dX7_book_145 ?_
    refine w_icmp_le (tgt := 162) dX7_book_146 (by decide) (hR2 _ _) (hR2 _ _) (fun c_146 => ?_) (fun c_146 => ?_)
    · refine w_iinc dX7_book_162 (Nat.le_of_ble_eq_true rfl) rfl ?_
      refine w_goto (tgt := 127) dX7_book_165 (by decide) ?_
      rw [e70, h1i] at c_146
      have hrt : rts (ρ 70) (ρ 62) (i + 1).toNat = if ρ 62 i < ρ 70 i then i :: rts (ρ 70) (ρ 62) i.toNat else rts (ρ 70) (ρ 62) i.toNat := by
        rw [show (i + 1).toNat = i.toNat + 1 by omega]
        show (if ρ 62 ((i.toNat : Nat) : Int) < ρ 70 ((i.toNat : Nat) : Int) then ((i.toNat : Nat) : Int) :: rts (ρ 70) (ρ 62) i.toNat else rts (ρ 70) (ρ 62) i.toNat) = _
        rw [show ((i.toNat : Nat) : Int) = i by omega]
      first
      | (refine ih (by omega) (by omega) _ ⟨l ++ [i], ?_, ?_, hmd.step hni u1 u2 u3 u4 u5 u6⟩
         · rw [show (i - 1 + 1).toNat = i.toNat by omega, List.append_assoc, ← ql, hrt, if_pos c_146]
           rfl
         · intro b hb
           rcases List.mem_append.mp hb with hb | hb
           · have := qg b hb; omega
           · have hb2 : b = i := by simpa using hb
             omega)
      | (refine ih (by omega) (by omega) _ ⟨l, ?_, ?_, hmd⟩
         · rw [show (i - 1 + 1).toNat = i.toNat by omega, ← ql, hrt, if_neg (by omega)]
         · intro b hb
           have := qg b hb; omega)
    · refine w_aload_n dX7_book_149 rfl ?_
      refine w_iload dX7_book_150 rfl ?_
      refine w_aload_n dX7_book_152 rfl ?_
      refine gf_X7_53 rfl dX7_book_153 ?_
      refine w_iload dX7_book_156 rfl ?_
      refine w_iald rfl (by omega) dX7_book_158 ?_
      refine cv_X7_154 rfl dX7_book_159 (Nat.le_of_ble_eq_true rfl) (Nat.le_of_ble_eq_true rfl) (Wp.mono (cm_moves τ i (τ 70 i) ec (by omega) (hR2 _ _)) (fun z_ τ_ hq_ => ?_))
      obtain ⟨υ, hυ⟩ : ∃ υ, υ = τ_ := ⟨_, rfl⟩
      rw [← hυ] at hq_ ⊢
      clear hυ
      obtain ⟨u1, u2, u3, u4, u5, u6⟩ := hq_
      rw [e70] at u1 u2
      refine w_iinc dX7_book_162 (Nat.le_of_ble_eq_true rfl) rfl ?_
      refine w_goto (tgt := 127) dX7_book_165 (by decide) ?_
      rw [e70, h1i] at c_146
      have hrt : rts (ρ 70) (ρ 62) (i + 1).toNat = if ρ 62 i < ρ 70 i then i :: rts (ρ 70) (ρ 62) i.toNat else rts (ρ 70) (ρ 62) i.toNat := by
        rw [show (i + 1).toNat = i.toNat + 1 by omega]
        show (if ρ 62 ((i.toNat : Nat) : Int) < ρ 70 ((i.toNat : Nat) : Int) then ((i.toNat : Nat) : Int) :: rts (ρ 70) (ρ 62) i.toNat else rts (ρ 70) (ρ 62) i.toNat) = _
        rw [show ((i.toNat : Nat) : Int) = i by omega]
      first
      | (refine ih (by omega) (by omega) _ ⟨l ++ [i], ?_, ?_, hmd.step hni u1 u2 u3 u4 u5 u6⟩
         · rw [show (i - 1 + 1).toNat = i.toNat by omega, List.append_assoc, ← ql, hrt, if_pos c_146]
           rfl
         · intro b hb
           rcases List.mem_append.mp hb with hb | hb
           · have := qg b hb; omega
           · have hb2 : b = i := by simpa using hb
             omega)
      | (refine ih (by omega) (by omega) _ ⟨l, ?_, ?_, hmd⟩
         · rw [show (i - 1 + 1).toNat = i.toNat by omega, ← ql, hrt, if_neg (by omega)]
         · intro b hb
           have := qg b hb; omega)

theorem ins_congr {f h : Int → Int} {p v n j : Int} (e : ∀ x, 0 ≤ x → x < n → f x = h x) (hp : 0 ≤ p ∧ p ≤ n) (j0 : 0 ≤ j) (j1 : j ≤ n) : ins f p v j = ins h p v j := by
  unfold ins
  by_cases q : j < p
  · rw [if_pos q, if_pos q]; exact e j j0 (by omega)
  · rw [if_neg q, if_neg q]
    by_cases q2 : j = p
    · rw [if_pos q2, if_pos q2]
    · rw [if_neg q2, if_neg q2]; exact e (j - 1) (by omega) (by omega)

set_option maxRecDepth 100000 in
set_option maxHeartbeats 4000000 in
theorem ct5_book (σ : St) (g w : Int) (hI : InvM σ) (hg : InR g) (hw : InR w) : Wp mX7_book 3 (fun z τ => (¬ (0 ≤ g ∧ g < σ 7 4 ∧ 1 ≤ w ∧ w ≤ 40 ∧ σ 7 6 < 60) → z = -1 ∧ τ = σ) ∧ ((0 ≤ g ∧ g < σ 7 4 ∧ 1 ≤ w ∧ w ≤ 40 ∧ σ 7 6 < 60) → ∃ p L, IsNb (σ 60) (σ 7 6) g p ∧ TblL ((σ 57, σ 58, ins (σ 61) p w, ins (σ 61) p w, ins (σ 62) p (-1)) : CP) (σ 7 1) (σ 7 6 + 1) L ∧ ((1000000000 ≤ L 0 0 ∧ z = -1 ∧ SmM σ τ) ∨ (L 0 0 < 1000000000 ∧ z = p ∧ ∃ tk go, IsCut ((σ 57, σ 58, ins (σ 61) p w, ins (σ 61) p w, ins (σ 62) p (-1)) : CP) (σ 7 1) (σ 7 6 + 1) L tk ∧ GoIs tk go (σ 7 1) ∧ (∀ j, 0 ≤ j → j ≤ σ 7 6 → τ 60 j = ins (σ 60) p g j ∧ τ 61 j = ins (σ 61) p w j ∧ τ 62 j = go j ∧ τ 63 j = ins (fun j => if del go p j ≠ σ 62 j then wr (σ 63 j + 1) else σ 63 j) p 0 j) ∧ τ 7 6 = σ 7 6 + 1 ∧ τ 7 11 = wr (σ 7 11 + ((mvL (del go p) (σ 62) (σ 7 6)).length : Int)) ∧ τ 7 21 = 0 ∧ (∀ j, j ≠ 6 → j ≠ 11 → j ≠ 14 → j ≠ 21 → τ 7 j = σ 7 j) ∧ (∀ es, RepM σ es → RepM τ (es ++ (mvL (del go p) (σ 62) (σ 7 6)).map (mvE (σ 61) (σ 62) (del go p)) ++ [(0, p, w, -1, go p)])) ∧ ∀ k, k ≠ 7 → (k < 60 ∨ 70 < k) → τ k = σ k)))) 5 [some (.inr 7), some (.inl g), some (.inl w), none, none, none] [] σ := by
  refine Wp.rg (fun hR => ?_)
  have hns := hI.w.ns
  have hng := hI.w.ng
  have hnb := hI.w.nb
  refine w_aload_n dX7_book_5 rfl ?_
  refine gf_X7_81 rfl dX7_book_6 ?_
  refine w_bipush dX7_book_9 (by decide) ?_
  refine w_icmp_eq (tgt := 32) dX7_book_11 (by decide) (by omega) (by omega) (fun c_11 => ?_) (fun c_11 => ?_)
  · refine w_iconst dX7_book_32 ?_
    refine w_iret dX7_book_33 rfl ?_
    exact ⟨fun _ => ⟨rfl, rfl⟩, fun q => absurd q (by omega)⟩
  · refine w_aload_n dX7_book_14 rfl ?_
    refine w_iload_n dX7_book_15 rfl ?_
    refine cv_X7_135 rfl dX7_book_16 (Nat.le_of_ble_eq_true rfl) (Nat.le_of_ble_eq_true rfl) (Wp.mono (cm_isGroup _ g hg hng) (fun z_ τ_ hq_ => ?_))
    obtain ⟨hw16, hs_⟩ := hq_
    subst τ_
    refine w_if_eq (tgt := 32) dX7_book_19 (by decide) (by omega) (fun c_19 => ?_) (fun c_19 => ?_)
    · refine w_iconst dX7_book_32 ?_
      refine w_iret dX7_book_33 rfl ?_
      exact ⟨fun _ => ⟨rfl, rfl⟩, fun q => absurd q (by omega)⟩
    · refine w_iload_n dX7_book_22 rfl ?_
      refine w_iconst dX7_book_23 ?_
      refine w_bipush dX7_book_24 (by decide) ?_
      refine cv_X7_74 rfl dX7_book_26 (Nat.le_of_ble_eq_true rfl) (Nat.le_of_ble_eq_true rfl) (Wp.mono (cm_isIn _ w 1 40 hw (by omega) (by omega)) (fun z_ τ_ hq_ => ?_))
      obtain ⟨hw26, hs_⟩ := hq_
      subst τ_
      refine w_if_ne (tgt := 34) dX7_book_29 (by decide) (by omega) (fun c_29 => ?_) (fun c_29 => ?_)
      · refine w_aload_n dX7_book_34 rfl ?_
        refine w_iload_n dX7_book_35 rfl ?_
        refine cv_X7_138 rfl dX7_book_36 (Nat.le_of_ble_eq_true rfl) (Nat.le_of_ble_eq_true rfl) (Wp.mono (cm_behind σ g hnb hg) (fun z_ τ_ hq_ => ?_))
        obtain ⟨hnbp, hs_⟩ := hq_
        subst τ_
        generalize z_ = p at hnbp
        have hpp : 0 ≤ p ∧ p ≤ σ 7 6 := ⟨hnbp.1, hnbp.2.1⟩
        refine w_istore_n dX7_book_39 (Nat.le_of_ble_eq_true rfl) ?_
        refine w_aload_n dX7_book_40 rfl ?_
        refine w_iload_n dX7_book_41 rfl ?_
        refine w_iload_n dX7_book_42 rfl ?_
        refine w_iload_n dX7_book_43 rfl ?_
        refine cv_X7_141 rfl dX7_book_44 (Nat.le_of_ble_eq_true rfl) (Nat.le_of_ble_eq_true rfl) (Wp.mono (cm_comes σ p g w (by omega) hg hw) (fun z_ τ_ hq_ => ?_))
        obtain ⟨υ, hυ⟩ : ∃ υ, υ = τ_ := ⟨_, rfl⟩
        rw [← hυ] at hq_ ⊢
        clear hυ
        obtain ⟨u1, u2, u3, u4⟩ := hq_
        have hup := (MI2.z (σ := σ) p g w).up hpp (by omega) u1 u2 u3 u4
        have hIu := hup.inv hI.w (by omega) (by omega) hpp (by omega)
        have u71 := u3 1 (by decide)
        refine w_aload_n dX7_book_47 rfl ?_
        refine w_iconst dX7_book_48 ?_
        refine cv_X7_124 rfl dX7_book_49 (Nat.le_of_ble_eq_true rfl) (Nat.le_of_ble_eq_true rfl) (Wp.mono (cm_cuts υ 0 hIu (by omega)) (fun z_ τ_ hq_ => ?_))
        obtain ⟨ρ, hρ⟩ : ∃ υ, υ = τ_ := ⟨_, rfl⟩
        rw [← hρ] at hq_ ⊢
        clear hρ
        obtain ⟨L, g1, g2, g3, g4⟩ := hq_
        have hz01 : z_ = 0 ∨ z_ = 1 := by omega
        have hfr : frM υ ρ := frM.of g4
        have r7 : ρ 7 = υ 7 := g4 7 (by omega)
        rw [u71, u2] at g1 g3
        have hT : TblL ((σ 57, σ 58, ins (σ 61) p w, ins (σ 61) p w, ins (σ 62) p (-1)) : CP) (σ 7 1) (σ 7 6 + 1) L := g1.move (fun s _ _ => ⟨by show υ 57 s = σ 57 s; rw [u4 57 (by decide) (by decide) (by decide) (by decide) (by decide)], by show υ 58 s = σ 58 s; rw [u4 58 (by decide) (by decide) (by decide) (by decide) (by decide)]⟩) (fun b b0 b1 => ⟨(u1 b b0 (by omega)).2.1, by show υ 61 b + 0 * ndM υ b = _; rw [Int.zero_mul, Int.add_zero]; exact (u1 b b0 (by omega)).2.1, (u1 b b0 (by omega)).2.2.1⟩)
        have hm1 := hup.fr hfr
        refine w_if_ne (tgt := 62) dX7_book_52 (by decide) (by omega) (fun c_52 => ?_) (fun c_52 => ?_)
        · replace g3 : z_ = 1 ∧ L 0 0 < 1000000000 ∧ IsCut (cpM υ 0) (σ 7 1) (σ 7 6 + 1) L (ρ 68) := by
            rcases g3 with g3 | g3
            · exact g3
            · omega
          have hCt : IsCut ((σ 57, σ 58, ins (σ 61) p w, ins (σ 61) p w, ins (σ 62) p (-1)) : CP) (σ 7 1) (σ 7 6 + 1) L (ρ 68) := g3.2.2.move (by omega) (fun s _ _ => ⟨by show υ 57 s = σ 57 s; rw [u4 57 (by decide) (by decide) (by decide) (by decide) (by decide)], by show υ 58 s = σ 58 s; rw [u4 58 (by decide) (by decide) (by decide) (by decide) (by decide)]⟩) (fun b b0 b1 => ⟨(u1 b b0 (by omega)).2.1, by show υ 61 b + 0 * ndM υ b = _; rw [Int.zero_mul, Int.add_zero]; exact (u1 b b0 (by omega)).2.1, (u1 b b0 (by omega)).2.2.1⟩)
          refine w_aload_n dX7_book_62 rfl ?_
          refine cv_X7_148 rfl dX7_book_63 (Nat.le_of_ble_eq_true rfl) (Nat.le_of_ble_eq_true rfl) (Wp.mono (cm_laysGoals ρ (by rw [r7, u71]; exact hns) (by rw [r7, u71]; exact g3.2.2.nn) (by rw [r7, u71]; have := g3.2.2.pos (by omega) (σ 7 1) hns.1 (by omega); omega)) (fun z_ τ_ hq_ => ?_))
          obtain ⟨ω, hω⟩ : ∃ υ, υ = τ_ := ⟨_, rfl⟩
          rw [← hω] at hq_ ⊢
          clear hω
          obtain ⟨w1, w2⟩ := hq_
          rw [r7, u71] at w1
          refine Wp.rg (fun hRw => ?_)
          have hsR : InR (ω 70 p) := hRw 70 p
          refine w_aload_n dX7_book_66 rfl ?_
          refine gf_X7_53 rfl dX7_book_67 ?_
          refine w_iload_n dX7_book_70 rfl ?_
          refine w_iald rfl (by omega) dX7_book_71 ?_
          refine w_istore dX7_book_72 (Nat.le_of_ble_eq_true rfl) ?_
          refine w_iload_n dX7_book_74 rfl ?_
          refine w_istore dX7_book_75 (Nat.le_of_ble_eq_true rfl) ?_
          refine up_to (σ 7 6) (fun i => p ≤ i → ∀ (τ : St), ((∀ j, p ≤ j → j < i → τ 70 j = ω 70 (j + 1)) ∧ (∀ j, j < p ∨ i ≤ j → τ 70 j = ω 70 j) ∧ τ 7 = ω 7 ∧ ∀ k, k ≠ 70 → τ k = ω k) → Wp mX7_book 3 (fun z τ => (¬ (0 ≤ g ∧ g < σ 7 4 ∧ 1 ≤ w ∧ w ≤ 40 ∧ σ 7 6 < 60) → z = -1 ∧ τ = σ) ∧ ((0 ≤ g ∧ g < σ 7 4 ∧ 1 ≤ w ∧ w ≤ 40 ∧ σ 7 6 < 60) → ∃ p L, IsNb (σ 60) (σ 7 6) g p ∧ TblL ((σ 57, σ 58, ins (σ 61) p w, ins (σ 61) p w, ins (σ 62) p (-1)) : CP) (σ 7 1) (σ 7 6 + 1) L ∧ ((1000000000 ≤ L 0 0 ∧ z = -1 ∧ SmM σ τ) ∨ (L 0 0 < 1000000000 ∧ z = p ∧ ∃ tk go, IsCut ((σ 57, σ 58, ins (σ 61) p w, ins (σ 61) p w, ins (σ 62) p (-1)) : CP) (σ 7 1) (σ 7 6 + 1) L tk ∧ GoIs tk go (σ 7 1) ∧ (∀ j, 0 ≤ j → j ≤ σ 7 6 → τ 60 j = ins (σ 60) p g j ∧ τ 61 j = ins (σ 61) p w j ∧ τ 62 j = go j ∧ τ 63 j = ins (fun j => if del go p j ≠ σ 62 j then wr (σ 63 j + 1) else σ 63 j) p 0 j) ∧ τ 7 6 = σ 7 6 + 1 ∧ τ 7 11 = wr (σ 7 11 + ((mvL (del go p) (σ 62) (σ 7 6)).length : Int)) ∧ τ 7 21 = 0 ∧ (∀ j, j ≠ 6 → j ≠ 11 → j ≠ 14 → j ≠ 21 → τ 7 j = σ 7 j) ∧ (∀ es, RepM σ es → RepM τ (es ++ (mvL (del go p) (σ 62) (σ 7 6)).map (mvE (σ 61) (σ 62) (del go p)) ++ [(0, p, w, -1, go p)])) ∧ ∀ k, k ≠ 7 → (k < 60 ∨ 70 < k) → τ k = σ k)))) 77 [some (.inr 7), some (.inl g), some (.inl w), some (.inl p), some (.inl (ω 70 p)), some (.inl i)] [] τ) (fun i hi ih h0 τ hinv => ?_) p (by omega) (by omega) ω ⟨fun j j0 j1 => by omega, fun j _ => rfl, rfl, fun k _ => rfl⟩
          obtain ⟨t1, t2, t7, t3⟩ := hinv
          refine Wp.rg (fun hR2 => ?_)
          have e76 : τ 7 6 = σ 7 6 + 1 := by rw [t7, w2 7 (by decide), r7]; exact u2
          refine w_iload dX7_book_77 rfl ?_
          refine w_aload_n dX7_book_79 rfl ?_
          refine gf_X7_81 rfl dX7_book_80 ?_
          refine w_iconst dX7_book_83 ?_
          refine w_isub dX7_book_84 ?_
          refine w_icmp_ge (tgt := 110) dX7_book_85 (by decide) (by omega) (by omega) (fun c_85 => ?_) (fun c_85 => ?_)
          · refine w_aload_n dX7_book_110 rfl ?_
            refine w_iload_n dX7_book_111 rfl ?_
            refine cv_X7_145 rfl dX7_book_112 (Nat.le_of_ble_eq_true rfl) (Nat.le_of_ble_eq_true rfl) (Wp.mono (cm_closes τ p (by omega)) (fun z_ τ_ hq_ => ?_))
            obtain ⟨κ, hκ⟩ : ∃ υ, υ = τ_ := ⟨_, rfl⟩
            rw [← hκ] at hq_ ⊢
            clear hκ
            obtain ⟨v1, v2, v3, v4⟩ := hq_
            refine w_aload_n dX7_book_115 rfl ?_
            refine cv_X7_151 rfl dX7_book_116 (Nat.le_of_ble_eq_true rfl) (Nat.le_of_ble_eq_true rfl) (Wp.mono (cm_ends κ) (fun z_ τ_ hq_ => ?_))
            obtain ⟨ρ2, hρ2⟩ : ∃ υ, υ = τ_ := ⟨_, rfl⟩
            rw [← hρ2] at hq_ ⊢
            clear hρ2
            subst ρ2
            have hgo : ∀ j, 0 ≤ j → j < σ 7 6 → put κ 7 21 0 70 j = del (ω 70) p j := by
              intro j j0 j1
              rw [put_ne (by decide), v4 70 (by decide) (by decide) (by decide) (by decide) (by decide)]
              unfold del
              by_cases e : j < p
              · rw [if_pos e]; exact t2 j (Or.inl e)
              · rw [if_neg e]; exact t1 j (by omega) (by omega)
            have e7b : put κ 7 21 0 7 6 = σ 7 6 := by simp [put_eq]; omega
            have hk7 : ∀ j, j ≠ 6 → j ≠ 21 → put κ 7 21 0 7 j = σ 7 j := fun j j6 j21 => by
              simp [put_eq, j21]
              rw [v3 j j6, t7, w2 7 (by decide), r7]
              exact u3 j j6
            have hkk : ∀ k, k ≠ 7 → (k < 60 ∨ k = 64 ∨ 70 < k) → put κ 7 21 0 k = σ k := fun k k7 kk => by
              rw [put_ne k7, v4 k k7 (by omega) (by omega) (by omega) (by omega), t3 k (by omega), w2 k (by omega), g4 k (by omega)]
              exact u4 k k7 (by omega) (by omega) (by omega) (by omega)
            have hro : ∀ j, 0 ≤ j → j < σ 7 6 → put κ 7 21 0 60 j = σ 60 j ∧ put κ 7 21 0 61 j = σ 61 j ∧ put κ 7 21 0 62 j = σ 62 j ∧ put κ 7 21 0 63 j = σ 63 j := by
              intro j j0 j1
              have r := v1 j j0 (by omega)
              have ed : ∀ (k : Nat) (f : Int → Int) (v : Int), (k = 60 ∨ k = 61 ∨ k = 62 ∨ k = 63) → (∀ x, 0 ≤ x → x ≤ σ 7 6 → υ k x = ins f p v x) → del (τ k) p j = f j := by
                intro k f v hk hx
                rw [t3 k (by omega), w2 k (by omega), g4 k (by omega)]
                unfold del
                by_cases e : j < p
                · rw [if_pos e, hx j j0 (by omega)]; unfold ins; rw [if_pos e]
                · rw [if_neg e, hx (j + 1) (by omega) (by omega)]; unfold ins; rw [if_neg (by omega), if_neg (by omega)]; congr 1; omega
              simp only [put_ne (show (60 : Nat) ≠ 7 by decide), put_ne (show (61 : Nat) ≠ 7 by decide), put_ne (show (62 : Nat) ≠ 7 by decide), put_ne (show (63 : Nat) ≠ 7 by decide)]
              rw [r.1, r.2.1, r.2.2.1, r.2.2.2]
              exact ⟨ed 60 _ _ (by omega) (fun x x0 x1 => (u1 x x0 x1).1), ed 61 _ _ (by omega) (fun x x0 x1 => (u1 x x0 x1).2.1), ed 62 _ _ (by omega) (fun x x0 x1 => (u1 x x0 x1).2.2.1), ed 63 _ _ (by omega) (fun x x0 x1 => (u1 x x0 x1).2.2.2)⟩
            obtain ⟨ρ3, hρ3⟩ : ∃ ρ3, ρ3 = put κ 7 21 0 := ⟨_, rfl⟩
            have e21 : ρ3 7 21 = 0 := by rw [hρ3]; simp [put_eq]
            rw [← hρ3] at hgo e7b hk7 hkk hro ⊢
            clear hρ3
            have hml : mvL (ρ3 70) (ρ3 62) (ρ3 7 6) = mvL (del (ω 70) p) (σ 62) (σ 7 6) := by
              rw [e7b]
              exact mvL_congr (fun b b0 b1 => ⟨hgo b b0 b1, (hro b b0 b1).2.2.1⟩)
            have hme : (mvL (del (ω 70) p) (σ 62) (σ 7 6)).map (mvE (ρ3 61) (ρ3 62) (ρ3 70)) = (mvL (del (ω 70) p) (σ 62) (σ 7 6)).map (mvE (σ 61) (σ 62) (del (ω 70) p)) := by
              refine mvE_congr (fun b hb => ?_)
              have hb2 := (mvL_mem _ _ hnb.1).mp hb
              exact ⟨(hro b hb2.1 hb2.2.1).2.1, (hro b hb2.1 hb2.2.1).2.2.1, hgo b hb2.1 hb2.2.1⟩
            have hrep : ∀ es, RepM σ es → RepM ρ3 es := fun es he => he.keep (hk7 14 (by decide) (by decide)) (hkk 64 (by decide) (by omega))
            refine cm_book119 ρ3 p g w _ _ (by omega) (by obtain ⟨es, he⟩ := hI.lg; exact ⟨es, hrep es he⟩) (fun θ x hmd => ?_)
            rw [hml] at hmd
            obtain ⟨m1, m2, m3, m4, m5, m6⟩ := hmd
            have m7 : θ 7 6 = σ 7 6 := by rw [m5 6 (by decide) (by decide)]; exact e7b
            refine Wp.mono (cm_book216 θ p g w (ω 70 p) x (by omega) hg hw hsR ?_) (fun z τ h => ?_)
            · obtain ⟨es, he⟩ := hI.lg
              exact (m4 es (hrep es he)).cnt
            obtain ⟨z0, z1, z2, z3, z4, z5⟩ := h
            rw [m7] at z1 z2
            refine ⟨fun q => absurd ⟨by omega, by omega, by omega, by omega, by omega⟩ q, fun _ => ⟨p, L, hnbp, hT, Or.inr ⟨g3.2.1, z0, ρ 68, ω 70, hCt, w1, fun j j0 j1 => ?_, z2, ?_, ?_, fun j j6 j11 j14 j21 => ?_, fun es he => ?_, fun k k7 kk => ?_⟩⟩⟩
            · have r := z1 j j0 j1
              have e60 := m6 60 (by decide) (by decide) (by decide) (by decide)
              have e61 := m6 61 (by decide) (by decide) (by decide) (by decide)
              refine ⟨?_, ?_, ?_, ?_⟩
              · rw [r.1, e60]
                exact ins_congr (fun x x0 x1 => (hro x x0 x1).1) hpp j0 j1
              · rw [r.2.1, e61]
                exact ins_congr (fun x x0 x1 => (hro x x0 x1).2.1) hpp j0 j1
              · rw [r.2.2.1, ← ins_del (go := ω 70) (p := p) (j := j)]
                refine ins_congr (fun x x0 x1 => ?_) hpp j0 j1
                rw [m1 x]
                by_cases q : x ∈ mvL (del (ω 70) p) (σ 62) (σ 7 6)
                · rw [if_pos q]; exact hgo x x0 x1
                · rw [if_neg q, (hro x x0 x1).2.2.1]
                  by_cases e : del (ω 70) p x = σ 62 x
                  · exact e.symm
                  · exact absurd ((mvL_mem _ _ hnb.1).mpr ⟨x0, x1, e⟩) q
              · rw [r.2.2.2]
                refine ins_congr (fun x x0 x1 => ?_) hpp j0 j1
                rw [m2 x, (hro x x0 x1).2.2.2]
                by_cases q : x ∈ mvL (del (ω 70) p) (σ 62) (σ 7 6)
                · rw [if_pos q, if_pos ((mvL_mem _ _ hnb.1).mp q).2.2]
                · rw [if_neg q, if_neg (fun e => q ((mvL_mem _ _ hnb.1).mpr ⟨x0, x1, e⟩))]
            · rw [z4 11 (by decide) (by decide), m3, hk7 11 (by decide) (by decide)]
            · rw [z4 21 (by decide) (by decide), m5 21 (by decide) (by decide)]; exact e21
            · rw [z4 j j6 j14, m5 j j11 j14]; exact hk7 j j6 j21
            · have r := z3 _ (m4 es (hrep es he))
              rw [hme] at r
              exact r
            · rw [z5 k k7 (by omega), m6 k k7 (by omega) (by omega) (by omega)]; exact hkk k k7 (by omega)
          · refine w_aload_n dX7_book_88 rfl ?_
            refine gf_X7_53 rfl dX7_book_89 ?_
            refine w_iload dX7_book_92 rfl ?_
            refine w_aload_n dX7_book_94 rfl ?_
            refine gf_X7_53 rfl dX7_book_95 ?_
            refine w_iload dX7_book_98 rfl ?_
            refine w_iconst dX7_book_100 ?_
            refine w_iadd dX7_book_101 ?_
            refine w_iald rfl (by omega) dX7_book_102 ?_
            refine w_iast rfl (by omega) (hR2 _ _) dX7_book_103 ?_
            refine w_iinc dX7_book_104 (Nat.le_of_ble_eq_true rfl) rfl ?_
            refine w_goto (tgt := 77) dX7_book_107 (by decide) ?_
            refine ih (by omega) (by omega) _ ⟨fun j j0 j1 => ?_, fun j j0 => ?_, by rw [put_ne (by decide)]; exact t7, fun k hk => by rw [put_ne hk]; exact t3 k hk⟩
            · rw [put_eq, if_pos rfl]
              by_cases e : j = i
              · rw [if_pos e, t2 (i + 1) (by omega), e]
              · rw [if_neg e]; exact t1 j j0 (by omega)
            · rw [put_eq, if_pos rfl, if_neg (by omega)]; exact t2 j (by omega)
        · refine w_aload_n dX7_book_55 rfl ?_
          refine w_iload_n dX7_book_56 rfl ?_
          refine cv_X7_145 rfl dX7_book_57 (Nat.le_of_ble_eq_true rfl) (Nat.le_of_ble_eq_true rfl) (Wp.mono (cm_closes ρ p (by rw [r7, u2]; omega)) (fun z_ τ_ hq_ => ?_))
          obtain ⟨κ, hκ⟩ : ∃ υ, υ = τ_ := ⟨_, rfl⟩
          rw [← hκ] at hq_ ⊢
          clear hκ
          obtain ⟨v1, v2, v3, v4⟩ := hq_
          have hsm := (hm1.dn (by omega) v1 v2 v3 v4).sm
          refine w_iconst dX7_book_60 ?_
          refine w_iret dX7_book_61 rfl ?_
          exact ⟨fun q => absurd ⟨by omega, by omega, by omega, by omega, by omega⟩ q, fun _ => ⟨p, L, hnbp, hT, Or.inl ⟨by omega, rfl, hsm⟩⟩⟩
      · refine w_iconst dX7_book_32 ?_
        refine w_iret dX7_book_33 rfl ?_
        exact ⟨fun _ => ⟨rfl, rfl⟩, fun q => absurd q (by omega)⟩

