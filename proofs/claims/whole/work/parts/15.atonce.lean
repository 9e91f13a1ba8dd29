theorem wr_add (x y : Int) : wr (wr x + y) = wr (x + y) := by
  unfold wr
  rw [Int32.ofInt_add, Int32.ofInt_toInt, ← Int32.ofInt_add]
theorem rts_mem (go sh : Int → Int) (b : Int) : ∀ m : Nat, b ∈ rts go sh m ↔ (0 ≤ b ∧ b < m ∧ sh b < go b) := by
  intro m
  induction m with
  | zero => simp [rts]; omega
  | succ m ih =>
    rw [show rts go sh (m + 1) = (if sh (m : Int) < go (m : Int) then (m : Int) :: rts go sh m else rts go sh m) from rfl]
    by_cases q : sh (m : Int) < go (m : Int)
    · rw [if_pos q, List.mem_cons, ih]
      constructor
      · rintro (rfl | h)
        · exact ⟨by omega, by omega, q⟩
        · exact ⟨h.1, by omega, h.2.2⟩
      · intro h
        by_cases e : b = m
        · exact Or.inl e
        · exact Or.inr ⟨h.1, by omega, h.2.2⟩
    · rw [if_neg q, ih]
      constructor
      · intro h; exact ⟨h.1, by omega, h.2.2⟩
      · intro h
        by_cases e : b = m
        · subst e; exact absurd h.2.2 q
        · exact ⟨h.1, by omega, h.2.2⟩
theorem lfs_mem (go sh : Int → Int) (b : Int) : ∀ m : Nat, b ∈ lfs go sh m ↔ (0 ≤ b ∧ b < m ∧ go b < sh b) := by
  intro m
  induction m with
  | zero => simp [lfs]; omega
  | succ m ih =>
    rw [show lfs go sh (m + 1) = (if go (m : Int) < sh (m : Int) then lfs go sh m ++ [(m : Int)] else lfs go sh m) from rfl]
    by_cases q : go (m : Int) < sh (m : Int)
    · rw [if_pos q, List.mem_append, ih, List.mem_singleton]
      constructor
      · rintro (h | rfl)
        · exact ⟨h.1, by omega, h.2.2⟩
        · exact ⟨by omega, by omega, q⟩
      · intro h
        by_cases e : b = m
        · exact Or.inr e
        · exact Or.inl ⟨h.1, by omega, h.2.2⟩
    · rw [if_neg q, ih]
      constructor
      · intro h; exact ⟨h.1, by omega, h.2.2⟩
      · intro h
        by_cases e : b = m
        · subst e; exact absurd h.2.2 q
        · exact ⟨h.1, by omega, h.2.2⟩
theorem rts_nd (go sh : Int → Int) : ∀ m : Nat, (rts go sh m).Nodup := by
  intro m
  induction m with
  | zero => exact List.nodup_nil
  | succ m ih =>
    rw [show rts go sh (m + 1) = (if sh (m : Int) < go (m : Int) then (m : Int) :: rts go sh m else rts go sh m) from rfl]
    split
    · refine List.nodup_cons.mpr ⟨fun h => ?_, ih⟩
      have := (rts_mem go sh m m).mp h
      omega
    · exact ih
theorem lfs_nd (go sh : Int → Int) : ∀ m : Nat, (lfs go sh m).Nodup := by
  intro m
  induction m with
  | zero => exact List.nodup_nil
  | succ m ih =>
    rw [show lfs go sh (m + 1) = (if go (m : Int) < sh (m : Int) then lfs go sh m ++ [(m : Int)] else lfs go sh m) from rfl]
    split
    · refine List.nodup_append.mpr ⟨ih, by simp, fun a ha b hb => ?_⟩
      have h1 := (lfs_mem go sh a m).mp ha
      have h2 : b = m := by simpa using hb
      omega
    · exact ih
theorem mvL_nd (go sh : Int → Int) (n : Int) : (mvL go sh n).Nodup := by
  refine List.nodup_append.mpr ⟨rts_nd go sh _, lfs_nd go sh _, fun a ha b hb e => ?_⟩
  subst e
  have h1 := (rts_mem go sh a _).mp ha
  have h2 := (lfs_mem go sh a _).mp hb
  omega
theorem mvL_mem (go sh : Int → Int) {n b : Int} (hn : 0 ≤ n) : b ∈ mvL go sh n ↔ (0 ≤ b ∧ b < n ∧ go b ≠ sh b) := by
  unfold mvL
  rw [List.mem_append, rts_mem, lfs_mem]
  constructor
  · rintro (h | h)
    · exact ⟨h.1, by omega, by omega⟩
    · exact ⟨h.1, by omega, by omega⟩
  · intro h
    by_cases q : sh b < go b
    · exact Or.inl ⟨h.1, by omega, q⟩
    · exact Or.inr ⟨h.1, by omega, by omega⟩
/-- the entry of a move -/
def mvE (wid shf go : Int → Int) (b : Int) : En5 := (if shf b < go b then 1 else 2, b, wid b, shf b, go b)
theorem take_s {l : List Int} {k : Nat} {b : Int} (h : l[k]? = some b) : l.take (k + 1) = l.take k ++ [b] := by
  rw [List.take_succ, h]
  rfl
theorem take_nd {l : List Int} {k : Nat} {b : Int} (hl : l.Nodup) (h : l[k]? = some b) : b ∉ l.take k := by
  intro hb
  obtain ⟨j, hj⟩ := List.getElem?_of_mem hb
  have hjk : j < k := by
    have := (List.getElem?_eq_some_iff.mp hj).1
    simp at this
    omega
  rw [List.getElem?_take_of_lt hjk] at hj
  have hjl := (List.getElem?_eq_some_iff.mp hj).1
  have hkl := (List.getElem?_eq_some_iff.mp h).1
  have e1 := (List.getElem?_eq_some_iff.mp hj).2
  have e2 := (List.getElem?_eq_some_iff.mp h).2
  exact (List.pairwise_iff_getElem.mp hl) j k hjl hkl hjk (e1.trans e2.symm)
def Mid (τ : St) (shf hnd : Int → Int) (hall : Int) (go wid : Int → Int) (l : List Int) (k : Nat) : Prop :=
  (∀ b, τ 11 b = if b ∈ l.take k then go b else shf b) ∧ (∀ b, τ 12 b = if b ∈ l.take k then wr (hnd b + 1) else hnd b) ∧ τ 0 7 = wr (hall + k) ∧ (τ 4 5 = if k < l.length then (l.length : Int) else 0) ∧ (τ 4 6 = if k < l.length then (k : Int) else 0) ∧ ∀ (j : Nat) (b : Int), l[j]? = some b → τ 51 j = b ∧ τ 52 j = wid b ∧ τ 53 j = shf b ∧ τ 54 j = go b
theorem Mid.step {τ υ : St} {shf hnd : Int → Int} {hall : Int} {go wid : Int → Int} {l : List Int} {k : Nat} {b : Int} (hl : l.Nodup) (hb : l[k]? = some b) (h : Mid τ shf hnd hall go wid l k) (h11 : υ 11 = upF (τ 11) (τ 51 (τ 4 6)) (τ 54 (τ 4 6))) (h12 : υ 12 = upF (τ 12) (τ 51 (τ 4 6)) (wr (τ 12 (τ 51 (τ 4 6)) + 1))) (h7 : υ 0 7 = wr (τ 0 7 + 1)) (h5 : υ 4 5 = if τ 4 6 + 1 < τ 4 5 then τ 4 5 else 0) (h6 : υ 4 6 = if τ 4 6 + 1 < τ 4 5 then τ 4 6 + 1 else 0) (hk : ∀ k, k = 51 ∨ k = 52 ∨ k = 53 ∨ k = 54 → υ k = τ k) : Mid υ shf hnd hall go wid l (k + 1) := by
  obtain ⟨g1, g2, g3, g4, g5, g6⟩ := h
  have hkl := (List.getElem?_eq_some_iff.mp hb).1
  rw [if_pos hkl] at g4 g5
  have r := g6 k b hb
  have hnt := take_nd hl hb
  rw [g5, r.1] at h11 h12
  rw [r.2.2.2] at h11
  refine ⟨fun x => ?_, fun x => ?_, ?_, ?_, ?_, fun j x hj => ?_⟩
  · rw [h11, take_s hb]
    unfold upF
    by_cases e : x = b
    · subst e; rw [if_pos rfl, if_pos (by simp)]
    · rw [if_neg e, g1 x]
      by_cases m : x ∈ l.take k
      · rw [if_pos m, if_pos (List.mem_append_left _ m)]
      · rw [if_neg m, if_neg (by simp [m, e])]
  · rw [h12, take_s hb]
    unfold upF
    by_cases e : x = b
    · subst e; rw [if_pos rfl, if_pos (by simp), g2, if_neg hnt]
    · rw [if_neg e, g2 x]
      by_cases m : x ∈ l.take k
      · rw [if_pos m, if_pos (List.mem_append_left _ m)]
      · rw [if_neg m, if_neg (by simp [m, e])]
  · rw [h7, g3, wr_add, show hall + (k : Int) + 1 = hall + ((k + 1 : Nat) : Int) by omega]
  · rw [h5, g4, g5]
    by_cases q : k + 1 < l.length
    · rw [if_pos q, if_pos (by omega)]
    · rw [if_neg q, if_neg (by omega)]
  · rw [h6, g4, g5]
    by_cases q : k + 1 < l.length
    · rw [if_pos q, if_pos (by omega)]; omega
    · rw [if_neg q, if_neg (by omega)]
  · rw [hk 51 (by omega), hk 52 (by omega), hk 53 (by omega), hk 54 (by omega)]
    exact g6 j x hj

set_option maxRecDepth 100000 in
set_option maxHeartbeats 4000000 in
theorem ct_X6_moveAtOnce (σ : St) (hn : 0 ≤ σ 0 6 ∧ σ 0 6 ≤ 60) (hes : ∃ es, RepC σ es) : Wp mX6_moveAtOnce 3 (fun z τ => (∀ b, 0 ≤ b → b < σ 0 6 → τ 11 b = σ 14 b) ∧ (∀ b, 0 ≤ b → b < σ 0 6 → τ 12 b = if σ 14 b ≠ σ 11 b then wr (σ 12 b + 1) else σ 12 b) ∧ τ 0 6 = σ 0 6 ∧ τ 0 7 = wr (σ 0 7 + ((mvL (σ 14) (σ 11) (σ 0 6)).length : Int)) ∧ τ 4 5 = 0 ∧ τ 4 6 = 0 ∧ (∀ es, RepC σ es → RepC τ (es ++ (mvL (σ 14) (σ 11) (σ 0 6)).map (mvE (σ 9) (σ 11) (σ 14)))) ∧ ∀ k, k ≠ 0 → k ≠ 3 → k ≠ 4 → k ≠ 11 → k ≠ 12 → k ≠ 49 → k ≠ 50 → k ≠ 51 → k ≠ 52 → k ≠ 53 → k ≠ 54 → τ k = σ k) 0 [some (.inr 6), none, none] [] σ := by
  refine Wp.rg (fun hR => ?_)
  refine w_aload_n dX6_moveAtOnce_0 rfl ?_
  refine gf_X6_40 rfl dX6_moveAtOnce_1 ?_
  refine w_aload_n dX6_moveAtOnce_4 rfl ?_
  refine gf_X6_26 rfl dX6_moveAtOnce_5 ?_
  refine w_aload_n dX6_moveAtOnce_8 rfl ?_
  refine gf_X6_33 rfl dX6_moveAtOnce_9 ?_
  refine gf_X6_106 rfl dX6_moveAtOnce_12 ?_
  refine w_iconst dX6_moveAtOnce_15 ?_
  refine cv_X6_238 rfl dX6_moveAtOnce_16 (Nat.le_of_ble_eq_true rfl) (Nat.le_of_ble_eq_true rfl) (Wp.mono (ct_X4_make σ 0 hn (by omega)) (fun z_ τ_ hq_ => ?_))
  obtain ⟨f0, f1, f2, f3, f4⟩ := hq_
  have hnd := mvL_nd (σ 14) (σ 11) (σ 0 6)
  have hml := mv_len (σ 14) (σ 11) (σ 0 6).toNat
  have hlen : ((mvL (σ 14) (σ 11) (σ 0 6)).length : Int) ≤ 60 := by unfold mvL; rw [List.length_append]; omega
  refine w_aload_n dX6_moveAtOnce_19 rfl ?_
  refine gf_X6_40 rfl dX6_moveAtOnce_20 ?_
  refine gf_X6_145 rfl dX6_moveAtOnce_23 ?_
  refine w_istore_n dX6_moveAtOnce_26 (Nat.le_of_ble_eq_true rfl) ?_
  refine w_iconst dX6_moveAtOnce_27 ?_
  refine w_istore_n dX6_moveAtOnce_28 (Nat.le_of_ble_eq_true rfl) ?_
  rw [f0.1]
  refine up_to (((mvL (σ 14) (σ 11) (σ 0 6)).length : Int)) (fun i => 0 ≤ i → ∀ (τ : St), (∃ k : Nat, (k : Int) = i ∧ k ≤ (mvL (σ 14) (σ 11) (σ 0 6)).length ∧ Mid τ (σ 11) (σ 12) (σ 0 7) (σ 14) (σ 9) (mvL (σ 14) (σ 11) (σ 0 6)) k ∧ τ 0 6 = σ 0 6 ∧ (∀ es, RepC σ es → RepC τ (es ++ ((mvL (σ 14) (σ 11) (σ 0 6)).take k).map (mvE (σ 9) (σ 11) (σ 14)))) ∧ (∃ es, RepC σ es) ∧ ∀ k, k ≠ 0 → k ≠ 3 → k ≠ 4 → k ≠ 11 → k ≠ 12 → k ≠ 49 → k ≠ 50 → k ≠ 51 → k ≠ 52 → k ≠ 53 → k ≠ 54 → τ k = σ k) → Wp mX6_moveAtOnce 3 (fun z τ => (∀ b, 0 ≤ b → b < σ 0 6 → τ 11 b = σ 14 b) ∧ (∀ b, 0 ≤ b → b < σ 0 6 → τ 12 b = if σ 14 b ≠ σ 11 b then wr (σ 12 b + 1) else σ 12 b) ∧ τ 0 6 = σ 0 6 ∧ τ 0 7 = wr (σ 0 7 + ((mvL (σ 14) (σ 11) (σ 0 6)).length : Int)) ∧ τ 4 5 = 0 ∧ τ 4 6 = 0 ∧ (∀ es, RepC σ es → RepC τ (es ++ (mvL (σ 14) (σ 11) (σ 0 6)).map (mvE (σ 9) (σ 11) (σ 14)))) ∧ ∀ k, k ≠ 0 → k ≠ 3 → k ≠ 4 → k ≠ 11 → k ≠ 12 → k ≠ 49 → k ≠ 50 → k ≠ 51 → k ≠ 52 → k ≠ 53 → k ≠ 54 → τ k = σ k) 29 [some (.inr 6), some (.inl ((mvL (σ 14) (σ 11) (σ 0 6)).length : Int)), some (.inl i)] [] τ) (fun i hi ih h0 τ hinv => ?_) (0) (by omega) (by omega) _ ⟨0, rfl, by omega, ⟨?_, ?_, ?_, ?_, ?_, ?_⟩, ?_, ?_, hes, ?_⟩
  rotate_left 1
  · intro b; rw [f4 11 (by decide) (by decide) (by decide) (by decide) (by decide) (by decide)]; simp
  · intro b; rw [f4 12 (by decide) (by decide) (by decide) (by decide) (by decide) (by decide)]; simp
  · rw [f4 0 (by decide) (by decide) (by decide) (by decide) (by decide) (by decide)]
    rw [show σ 0 7 + ((0 : Nat) : Int) = σ 0 7 by omega, wr_of (hR 0 7)]
  · rw [f0.1]; split <;> omega
  · rw [f1]; split <;> rfl
  · exact f0.2
  · rw [f4 0 (by decide) (by decide) (by decide) (by decide) (by decide) (by decide)]
  · intro es he
    simp
    exact he.keep (f4 3 (by decide) (by decide) (by decide) (by decide) (by decide) (by decide)) (f4 49 (by decide) (by decide) (by decide) (by decide) (by decide) (by decide))
  · intro j j0 j3 j4 j11 j12 j49 j50 j51 j52 j53 j54
    exact f4 j j4 j50 j51 j52 j53 j54
  obtain ⟨k, q0, q1, q2, q3, q4, q5, q6⟩ := hinv
  refine w_iload_n dX6_moveAtOnce_29 rfl ?_
  refine w_iload_n dX6_moveAtOnce_30 rfl ?_
  refine w_icmp_ge (tgt := 45) dX6_moveAtOnce_31 (by decide) (by omega) (by omega) (fun c_31 => ?_) (fun c_31 => ?_)
  · refine w_ret dX6_moveAtOnce_45 rfl ?_
    have hk : k = (mvL (σ 14) (σ 11) (σ 0 6)).length := by omega
    have tk : (mvL (σ 14) (σ 11) (σ 0 6)).take k = (mvL (σ 14) (σ 11) (σ 0 6)) := List.take_of_length_le (by omega)
    rw [tk] at q4
    have g5 := q2.2.2.2.1
    have g6 := q2.2.2.2.2.1
    rw [if_neg (by omega)] at g5 g6
    refine ⟨fun b b0 b1 => ?_, fun b b0 b1 => ?_, q3, by rw [q2.2.2.1, hk], g5, g6, q4, q6⟩
    · rw [q2.1 b, tk]
      by_cases m : b ∈ (mvL (σ 14) (σ 11) (σ 0 6))
      · rw [if_pos m]
      · rw [if_neg m]
        by_cases e : σ 14 b = σ 11 b
        · exact e.symm
        · exact absurd ((mvL_mem (σ 14) (σ 11) hn.1).mpr ⟨b0, b1, e⟩) m
    · rw [q2.2.1 b, tk]
      by_cases m : b ∈ (mvL (σ 14) (σ 11) (σ 0 6))
      · rw [if_pos m, if_pos ((mvL_mem (σ 14) (σ 11) hn.1).mp m).2.2]
      · rw [if_neg m, if_neg (fun e => m ((mvL_mem (σ 14) (σ 11) hn.1).mpr ⟨b0, b1, e⟩))]
  · have hkl : k < (mvL (σ 14) (σ 11) (σ 0 6)).length := by omega
    have hb := List.getElem?_eq_getElem hkl
    generalize (mvL (σ 14) (σ 11) (σ 0 6))[k] = b at hb
    have g5 := q2.2.2.2.1
    have g6 := q2.2.2.2.2.1
    rw [if_pos hkl] at g5 g6
    have r := q2.2.2.2.2.2 k b hb
    have hbm := (mvL_mem (σ 14) (σ 11) hn.1).mp (List.mem_of_getElem? hb)
    obtain ⟨es0, he0⟩ := q5
    have hrc := q4 es0 he0
    refine w_aload_n dX6_moveAtOnce_34 rfl ?_
    refine cv_X6_242 rfl dX6_moveAtOnce_35 (Nat.le_of_ble_eq_true rfl) (Nat.le_of_ble_eq_true rfl) (Wp.mono (ct_X6_makeNextMove τ (by rw [g5, g6]; omega) (by rw [g6, r.1]; omega) hrc.1 hrc.cnt) (fun z_ τ_ hq_ => ?_))
    obtain ⟨_, m1, m2, m3, m4, m5, m6, m7, m8, m9⟩ := hq_
    refine w_pop dX6_moveAtOnce_38 ?_
    refine w_iinc dX6_moveAtOnce_39 (Nat.le_of_ble_eq_true rfl) rfl ?_
    refine w_goto (tgt := 29) dX6_moveAtOnce_42 (by decide) ?_
    refine ih (by omega) (by omega) _ ⟨k + 1, by omega, by omega, q2.step hnd hb m2 m3 m5 m6 m7 (fun k hk => m9 k (by omega) (by omega) (by omega) (by omega) (by omega) (by omega)), by rw [m4]; exact q3, ?_, ⟨es0, he0⟩, ?_⟩
    · intro es he
      have := m1 _ (q4 es he)
      rw [take_s hb, List.map_append, ← List.append_assoc]
      rw [g6, r.1, r.2.1, r.2.2.1, r.2.2.2] at this
      exact this
    · intro j j0 j3 j4 j11 j12 j49 j50 j51 j52 j53 j54
      rw [m9 j j0 j3 j4 j11 j12 j49]
      exact q6 j j0 j3 j4 j11 j12 j49 j50 j51 j52 j53 j54

