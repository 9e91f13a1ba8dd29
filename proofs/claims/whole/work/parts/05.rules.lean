theorem oi {z : Int} (h : InR z) : (Int32.ofInt z).toInt = z := Int32.toInt_ofInt_of_le (by omega) (by omega)
theorem oi_lt {a b : Int} (ha : InR a) (hb : InR b) : Int32.ofInt a < Int32.ofInt b ↔ a < b := by rw [Int32.lt_iff_toInt_lt, oi ha, oi hb]
theorem oi_le {a b : Int} (ha : InR a) (hb : InR b) : Int32.ofInt a ≤ Int32.ofInt b ↔ a ≤ b := by rw [Int32.le_iff_toInt_le, oi ha, oi hb]
theorem oi_eq {a b : Int} (ha : InR a) (hb : InR b) : Int32.ofInt a = Int32.ofInt b ↔ a = b := by rw [← Int32.toInt_inj, oi ha, oi hb]
theorem oi_0 : (0 : Int32) = Int32.ofInt 0 := by decide
theorem oi_cl {i : Int} (h0 : 0 ≤ i) (h : InR i) : ((Int32.ofInt i).toNatClampNeg : Int) = i := by
  rw [← Int32.toNat_toInt, oi h]
  omega
theorem oi_in {i : Int} {n : Nat} (h0 : 0 ≤ i) (h1 : i < n) (h : InR i) : vp_in (Int32.ofInt i) n := by
  rw [vp_in_iff, oi h]
  exact ⟨h0, h1⟩
theorem oi_div {a b : Int} (ha : InR a) (hb : InR b) (h : 0 < b) : Int32.ofInt a / Int32.ofInt b = Int32.ofInt (a.tdiv b) := by
  apply Int32.toInt_inj.mp
  have hr : InR (a.tdiv b) := by
    rcases Int.le_total 0 a with h0 | h0
    · rw [Int.tdiv_eq_ediv_of_nonneg h0]
      have h1 := Int.ediv_nonneg h0 (Int.le_of_lt h)
      have h2 := Int.ediv_le_self b h0
      omega
    · have e : a.tdiv b = -((-a).tdiv b) := by rw [Int.neg_tdiv, Int.neg_neg]
      rw [e, Int.tdiv_eq_ediv_of_nonneg (by omega)]
      have h1 := Int.ediv_nonneg (a := -a) (by omega) (Int.le_of_lt h)
      have h2 := Int.ediv_le_self (a := -a) b (by omega)
      omega
  rw [Int32.toInt_div_of_ne_right _ _ (fun q => by
    have := congrArg Int32.toInt q
    rw [oi hb] at this
    have e : (-1 : Int32).toInt = -1 := by decide
    omega), oi ha, oi hb, oi hr]
theorem oi_rem {a b : Int} (ha : InR a) (hb : InR b) (h : 0 < b) : Int32.ofInt a - Int32.ofInt a / Int32.ofInt b * Int32.ofInt b = Int32.ofInt (a.tmod b) := by
  rw [oi_div ha hb h, ← Int32.ofInt_mul, ← Int32.ofInt_sub]
  congr 1
  have := Int.mul_tdiv_add_tmod a b
  rw [Int.mul_comm] at this
  omega
def lvl (ad : Nat → Nat) : Nat → List (Option PV) → List (Nat × Value)
  | _, [] => []
  | i, some v :: r => (i, rv ad v) :: lvl ad (i + 1) r
  | i, none :: r => lvl ad (i + 1) r
theorem lvl_mem (ad : Nat → Nat) : ∀ (ls : List (Option PV)) (i : Nat) (q : Nat × Value), q ∈ lvl ad i ls → ∃ (k : Nat) (v : PV), ls[k]? = some (some v) ∧ q = (i + k, rv ad v)
  | [], _, _, h => by cases h
  | some v :: r, i, q, h => by
    rcases List.mem_cons.mp h with h | h
    · exact ⟨0, v, rfl, by simpa using h⟩
    · obtain ⟨k, w, h1, h2⟩ := lvl_mem ad r (i + 1) q h
      exact ⟨k + 1, w, by simpa using h1, by rw [h2, show i + 1 + k = i + (k + 1) by omega]⟩
  | none :: r, i, q, h => by
    obtain ⟨k, w, h1, h2⟩ := lvl_mem ad r (i + 1) q h
    exact ⟨k + 1, w, by simpa using h1, by rw [h2, show i + 1 + k = i + (k + 1) by omega]⟩
theorem mem_lvl (ad : Nat → Nat) : ∀ (ls : List (Option PV)) (i k : Nat) (v : PV), ls[k]? = some (some v) → (i + k, rv ad v) ∈ lvl ad i ls
  | [], _, _, _, h => by simp at h
  | some w :: r, i, 0, v, h => by
    have : w = v := by simpa using h
    subst this
    exact List.mem_cons_self
  | none :: r, i, 0, v, h => by simp at h
  | some w :: r, i, k + 1, v, h => by
    have := mem_lvl ad r (i + 1) k v (by simpa using h)
    rw [show i + 1 + k = i + (k + 1) by omega] at this
    exact List.mem_cons_of_mem _ this
  | none :: r, i, k + 1, v, h => by
    have := mem_lvl ad r (i + 1) k v (by simpa using h)
    rw [show i + 1 + k = i + (k + 1) by omega] at this
    exact this
theorem LV.has {ad : Nat → Nat} {lsA : Array Slot} {nL : Nat} {ls : List (Option PV)} (h : LV ad lsA nL ls) : lv_has lsA nL (lvl ad 0 ls) := by
  refine ⟨h.1, h.2.1, fun q hq => ?_⟩
  obtain ⟨k, v, h1, h2⟩ := lvl_mem ad ls 0 q hq
  rw [h2]
  simpa using h.2.2 k v h1
theorem LV.set {ad : Nat → Nat} {lsA : Array Slot} {nL i : Nat} {ls : List (Option PV)} {v : PV} (h : lv_has lsA nL ((i, rv ad v) :: (lvl ad 0 ls).filter (fun q => !(q.1 == i) && !(q.1 + 1 == i && q.2.category == 2)))) : LV ad lsA nL (ls.set i (some v)) := by
  refine ⟨h.1, h.2.1, fun k w hk => ?_⟩
  by_cases hki : k = i
  · subst hki
    have : w = v := by
      have hl : k < ls.length := by
        have := (List.getElem?_eq_some_iff.mp hk).1
        simpa using this
      rw [List.getElem?_set_self hl] at hk
      simpa using hk.symm
    subst this
    exact h.2.2 _ List.mem_cons_self
  · rw [List.getElem?_set_ne (Ne.symm hki)] at hk
    have h1 := mem_lvl ad ls 0 k w hk
    rw [Nat.zero_add] at h1
    refine h.2.2 (k, rv ad w) (List.mem_cons_of_mem _ (List.mem_filter.mpr ⟨h1, ?_⟩))
    simp [hki, rv_cat]
theorem LV.get {ad : Nat → Nat} {lsA : Array Slot} {nL k : Nat} {ls : List (Option PV)} {v : PV} (h : LV ad lsA nL ls) (hk : ls[k]? = some (some v)) : lsA[k]? = some (.val (rv ad v)) := h.2.2 k v hk
theorem shT_n {k n : Nat} (h : shT[k]? = some (.inr (.inl n))) : n ≤ 1000 := by
  have h1 : shT.all (fun sh => match sh with | .inr (.inl n) => decide (n ≤ 1000) | _ => true) = true := by decide +kernel
  have h2 := List.all_eq_true.mp h1 _ (List.mem_of_getElem? h)
  simpa using h2
theorem shT_r {k b n : Nat} (h : shT[k]? = some (.inr (.inr (b, n)))) : n ≤ 1000 := by
  have h1 : shT.all (fun sh => match sh with | .inr (.inr (b, n)) => decide (n ≤ 1000) | _ => true) = true := by decide +kernel
  have h2 := List.all_eq_true.mp h1 _ (List.mem_of_getElem? h)
  simpa using h2
theorem catsum (ad : Nat → Nat) : ∀ st : List PV, ((st.map (rv ad)).map fun v => v.category).sum = st.length
  | [] => rfl
  | x :: r => by
    simp only [List.map_cons, List.sum_cons, rv_cat, List.length_cons]
    rw [catsum ad r]
    omega
section RULES
variable {M : MI} {d pc : Nat} {Q : Int → St → Prop} {ls : List (Option PV)} {st : List PV} {σ : St}
theorem w_iconst {n : Int} (hd : decode M.2.1 pc = .ok (.iconst n, 1)) (h : Wp M d Q (pc + 1) ls (.inl n :: st) σ) : Wp M d Q pc ls st σ := by
  intro p l e s m args below meth c cI cA D ad A hc H locs lsA hr hP hS hl
  exact lv_iconst hc.1 hc.2.1 hd rfl (h p l e s m args below meth c cI cA D ad A hc H locs lsA hr hP hS hl)
theorem w_bipush {n : Int} (hd : decode M.2.1 pc = .ok (.bipush n, 2)) (hv : (Int8.ofInt n).toInt32 = Int32.ofInt n) (h : Wp M d Q (pc + 2) ls (.inl n :: st) σ) : Wp M d Q pc ls st σ := by
  intro p l e s m args below meth c cI cA D ad A hc H locs lsA hr hP hS hl
  exact lv_bipush hc.1 hc.2.1 hd hv (h p l e s m args below meth c cI cA D ad A hc H locs lsA hr hP hS hl)
theorem w_sipush {n : Int} (hd : decode M.2.1 pc = .ok (.sipush n, 3)) (hv : (Int16.ofInt n).toInt32 = Int32.ofInt n) (h : Wp M d Q (pc + 3) ls (.inl n :: st) σ) : Wp M d Q pc ls st σ := by
  intro p l e s m args below meth c cI cA D ad A hc H locs lsA hr hP hS hl
  exact lv_sipush hc.1 hc.2.1 hd hv (h p l e s m args below meth c cI cA D ad A hc H locs lsA hr hP hS hl)
theorem w_ldc {idx : Nat} {n : Int} (hd : decode M.2.1 pc = .ok (.ldc idx, 2)) (hw : Cond.constant M.1.cls idx (Int32.ofInt n) ∈ TB) (h : Wp M d Q (pc + 2) ls (.inl n :: st) σ) : Wp M d Q pc ls st σ := by
  intro p l e s m args below meth c cI cA D ad A hc H locs lsA hr hP hS hl
  exact lv_ldc hc.1 hc.2.1 hc.2.2.2.2.2.1 (hc.2.2.2.2.2.2.1 _ hw) hd (h p l e s m args below meth c cI cA D ad A hc H locs lsA hr hP hS hl)
theorem w_iload_n {k : Fin 4} {z : Int} (hd : decode M.2.1 pc = .ok (.iload_n k, 1)) (hv : ls[(k : Nat)]? = some (some (.inl z))) (h : Wp M d Q (pc + 1) ls (.inl z :: st) σ) : Wp M d Q pc ls st σ := by
  intro p l e s m args below meth c cI cA D ad A hc H locs lsA hr hP hS hl
  exact lv_iload_n hc.1 hc.2.1 hd rfl (hl.get hv) (h p l e s m args below meth c cI cA D ad A hc H locs lsA hr hP hS hl)
theorem w_iload {k : Nat} {z : Int} (hd : decode M.2.1 pc = .ok (.iload k, 2)) (hv : ls[k]? = some (some (.inl z))) (h : Wp M d Q (pc + 2) ls (.inl z :: st) σ) : Wp M d Q pc ls st σ := by
  intro p l e s m args below meth c cI cA D ad A hc H locs lsA hr hP hS hl
  exact lv_iload hc.1 hc.2.1 hd (hl.get hv) (h p l e s m args below meth c cI cA D ad A hc H locs lsA hr hP hS hl)
theorem w_aload_n {k : Fin 4} {z : Nat} (hd : decode M.2.1 pc = .ok (.aload_n k, 1)) (hv : ls[(k : Nat)]? = some (some (.inr z))) (h : Wp M d Q (pc + 1) ls (.inr z :: st) σ) : Wp M d Q pc ls st σ := by
  intro p l e s m args below meth c cI cA D ad A hc H locs lsA hr hP hS hl
  exact lv_aload_n hc.1 hc.2.1 hd rfl (hl.get hv) (h p l e s m args below meth c cI cA D ad A hc H locs lsA hr hP hS hl)
theorem w_aload {k : Nat} {z : Nat} (hd : decode M.2.1 pc = .ok (.aload k, 2)) (hv : ls[k]? = some (some (.inr z))) (h : Wp M d Q (pc + 2) ls (.inr z :: st) σ) : Wp M d Q pc ls st σ := by
  intro p l e s m args below meth c cI cA D ad A hc H locs lsA hr hP hS hl
  exact lv_aload hc.1 hc.2.1 hd (hl.get hv) (h p l e s m args below meth c cI cA D ad A hc H locs lsA hr hP hS hl)
theorem w_istore_n {k : Fin 4} {z : Int} (hd : decode M.2.1 pc = .ok (.istore_n k, 1)) (hn : (k : Nat) < M.2.2.1) (h : Wp M d Q (pc + 1) (ls.set (k : Nat) (some (.inl z))) st σ) : Wp M d Q pc ls (.inl z :: st) σ := by
  intro p l e s m args below meth c cI cA D ad A hc H locs lsA hr hP hS hl
  exact lv_istore_n hc.1 hc.2.1 hd rfl hl.has hn rfl (fun ls2 h2 => h p l e s m args below meth c cI cA D ad A hc H locs ls2 hr hP hS (LV.set (v := .inl z) h2))
theorem w_istore {k : Nat} {z : Int} (hd : decode M.2.1 pc = .ok (.istore k, 2)) (hn : (k : Nat) < M.2.2.1) (h : Wp M d Q (pc + 2) (ls.set (k : Nat) (some (.inl z))) st σ) : Wp M d Q pc ls (.inl z :: st) σ := by
  intro p l e s m args below meth c cI cA D ad A hc H locs lsA hr hP hS hl
  exact lv_istore hc.1 hc.2.1 hd hl.has hn rfl (fun ls2 h2 => h p l e s m args below meth c cI cA D ad A hc H locs ls2 hr hP hS (LV.set (v := .inl z) h2))
theorem w_astore_n {k : Fin 4} {z : Nat} (hd : decode M.2.1 pc = .ok (.astore_n k, 1)) (hn : (k : Nat) < M.2.2.1) (h : Wp M d Q (pc + 1) (ls.set (k : Nat) (some (.inr z))) st σ) : Wp M d Q pc ls (.inr z :: st) σ := by
  intro p l e s m args below meth c cI cA D ad A hc H locs lsA hr hP hS hl
  exact lv_astore_n hc.1 hc.2.1 hd rfl hl.has hn rfl (fun ls2 h2 => h p l e s m args below meth c cI cA D ad A hc H locs ls2 hr hP hS (LV.set (v := .inr z) h2))
theorem w_astore {k : Nat} {z : Nat} (hd : decode M.2.1 pc = .ok (.astore k, 2)) (hn : (k : Nat) < M.2.2.1) (h : Wp M d Q (pc + 2) (ls.set (k : Nat) (some (.inr z))) st σ) : Wp M d Q pc ls (.inr z :: st) σ := by
  intro p l e s m args below meth c cI cA D ad A hc H locs lsA hr hP hS hl
  exact lv_astore hc.1 hc.2.1 hd hl.has hn rfl (fun ls2 h2 => h p l e s m args below meth c cI cA D ad A hc H locs ls2 hr hP hS (LV.set (v := .inr z) h2))
theorem w_iinc {k : Nat} {n z : Int} (hd : decode M.2.1 pc = .ok (.iinc k n, 3)) (hn : k < M.2.2.1) (hv : ls[k]? = some (some (.inl z))) (h : Wp M d Q (pc + 3) (ls.set k (some (.inl (z + n)))) st σ) : Wp M d Q pc ls st σ := by
  intro p l e s m args below meth c cI cA D ad A hc H locs lsA hr hP hS hl
  obtain ⟨q, hq⟩ := List.getElem?_of_mem (mem_lvl ad ls 0 k (.inl z) hv)
  rw [Nat.zero_add] at hq
  exact lv_iinc hc.1 hc.2.1 hd hl.has hq (Int32.ofInt_add z n).symm hn rfl (fun ls2 h2 => h p l e s m args below meth c cI cA D ad A hc H locs ls2 hr hP hS (LV.set (v := .inl (z + n)) h2))
theorem w_iadd {a b : Int} (hd : decode M.2.1 pc = .ok (.iadd, 1)) (h : Wp M d Q (pc + 1) ls (.inl (a + b) :: st) σ) : Wp M d Q pc ls (.inl b :: .inl a :: st) σ := by
  intro p l e s m args below meth c cI cA D ad A hc H locs lsA hr hP hS hl
  have h1 := h p l e s m args below meth c cI cA D ad A hc H locs lsA hr hP hS hl
  simp only [List.map_cons, rv, Int32.ofInt_add] at h1
  exact lv_iadd hc.1 hc.2.1 hd h1
theorem w_isub {a b : Int} (hd : decode M.2.1 pc = .ok (.isub, 1)) (h : Wp M d Q (pc + 1) ls (.inl (a - b) :: st) σ) : Wp M d Q pc ls (.inl b :: .inl a :: st) σ := by
  intro p l e s m args below meth c cI cA D ad A hc H locs lsA hr hP hS hl
  have h1 := h p l e s m args below meth c cI cA D ad A hc H locs lsA hr hP hS hl
  simp only [List.map_cons, rv, Int32.ofInt_sub] at h1
  exact lv_isub hc.1 hc.2.1 hd h1
theorem w_imul {a b : Int} (hd : decode M.2.1 pc = .ok (.imul, 1)) (h : Wp M d Q (pc + 1) ls (.inl (a * b) :: st) σ) : Wp M d Q pc ls (.inl b :: .inl a :: st) σ := by
  intro p l e s m args below meth c cI cA D ad A hc H locs lsA hr hP hS hl
  have h1 := h p l e s m args below meth c cI cA D ad A hc H locs lsA hr hP hS hl
  simp only [List.map_cons, rv, Int32.ofInt_mul] at h1
  exact lv_imul hc.1 hc.2.1 hd h1
theorem w_idiv {a b : Int} (hd : decode M.2.1 pc = .ok (.idiv, 1)) (ha : InR a) (hb : InR b) (hp : 0 < b) (h : Wp M d Q (pc + 1) ls (.inl (a.tdiv b) :: st) σ) : Wp M d Q pc ls (.inl b :: .inl a :: st) σ := by
  intro p l e s m args below meth c cI cA D ad A hc H locs lsA hr hP hS hl
  have h1 := h p l e s m args below meth c cI cA D ad A hc H locs lsA hr hP hS hl
  simp only [List.map_cons, rv] at h1
  rw [← oi_div ha hb hp] at h1
  refine lv_idiv hc.1 hc.2.1 hd ?_ h1
  rw [oi_0, oi_eq hb (by omega)]
  omega
theorem w_idivN {a b : Int} (hd : decode M.2.1 pc = .ok (.idiv, 1)) (h0 : 0 ≤ a) (ha : InR a) (hb : InR b) (hp : 0 < b) (h : Wp M d Q (pc + 1) ls (.inl (a / b) :: st) σ) : Wp M d Q pc ls (.inl b :: .inl a :: st) σ := by
  intro p l e s m args below meth c cI cA D ad A hc H locs lsA hr hP hS hl
  have h1 := h p l e s m args below meth c cI cA D ad A hc H locs lsA hr hP hS hl
  rw [← Int.tdiv_eq_ediv_of_nonneg h0] at h1
  simp only [List.map_cons, rv] at h1
  rw [← oi_div ha hb hp] at h1
  refine lv_idiv hc.1 hc.2.1 hd ?_ h1
  rw [oi_0, oi_eq hb (by omega)]
  omega
theorem w_irem {a b : Int} (hd : decode M.2.1 pc = .ok (.irem, 1)) (ha : InR a) (hb : InR b) (hp : 0 < b) (h : Wp M d Q (pc + 1) ls (.inl (a.tmod b) :: st) σ) : Wp M d Q pc ls (.inl b :: .inl a :: st) σ := by
  intro p l e s m args below meth c cI cA D ad A hc H locs lsA hr hP hS hl
  have h1 := h p l e s m args below meth c cI cA D ad A hc H locs lsA hr hP hS hl
  simp only [List.map_cons, rv] at h1
  rw [← oi_rem ha hb hp] at h1
  refine lv_irem hc.1 hc.2.1 hd ?_ h1
  rw [oi_0, oi_eq hb (by omega)]
  omega
theorem w_iremN {a b : Int} (hd : decode M.2.1 pc = .ok (.irem, 1)) (h0 : 0 ≤ a) (ha : InR a) (hb : InR b) (hp : 0 < b) (h : Wp M d Q (pc + 1) ls (.inl (a % b) :: st) σ) : Wp M d Q pc ls (.inl b :: .inl a :: st) σ := by
  intro p l e s m args below meth c cI cA D ad A hc H locs lsA hr hP hS hl
  have h1 := h p l e s m args below meth c cI cA D ad A hc H locs lsA hr hP hS hl
  rw [← Int.tmod_eq_emod_of_nonneg h0] at h1
  simp only [List.map_cons, rv] at h1
  rw [← oi_rem ha hb hp] at h1
  refine lv_irem hc.1 hc.2.1 hd ?_ h1
  rw [oi_0, oi_eq hb (by omega)]
  omega
theorem w_dup {v : PV} (hd : decode M.2.1 pc = .ok (.dup, 1)) (h : Wp M d Q (pc + 1) ls (v :: v :: st) σ) : Wp M d Q pc ls (v :: st) σ := by
  intro p l e s m args below meth c cI cA D ad A hc H locs lsA hr hP hS hl
  exact lv_dup hc.1 hc.2.1 hd (rv_cat ad v) (h p l e s m args below meth c cI cA D ad A hc H locs lsA hr hP hS hl)
theorem w_pop {v : PV} (hd : decode M.2.1 pc = .ok (.pop, 1)) (h : Wp M d Q (pc + 1) ls st σ) : Wp M d Q pc ls (v :: st) σ := by
  intro p l e s m args below meth c cI cA D ad A hc H locs lsA hr hP hS hl
  exact lv_pop hc.1 hc.2.1 hd (rv_cat ad v) (h p l e s m args below meth c cI cA D ad A hc H locs lsA hr hP hS hl)
theorem w_dup2 {v w : PV} (hd : decode M.2.1 pc = .ok (.dup2, 1)) (h : Wp M d Q (pc + 1) ls (v :: w :: v :: w :: st) σ) : Wp M d Q pc ls (v :: w :: st) σ := by
  intro p l e s m args below meth c cI cA D ad A hc H locs lsA hr hP hS hl
  exact lv_dup2_11 hc.1 hc.2.1 hd (rv_cat ad v) (rv_cat ad w) (h p l e s m args below meth c cI cA D ad A hc H locs lsA hr hP hS hl)
theorem w_icmp_eq {a b off : Int} {tgt : Nat} (hd : decode M.2.1 pc = .ok (.if_icmp .eq off, 3)) (ht : (pc : Int) + off = (tgt : Int)) (ha : InR a) (hb : InR b) (kt : a = b → Wp M d Q tgt ls st σ) (kf : a ≠ b → Wp M d Q (pc + 3) ls st σ) : Wp M d Q pc ls (.inl b :: .inl a :: st) σ := by
  intro p l e s m args below meth c cI cA D ad A hc H locs lsA hr hP hS hl
  exact lv_icmp_eq hc.1 hc.2.1 hd ht (fun q => kt ((oi_eq ha hb).mp q) p l e s m args below meth c cI cA D ad A hc H locs lsA hr hP hS hl) (fun q => kf (id (fun z => q ((oi_eq ha hb).mpr z))) p l e s m args below meth c cI cA D ad A hc H locs lsA hr hP hS hl)
theorem w_if_eq {a off : Int} {tgt : Nat} (hd : decode M.2.1 pc = .ok (.ifCond .eq off, 3)) (ht : (pc : Int) + off = (tgt : Int)) (ha : InR a) (kt : a = 0 → Wp M d Q tgt ls st σ) (kf : a ≠ 0 → Wp M d Q (pc + 3) ls st σ) : Wp M d Q pc ls (.inl a :: st) σ := by
  intro p l e s m args below meth c cI cA D ad A hc H locs lsA hr hP hS hl
  have h0 : InR 0 := by omega
  exact lv_if_eq hc.1 hc.2.1 hd ht (fun q => kt ((oi_eq ha h0).mp q) p l e s m args below meth c cI cA D ad A hc H locs lsA hr hP hS hl) (fun q => kf (id (fun z => q ((oi_eq ha h0).mpr z))) p l e s m args below meth c cI cA D ad A hc H locs lsA hr hP hS hl)
theorem w_icmp_ne {a b off : Int} {tgt : Nat} (hd : decode M.2.1 pc = .ok (.if_icmp .ne off, 3)) (ht : (pc : Int) + off = (tgt : Int)) (ha : InR a) (hb : InR b) (kt : a ≠ b → Wp M d Q tgt ls st σ) (kf : a = b → Wp M d Q (pc + 3) ls st σ) : Wp M d Q pc ls (.inl b :: .inl a :: st) σ := by
  intro p l e s m args below meth c cI cA D ad A hc H locs lsA hr hP hS hl
  exact lv_icmp_ne hc.1 hc.2.1 hd ht (fun q => kt (fun z => q ((oi_eq ha hb).mpr z)) p l e s m args below meth c cI cA D ad A hc H locs lsA hr hP hS hl) (fun q => kf ((oi_eq ha hb).mp q) p l e s m args below meth c cI cA D ad A hc H locs lsA hr hP hS hl)
theorem w_if_ne {a off : Int} {tgt : Nat} (hd : decode M.2.1 pc = .ok (.ifCond .ne off, 3)) (ht : (pc : Int) + off = (tgt : Int)) (ha : InR a) (kt : a ≠ 0 → Wp M d Q tgt ls st σ) (kf : a = 0 → Wp M d Q (pc + 3) ls st σ) : Wp M d Q pc ls (.inl a :: st) σ := by
  intro p l e s m args below meth c cI cA D ad A hc H locs lsA hr hP hS hl
  have h0 : InR 0 := by omega
  exact lv_if_ne hc.1 hc.2.1 hd ht (fun q => kt (fun z => q ((oi_eq ha h0).mpr z)) p l e s m args below meth c cI cA D ad A hc H locs lsA hr hP hS hl) (fun q => kf ((oi_eq ha h0).mp q) p l e s m args below meth c cI cA D ad A hc H locs lsA hr hP hS hl)
theorem w_icmp_lt {a b off : Int} {tgt : Nat} (hd : decode M.2.1 pc = .ok (.if_icmp .lt off, 3)) (ht : (pc : Int) + off = (tgt : Int)) (ha : InR a) (hb : InR b) (kt : a < b → Wp M d Q tgt ls st σ) (kf : b ≤ a → Wp M d Q (pc + 3) ls st σ) : Wp M d Q pc ls (.inl b :: .inl a :: st) σ := by
  intro p l e s m args below meth c cI cA D ad A hc H locs lsA hr hP hS hl
  exact lv_icmp_lt hc.1 hc.2.1 hd ht (fun q => kt ((oi_lt ha hb).mp q) p l e s m args below meth c cI cA D ad A hc H locs lsA hr hP hS hl) (fun q => kf (Int.not_lt.mp (fun z => q ((oi_lt ha hb).mpr z))) p l e s m args below meth c cI cA D ad A hc H locs lsA hr hP hS hl)
theorem w_if_lt {a off : Int} {tgt : Nat} (hd : decode M.2.1 pc = .ok (.ifCond .lt off, 3)) (ht : (pc : Int) + off = (tgt : Int)) (ha : InR a) (kt : a < 0 → Wp M d Q tgt ls st σ) (kf : 0 ≤ a → Wp M d Q (pc + 3) ls st σ) : Wp M d Q pc ls (.inl a :: st) σ := by
  intro p l e s m args below meth c cI cA D ad A hc H locs lsA hr hP hS hl
  have h0 : InR 0 := by omega
  exact lv_if_lt hc.1 hc.2.1 hd ht (fun q => kt ((oi_lt ha h0).mp q) p l e s m args below meth c cI cA D ad A hc H locs lsA hr hP hS hl) (fun q => kf (Int.not_lt.mp (fun z => q ((oi_lt ha h0).mpr z))) p l e s m args below meth c cI cA D ad A hc H locs lsA hr hP hS hl)
theorem w_icmp_ge {a b off : Int} {tgt : Nat} (hd : decode M.2.1 pc = .ok (.if_icmp .ge off, 3)) (ht : (pc : Int) + off = (tgt : Int)) (ha : InR a) (hb : InR b) (kt : b ≤ a → Wp M d Q tgt ls st σ) (kf : a < b → Wp M d Q (pc + 3) ls st σ) : Wp M d Q pc ls (.inl b :: .inl a :: st) σ := by
  intro p l e s m args below meth c cI cA D ad A hc H locs lsA hr hP hS hl
  exact lv_icmp_ge hc.1 hc.2.1 hd ht (fun q => kt ((oi_le hb ha).mp q) p l e s m args below meth c cI cA D ad A hc H locs lsA hr hP hS hl) (fun q => kf (Int.not_le.mp (fun z => q ((oi_le hb ha).mpr z))) p l e s m args below meth c cI cA D ad A hc H locs lsA hr hP hS hl)
theorem w_if_ge {a off : Int} {tgt : Nat} (hd : decode M.2.1 pc = .ok (.ifCond .ge off, 3)) (ht : (pc : Int) + off = (tgt : Int)) (ha : InR a) (kt : 0 ≤ a → Wp M d Q tgt ls st σ) (kf : a < 0 → Wp M d Q (pc + 3) ls st σ) : Wp M d Q pc ls (.inl a :: st) σ := by
  intro p l e s m args below meth c cI cA D ad A hc H locs lsA hr hP hS hl
  have h0 : InR 0 := by omega
  exact lv_if_ge hc.1 hc.2.1 hd ht (fun q => kt ((oi_le h0 ha).mp q) p l e s m args below meth c cI cA D ad A hc H locs lsA hr hP hS hl) (fun q => kf (Int.not_le.mp (fun z => q ((oi_le h0 ha).mpr z))) p l e s m args below meth c cI cA D ad A hc H locs lsA hr hP hS hl)
theorem w_icmp_gt {a b off : Int} {tgt : Nat} (hd : decode M.2.1 pc = .ok (.if_icmp .gt off, 3)) (ht : (pc : Int) + off = (tgt : Int)) (ha : InR a) (hb : InR b) (kt : b < a → Wp M d Q tgt ls st σ) (kf : a ≤ b → Wp M d Q (pc + 3) ls st σ) : Wp M d Q pc ls (.inl b :: .inl a :: st) σ := by
  intro p l e s m args below meth c cI cA D ad A hc H locs lsA hr hP hS hl
  exact lv_icmp_gt hc.1 hc.2.1 hd ht (fun q => kt ((oi_lt hb ha).mp q) p l e s m args below meth c cI cA D ad A hc H locs lsA hr hP hS hl) (fun q => kf (Int.not_lt.mp (fun z => q ((oi_lt hb ha).mpr z))) p l e s m args below meth c cI cA D ad A hc H locs lsA hr hP hS hl)
theorem w_if_gt {a off : Int} {tgt : Nat} (hd : decode M.2.1 pc = .ok (.ifCond .gt off, 3)) (ht : (pc : Int) + off = (tgt : Int)) (ha : InR a) (kt : 0 < a → Wp M d Q tgt ls st σ) (kf : a ≤ 0 → Wp M d Q (pc + 3) ls st σ) : Wp M d Q pc ls (.inl a :: st) σ := by
  intro p l e s m args below meth c cI cA D ad A hc H locs lsA hr hP hS hl
  have h0 : InR 0 := by omega
  exact lv_if_gt hc.1 hc.2.1 hd ht (fun q => kt ((oi_lt h0 ha).mp q) p l e s m args below meth c cI cA D ad A hc H locs lsA hr hP hS hl) (fun q => kf (Int.not_lt.mp (fun z => q ((oi_lt h0 ha).mpr z))) p l e s m args below meth c cI cA D ad A hc H locs lsA hr hP hS hl)
theorem w_icmp_le {a b off : Int} {tgt : Nat} (hd : decode M.2.1 pc = .ok (.if_icmp .le off, 3)) (ht : (pc : Int) + off = (tgt : Int)) (ha : InR a) (hb : InR b) (kt : a ≤ b → Wp M d Q tgt ls st σ) (kf : b < a → Wp M d Q (pc + 3) ls st σ) : Wp M d Q pc ls (.inl b :: .inl a :: st) σ := by
  intro p l e s m args below meth c cI cA D ad A hc H locs lsA hr hP hS hl
  exact lv_icmp_le hc.1 hc.2.1 hd ht (fun q => kt ((oi_le ha hb).mp q) p l e s m args below meth c cI cA D ad A hc H locs lsA hr hP hS hl) (fun q => kf (Int.not_le.mp (fun z => q ((oi_le ha hb).mpr z))) p l e s m args below meth c cI cA D ad A hc H locs lsA hr hP hS hl)
theorem w_if_le {a off : Int} {tgt : Nat} (hd : decode M.2.1 pc = .ok (.ifCond .le off, 3)) (ht : (pc : Int) + off = (tgt : Int)) (ha : InR a) (kt : a ≤ 0 → Wp M d Q tgt ls st σ) (kf : 0 < a → Wp M d Q (pc + 3) ls st σ) : Wp M d Q pc ls (.inl a :: st) σ := by
  intro p l e s m args below meth c cI cA D ad A hc H locs lsA hr hP hS hl
  have h0 : InR 0 := by omega
  exact lv_if_le hc.1 hc.2.1 hd ht (fun q => kt ((oi_le ha h0).mp q) p l e s m args below meth c cI cA D ad A hc H locs lsA hr hP hS hl) (fun q => kf (Int.not_le.mp (fun z => q ((oi_le ha h0).mpr z))) p l e s m args below meth c cI cA D ad A hc H locs lsA hr hP hS hl)
theorem w_goto {off : Int} {tgt : Nat} (hd : decode M.2.1 pc = .ok (.goto off, 3)) (ht : (pc : Int) + off = (tgt : Int)) (h : Wp M d Q tgt ls st σ) : Wp M d Q pc ls st σ := by
  intro p l e s m args below meth c cI cA D ad A hc H locs lsA hr hP hS hl
  exact lv_goto hc.1 hc.2.1 hd ht (h p l e s m args below meth c cI cA D ad A hc H locs lsA hr hP hS hl)
theorem w_tswO {dflt lo hi : Int} {offs : Array Int} {len : Nat} {z : Int} {tgt : Nat} (hd : decode M.2.1 pc = .ok (.tableswitch dflt lo hi offs, len)) (hz : InR z) (ho : z < lo ∨ hi < z) (ht : (pc : Int) + dflt = (tgt : Int)) (h : Wp M d Q tgt ls st σ) : Wp M d Q pc ls (.inl z :: st) σ := by
  intro p l e s m args below meth c cI cA D ad A hc H locs lsA hr hP hS hl
  exact lv_tableOut hc.1 hc.2.1 hd (by rw [oi hz]; exact ho) ht (h p l e s m args below meth c cI cA D ad A hc H locs lsA hr hP hS hl)
theorem w_tswI {dflt lo hi : Int} {offs : Array Int} {len : Nat} {z off : Int} {tgt : Nat} (hd : decode M.2.1 pc = .ok (.tableswitch dflt lo hi offs, len)) (hz : InR z) (h1 : lo ≤ z) (h2 : z ≤ hi) (ho : offs[(z - lo).toNat]? = some off) (ht : (pc : Int) + off = (tgt : Int)) (h : Wp M d Q tgt ls st σ) : Wp M d Q pc ls (.inl z :: st) σ := by
  intro p l e s m args below meth c cI cA D ad A hc H locs lsA hr hP hS hl
  exact lv_tableIn hc.1 hc.2.1 hd (by rw [oi hz]; omega) (by rw [oi hz]; omega) (by rw [oi hz]; exact ho) ht (h p l e s m args below meth c cI cA D ad A hc H locs lsA hr hP hS hl)
theorem w_lsw {dflt : Int} {ps : Array (Int × Int)} {len : Nat} {z off : Int} {tgt : Nat} (hd : decode M.2.1 pc = .ok (.lookupswitch dflt ps, len)) (hp : (ps.toList.zip (ps.toList.drop 1)).all (fun (a, next) => a.1 < next.1) = true) (hz : InR z) (ho : Op.lookupswitch.offset ps.toList dflt z = off) (ht : (pc : Int) + off = (tgt : Int)) (h : Wp M d Q tgt ls st σ) : Wp M d Q pc ls (.inl z :: st) σ := by
  intro p l e s m args below meth c cI cA D ad A hc H locs lsA hr hP hS hl
  exact lv_lookup hc.1 hc.2.1 hd hp (by rw [oi hz]; exact ho) ht (h p l e s m args below meth c cI cA D ad A hc H locs lsA hr hP hS hl)
theorem w_iret {z : Int} (hd : decode M.2.1 pc = .ok (.ireturn, 1)) (hrt : M.2.2.2 = some .int) (hq : Q z σ) : Wp M d Q pc ls [.inl z] σ := by
  intro p l e s m args below meth c cI cA D ad A hc H locs lsA hr hP hS hl
  exact W.iret (v := Int32.ofInt z) hc.1 hc.2.1 (hc.2.2.2.1.trans hrt) (fun t ht hW => ⟨⟨z, σ, by rw [hrt]; rfl, hr, hq, by rw [ht]; exact hP, va_K.moved hW.alike hc.2.2.2.2.2.2.2.1⟩, hS.F ht⟩) hS.2.2 hd hc.2.2.2.2.1
theorem w_zret {z : Int} (hd : decode M.2.1 pc = .ok (.ireturn, 1)) (hrt : M.2.2.2 = some .boolean) (hz : z = 0 ∨ z = 1) (hq : Q z σ) : Wp M d Q pc ls [.inl z] σ := by
  intro p l e s m args below meth c cI cA D ad A hc H locs lsA hr hP hS hl
  exact W.zret (v := Int32.ofInt z) (ty := .boolean) hc.1 hc.2.1 (hc.2.2.2.1.trans hrt) (by rcases hz with rfl | rfl <;> decide) (fun t ht hW => ⟨⟨z, σ, by rw [hrt]; rfl, hr, hq, by rw [ht]; exact hP, va_K.moved hW.alike hc.2.2.2.2.2.2.2.1⟩, hS.F ht⟩) hS.2.2 hd hc.2.2.2.2.1
theorem w_ret (hd : decode M.2.1 pc = .ok (.return_, 1)) (hrt : M.2.2.2 = none) (hq : Q 0 σ) : Wp M d Q pc ls [] σ := by
  intro p l e s m args below meth c cI cA D ad A hc H locs lsA hr hP hS hl
  exact W.vret hc.1 hc.2.1 (hc.2.2.2.1.trans hrt) (fun t ht hW => ⟨⟨0, σ, by rw [hrt]; rfl, hr, hq, by rw [ht]; exact hP, va_K.moved hW.alike hc.2.2.2.2.2.2.2.1⟩, hS.F ht⟩) hS.2.2 hd hc.2.2.2.2.1
theorem w_get {k j idx N : Nat} {C : String} {T : u_T} {fs : List (Option Nat)} {v : PV} (hcl : vwCl[k]? = some (C, T, N)) (hin : ∀ w ∈ u_ws C T N, w ∈ TB) (hsh : shT[k]? = some (.inl fs)) (hj : j < N) (hlk : Cond.fieldLink M.1.cls idx (T j).1 (T j).2.1 (T j).2.2.1 ∈ TB) (hv : ∀ ad, (fvs ad σ k 0 fs)[j]? = some (rv ad v)) (hd : decode M.2.1 pc = .ok (.getfield idx, 3)) (h : Wp M d Q (pc + 3) ls (v :: st) σ) : Wp M d Q pc ls (.inr k :: st) σ := by
  intro p l e s m args below meth c cI cA D ad A hc H locs lsA hr hP hS hl
  exact va_get (D := D) hc.1 hc.2.1 hc.2.2.2.2.2.2.1 hin hc.2.2.2.2.2.1 hc.2.2.2.2.2.2.2.1 hP k (Wd_at hsh) hcl j hj (hc.2.2.2.2.2.2.1 _ hlk) (fun _ q => q) (hv ad) hd (h p l e s m args below meth c cI cA D ad A hc H locs lsA hr hP hS hl)
theorem w_put {k j idx N : Nat} {C : String} {T : u_T} {fs : List (Option Nat)} {z : Int} {ty : FieldType} (hcl : vwCl[k]? = some (C, T, N)) (hin : ∀ w ∈ u_ws C T N, w ∈ TB) (ty0 : Nat → FieldType) (hty : ∀ k, k < N → parseFieldDescriptor (T k).2.2.1 = some (ty0 k)) (hnm : ∀ a, a < N → ∀ b, b < N → a ≠ b → (T a).2.1 ≠ (T b).2.1) (hsh : shT[k]? = some (.inl fs)) (hj : j < N) (hnf : fs[j]? = some none) (hfin : (T j).2.2.2 = false) (hlk : Cond.fieldLink M.1.cls idx (T j).1 (T j).2.1 (T j).2.2.1 ∈ TB) (hds : parseFieldDescriptor (T j).2.2.1 = some ty) (hna : narrow ty (.int (Int32.ofInt z)) = .int (Int32.ofInt z)) (hft : fits ty (.int (Int32.ofInt z)) = true) (hz : InR z) (hd : decode M.2.1 pc = .ok (.putfield idx, 3)) (h : Wp M d Q (pc + 3) ls st (put σ k (j : Int) z)) : Wp M d Q pc ls (.inl z :: .inr k :: st) σ := by
  intro p l e s m args below meth c cI cA D ad A hc H locs lsA hr hP hS hl
  refine va_put (D := D) hc.1 hc.2.1 hc.2.2.2.2.2.2.1 hin ty0 hty hnm hc.2.2.2.2.2.1 hc.2.2.2.2.2.2.2.1 hP (hc.2.2.2.2.2.2.2.2.2.D cI cA σ) hS k (Wd_at hsh) hcl j hj (hc.2.2.2.2.2.2.1 _ hlk) (fun _ q => q) hfin hds hna hft (by rw [fvs_len]; exact (List.getElem?_eq_some_iff.mp hnf).1) hd (fun H1 locs1 hP1 _ hS1 => ?_)
  have hP1 : va_P D vwCl ((Wd cI cA ad σ).set k (ad k, .inr (k, (fvs ad σ k 0 fs).set j (.int (Int32.ofInt z))))) H1 := hP1
  rw [fvs_put fs 0 j hnf, Nat.zero_add] at hP1
  have ee := Wd_set (cI := cI) (cA := cA) (ad := ad) (σ := σ) (τ := put σ k (j : Int) z) hsh (fun a ha => put_ne ha)
  have hP2 : va_P D vwCl (Wd cI cA ad (put σ k (j : Int) z)) H1 := by rw [← ee]; exact hP1
  exact h p l e s m args below meth c cI cA D ad A hc H1 locs1 lsA (fun a b => by rw [put_eq]; split; split; exact hz; exact hr a b; exact hr a b) hP2 hS1 hl
theorem w_iald {k n : Nat} {i : Int} (hsh : shT[k]? = some (.inr (.inl n))) (hi : 0 ≤ i ∧ i < n) (hd : decode M.2.1 pc = .ok (.iaload, 1)) (h : Wp M d Q (pc + 1) ls (.inl (σ k i) :: st) σ) : Wp M d Q pc ls (.inl i :: .inr k :: st) σ := by
  intro p l e s m args below meth c cI cA D ad A hc H locs lsA hr hP hS hl
  have hn := shT_n hsh
  have hir : InR i := by omega
  have h1 := h p l e s m args below meth c cI cA D ad A hc H locs lsA hr hP hS hl
  refine va_iald hc.1 hc.2.1 hc.2.2.2.2.2.2.2.1 hP k 0 (Wd_at hsh) rfl (oi_in hi.1 hi.2 hir) hd ?_
  rw [oi_cl hi.1 hir]
  exact h1
theorem w_iast {k n : Nat} {i z : Int} (hsh : shT[k]? = some (.inr (.inl n))) (hi : 0 ≤ i ∧ i < n) (hz : InR z) (hd : decode M.2.1 pc = .ok (.iastore, 1)) (h : Wp M d Q (pc + 1) ls st (put σ k i z)) : Wp M d Q pc ls (.inl z :: .inl i :: .inr k :: st) σ := by
  intro p l e s m args below meth c cI cA D ad A hc H locs lsA hr hP hS hl
  have hn := shT_n hsh
  have hir : InR i := by omega
  refine va_iast (D := D) hc.1 hc.2.1 hc.2.2.2.2.2.2.2.1 hP (hc.2.2.2.2.2.2.2.2.2.D cI cA σ) hS k 0 (Wd_at hsh) rfl (oi_in hi.1 hi.2 hir) hd (fun H1 locs1 hP1 _ hS1 => ?_)
  have ee := Wd_set (cI := cI) (cA := cA) (ad := ad) (σ := σ) (τ := put σ k i z) hsh (fun a ha => put_ne ha)
  have ef : upd (fun j : Nat => Int32.ofInt (σ k j)) (Int32.ofInt i).toNatClampNeg (Int32.ofInt z) = (fun j : Nat => Int32.ofInt (put σ k i z k j)) := by
    funext j
    have hcl := oi_cl hi.1 hir
    by_cases hj : j = (Int32.ofInt i).toNatClampNeg
    · subst hj
      rw [hcl]
      simp [upd, put]
    · have : (j : Int) ≠ i := by omega
      simp [upd, put, hj, this]
  rw [ef] at hP1
  have hP2 : va_P D vwCl (Wd cI cA ad (put σ k i z)) H1 := by rw [← ee]; exact hP1
  exact h p l e s m args below meth c cI cA D ad A hc H1 locs1 lsA (fun a b => by rw [put_eq]; split; split; exact hz; exact hr a b; exact hr a b) hP2 hS1 hl
theorem w_aald {k b n : Nat} {i : Int} (hsh : shT[k]? = some (.inr (.inr (b, n)))) (hi : 0 ≤ i ∧ i < n) (hd : decode M.2.1 pc = .ok (.aaload, 1)) (h : Wp M d Q (pc + 1) ls (.inr (b + i.toNat) :: st) σ) : Wp M d Q pc ls (.inl i :: .inr k :: st) σ := by
  intro p l e s m args below meth c cI cA D ad A hc H locs lsA hr hP hS hl
  have hn := shT_r hsh
  have hir : InR i := by omega
  have h1 := h p l e s m args below meth c cI cA D ad A hc H locs lsA hr hP hS hl
  have hin := oi_in hi.1 hi.2 hir
  have hcl : (Int32.ofInt i).toNatClampNeg = i.toNat := by have := oi_cl hi.1 hir; omega
  have hlt : (Int32.ofInt i).toNatClampNeg < n := by omega
  refine W.aald (v := .ref (ad (b + i.toNat))) (ty := .array .int) hc.1 hc.2.1 (hP k _ (Wd_at hsh)) ((hc.2.2.2.2.2.2.2.1.2 1 _ rfl).1 n (fun j => va_rf (some (ad (b + j))))) rfl (fun q => by cases q) (by show ¬ (_ ∨ (arrV _ _ _).slots.size ≤ _); rw [arrV_size]; exact hin) (by show (arrV _ _ _).slots[_]? = _; rw [arrV_read _ _ hlt, hcl]; rfl) rfl rfl hd h1
def cpI (f g : Int → Int) (sp dp n : Int) : Int → Int := fun b => if dp ≤ b ∧ b < dp + n then f (sp + (b - dp)) else g b
theorem cpy_eq (f g : Int → Int) {sp dp n : Int} {a b c : Nat} (ha : (a : Int) = sp) (hb : (b : Int) = dp) (hc : (c : Int) = n) : va_cpy (fun j : Nat => Int32.ofInt (f j)) (fun j : Nat => Int32.ofInt (g j)) a b c = fun j : Nat => Int32.ofInt (cpI f g sp dp n j) := by
  subst ha hb hc
  funext j
  simp only [va_cpy, cpI]
  by_cases hj : (b : Int) ≤ (j : Int) ∧ (j : Int) < b + c
  · rw [if_pos hj, if_pos (by omega)]
    have e3 : ((a + (j - b) : Nat) : Int) = (a : Int) + ((j : Int) - b) := by omega
    rw [e3]
  · rw [if_neg hj, if_neg (by omega)]
theorem cpy_le {a b : Nat} {x y : Int} {N : Nat} (ha : (a : Int) = x) (hb : (b : Int) = y) (h : x + y ≤ N) : a + b ≤ N := by omega
theorem w_copy {k0 k1 n0 n1 idx : Nat} {sp dp n : Int} (hd : decode M.2.1 pc = .ok (.invokestatic idx, 3)) (hlk : Cond.methodLink M.1.cls idx arraycopyName ∈ TB) (hw1 : Cond.native arraycopyName ∈ TB) (hw2 : Cond.static arraycopyName ∈ TB) (hw3 : Cond.initialized "java/lang/System" ∈ TB) (hd1 : 0 < d) (hs0 : shT[k0]? = some (.inr (.inl n0))) (hs1 : shT[k1]? = some (.inr (.inl n1))) (h1 : 0 ≤ sp) (h2 : 0 ≤ dp) (h3 : 0 ≤ n) (h4 : sp + n ≤ n0) (h5 : dp + n ≤ n1) (h : Wp M d Q (pc + 3) ls [] (putA σ k1 (cpI (σ k0) (σ k1) sp dp n))) : Wp M d Q pc ls [.inl n, .inl dp, .inr k1, .inl sp, .inr k0] σ := by
  intro p l e s m args below meth c cI cA D ad A hc H locs lsA hr hP hS hl
  have b0 := shT_n hs0
  have b1 := shT_n hs1
  have r1 : InR sp := by omega
  have r2 : InR dp := by omega
  have r3 : InR n := by omega
  have c1 := oi_cl h1 r1
  have c2 := oi_cl h2 r2
  have c3 := oi_cl h3 r3
  have z0 : InR 0 := by omega
  have nz : ∀ z : Int, 0 ≤ z → InR z → ¬ Int32.ofInt z < 0 := fun z hz hzr q => by rw [oi_0, oi_lt hzr z0] at q; omega
  refine va_copyi (D := D) (ty := .int) hc.1 hc.2.1 (hc.2.2.1.trans hl.1.symm) hc.2.2.2.2.2.1 (hc.2.2.2.2.2.2.1 _ hlk) (hc.2.2.2.2.2.2.1 _ hw1) (hc.2.2.2.2.2.2.1 _ hw2) (hc.2.2.2.2.2.2.1 _ hw3) hc.2.2.2.2.2.2.2.1 hP (hc.2.2.2.2.2.2.2.2.2.D cI cA σ) hS k0 k1 0 0 (Wd_at hs0) (Wd_at hs1) rfl rfl rfl (nz sp h1 r1) (nz dp h2 r2) (nz n h3 r3) (cpy_le c1 c3 h4) (cpy_le c2 c3 h5) (fun i _ => rfl) hd1 ?_ hd (fun H1 locs1 hP1 _ hS1 => ?_)
  · have hn : nativeFrameWords "java/lang/System" "arraycopy" 5 + 11 ≤ 36 := by decide
    show 0 + _ ≤ 36 * d
    omega
  · have ee := Wd_set (cI := cI) (cA := cA) (ad := ad) (σ := σ) (τ := putA σ k1 (cpI (σ k0) (σ k1) sp dp n)) hs1 (fun a ha => putA_ne ha)
    have ef : va_cpy (fun j : Nat => Int32.ofInt (σ k0 j)) (fun j : Nat => Int32.ofInt (σ k1 j)) (Int32.ofInt sp).toNatClampNeg (Int32.ofInt dp).toNatClampNeg (Int32.ofInt n).toNatClampNeg = (fun j : Nat => Int32.ofInt (putA σ k1 (cpI (σ k0) (σ k1) sp dp n) k1 j)) := by
      rw [cpy_eq (σ k0) (σ k1) c1 c2 c3]
      funext j
      simp only [putA_eq, if_true]
    rw [ef] at hP1
    have hP2 : va_P D vwCl (Wd cI cA ad (putA σ k1 (cpI (σ k0) (σ k1) sp dp n))) H1 := by rw [← ee]; exact hP1
    exact h p l e s m args below meth c cI cA D ad A hc H1 locs1 lsA (fun a b => by rw [putA_eq]; split; (unfold cpI; split; exact hr _ _; exact hr _ _); exact hr a b) hP2 hS1 hl
theorem w_min {idx : Nat} {a b : Int} (hd : decode M.2.1 pc = .ok (.invokestatic idx, 3)) (hlk : Cond.methodLink M.1.cls idx Lib.Math.min.name ∈ TB) (hw1 : Cond.static Lib.Math.min.name ∈ TB) (hw2 : Cond.initialized "java/lang/Math" ∈ TB) (hw3 : Cond.code Lib.Math.min.name Lib.Math.min.code 2 (some .int) ∈ TB) (hd1 : 0 < d) (hst : st.length ≤ 8) (ha : InR a) (hb : InR b) (h : Wp M d Q (pc + 3) ls (.inl (if b < a then b else a) :: st) σ) : Wp M d Q pc ls (.inl b :: .inl a :: st) σ := by
  intro p l e s m args below meth c cI cA D ad A hc H locs lsA hr hP hS hl
  have h1 := h p l e s m args below meth c cI cA D ad A hc H locs lsA hr hP hS hl
  refine va_mmin (R := rmD d) hc.1 hc.2.1 (hc.2.2.1.trans hl.1.symm) hc.2.2.2.2.2.1 (hc.2.2.2.2.2.2.1 _ hlk) (hc.2.2.2.2.2.2.1 _ hw1) (hc.2.2.2.2.2.2.1 _ hw2) (hc.2.2.2.2.2.2.1 _ hw3) hd1 (by rw [catsum]; show _ ≤ 36 * d; omega) (Nat.le_refl 0) (Nat.le_refl 0) hd ?_
  by_cases q : b < a
  · rw [if_pos q] at h1
    rw [if_pos ((oi_lt hb ha).mpr q)]
    exact h1
  · rw [if_neg q] at h1
    rw [if_neg (fun z => q ((oi_lt hb ha).mp z))]
    exact h1
def rst (rt : Option FieldType) (z : Int) (st : List PV) : List PV := match rt with
  | none => st
  | some _ => .inl z :: st
/-- the words of a method that is called -/
def CW (M' : MI) (n : Nat) : Prop := Cond.initialized M'.1.cls ∈ TB ∧ Cond.code M'.1 M'.2.1 M'.2.2.1 M'.2.2.2 ∈ TB ∧ M'.1.cls ≠ "java/lang/invoke/MethodHandle" ∧ M'.1.cls ≠ "java/lang/invoke/VarHandle" ∧ (parseMethodDescriptor M'.1.desc).map (fun d => d.parameters.length) = some n ∧ plainName M'.1.cls = true ∧ M'.2.2.1 ≤ 17
theorem tb_goodIn {ws : List Cond} (h : ∀ w ∈ ws, w ∈ TB) : GoodIn TB ws := fun w hw => ⟨h w hw, tb_good (h w hw)⟩
theorem w_back {M' : MI} {p : Program} {l : Launch} {e : Env} {s : State} {m : MethodId} {args : Array Value} {below : List Frame} {meth : Method} {c : Code} {cI cA : ClassId} {D : va_G} {ad : Nat → Nat} {A : Nat → Prop} (hc : Cx M p s m args meth c cI cA D ad A) {H : Heap} {locs : List Loc} {lsA : Array Slot} {a : Array Value} {stk : List Value}
    (hP : va_P D vwCl (Wd cI cA ad σ) H) (hS : va_S A s.heap H locs) (hl : LV ad lsA M.2.2.1 ls)
    (hrun : va_Run p l e (rmD d) s m args below meth c H locs 0 0 0 0 (F0 m pc lsA stk) (st.map (rv ad)) (Qg cI cA D ad (va_A (Wd cI cA ad σ) H.size) M'.2.2.2 (fun z τ => Wp M d Q (pc + 3) ls (rst M'.2.2.2 z st) τ) a) (va_A (Wd cI cA ad σ) H.size)) :
    W p l e (rmD d) s m args below meth c H locs 0 0 (MQ below (Qg cI cA D ad A M.2.2.2 Q) args s 0 0 A) (F0 m pc lsA stk) := by
  have hAA : ∀ q, va_A (Wd cI cA ad σ) H.size q → A q := by
    intro q hq
    rcases hq with ⟨k, e0, hk⟩ | hq
    · exact (hc.2.2.2.2.2.2.2.2.2.D cI cA σ).2 k (q, e0) hk
    · exact hc.2.2.2.2.2.2.2.2.1 q (Nat.le_trans hS.1 hq)
  intro T hT X
  obtain ⟨v, st₀, t, T', L, h0, X', hL, e1, e2, ⟨⟨z, τ, hv, hrg, hq, hP1, hK1⟩, hz, hk1⟩, stp⟩ := hrun T hT X
  rw [h0] at hz hk1
  have hv2 : v = M'.2.2.2.map (fun _ => Value.int (Int32.ofInt z)) := by injection hv
  have hS2 : va_S A s.heap T'.heap (locs ++ L) := by
    refine ⟨Nat.le_trans hS.1 (by rw [e1]; exact hz), fun q h1 h2 => ?_, fun q hq2 => ?_⟩
    · rw [e1, hk1 q (Nat.lt_of_lt_of_le h1 hS.1) (fun zz => h2 (hAA q zz))]
      exact hS.2.1 q h1 h2
    · rcases List.mem_append.mp hq2 with h | h
      · exact hS.2.2 q h
      · exact hAA _ (hL q h)
  obtain ⟨t2, a1, b1⟩ := hq p l e s m args below meth c cI cA D ad A hc T'.heap (locs ++ L) lsA hrg (by rw [e1]; exact hP1) hS2 hl T' rfl X'
  refine ⟨t2, stp t2 ?_, b1⟩
  have ef : ({ F0 m pc lsA stk with pc := (F0 m pc lsA stk).pc + 3, stack := v.toList ++ st.map (rv ad) } : JFrame) = F0 m (pc + 3) lsA ((rst M'.2.2.2 z st).map (rv ad)) := by
    rw [hv2]
    cases M'.2.2.2 <;> rfl
  rw [ef]
  exact a1
theorem w_pre {p : Program} {s : State} {m : MethodId} {args : Array Value} {meth : Method} {c : Code} {cI cA : ClassId} {D : va_G} {ad : Nat → Nat} {A : Nat → Prop} (hc : Cx M p s m args meth c cI cA D ad A) {H : Heap} (hP : va_P D vwCl (Wd cI cA ad σ) H) (vs : List Value) : PreS s H (va_Pc vs (fun U => U.heap.size = H.size ∧ va_P D vwCl (Wd cI cA ad σ) U.heap ∧ va_K D vwCl (tyL cI cA) U)) vs :=
  ⟨fun a U g mk q => by obtain ⟨q0, q1, q2, q3⟩ := q; exact ⟨q0, q1, q2, va_K.moved (u := U) (U := U.calling g mk a) (Vm.Alike.refl U.vm) q3⟩, fun U hU hW => ⟨rfl, by rw [hU], by rw [hU]; exact hP, va_K.moved hW.alike hc.2.2.2.2.2.2.2.1⟩⟩
theorem w_cv {M' : MI} {d' k idx : Nat} {vs : List PV} {fs : List (Option Nat)} {q : vw_C} (hd : decode M.2.1 pc = .ok (.invokevirtual idx, 3)) (hlk : Cond.methodLink M.1.cls idx M'.1 ∈ TB) (hw1 : Cond.instanceMethod M'.1 ∈ TB) (hw2 : Cond.selects M'.1.cls M'.1 M'.1 ∈ TB) (hcw : CW M' vs.length) (hsh : shT[k]? = some (.inl fs)) (hq : vwCl[k]? = some q) (hqc : q.1 = M'.1.cls) (hln : vs.length + 1 ≤ M'.2.2.1) (hdd : d' < d) (hst : st.length ≤ 8)
    (h : Wp M' d' (fun z τ => Wp M d Q (pc + 3) ls (rst M'.2.2.2 z st) τ) 0 (entl M'.2.2.1 (.inr k :: vs)) [] σ) : Wp M d Q pc ls (vs.reverse ++ .inr k :: st) σ := by
  intro p l e s m args below meth c cI cA D ad A hc H locs lsA hr hP hS hl
  obtain ⟨hi, hcd, hn1, hn2, hpd, hpl, hmx⟩ := hcw
  have hM := Met_of_Wp (vs := .inr k :: vs) l hpl (by simpa using hln) hr h cI cA D hc.2.2.2.2.2.2.2.2.2 H.size
  have hpre := w_pre hc hP ((Sum.inr k :: vs : List PV).map (rv ad))
  refine w_back (M' := M') (st := st) hc hP hS hl (va_runV (As := vs.map (rv ad)) (b := ad k) (rest := st.map (rv ad)) ⟨hc.1, hc.2.1, hc.2.2.1, hc.2.2.2.2.2.1, hc.2.2.2.2.2.2.1⟩ hM (cwV (C := M'.1.cls) vs.length hc.2.2.2.2.2.2.1 (tb_goodIn ?_) rfl rfl rfl ⟨rfl, hn1, hn2, hpd⟩ ⟨hdd, ?_⟩) ⟨hpre.1, ?_, hpre.2⟩ rfl (by simp) hl.1 ?_ (lv_room (by rw [catsum]; exact hst)) hd ⟨Nat.le_refl 0, Nat.le_refl 0⟩)
  · intro w hw
    unfold wsV at hw
    simp only [List.mem_append, List.mem_cons, List.not_mem_nil, or_false] at hw
    rcases hw with (rfl | rfl | rfl | rfl) | rfl | hw
    · exact hlk
    · exact hw1
    · exact hw2
    · exact hi
    · exact hcd
    · exact hw
  · show 8 + (M'.2.2.1 + 11) + 36 * d' ≤ 36 * d
    omega
  · have := va_recv hc.2.2.2.2.2.2.2.1 hP hq (Wd_at hsh)
    rw [hqc] at this
    exact this
  · show (vs.reverse ++ .inr k :: st).map (rv ad) = _
    simp [rv]
theorem w_cs {M' : MI} {d' idx : Nat} {vs : List PV} (hd : decode M.2.1 pc = .ok (.invokestatic idx, 3)) (hlk : Cond.methodLink M.1.cls idx M'.1 ∈ TB) (hw1 : Cond.static M'.1 ∈ TB) (hcw : CW M' vs.length) (hqc : M'.1.cls = M.1.cls) (hln : vs.length ≤ M'.2.2.1) (hdd : d' < d) (hst : st.length ≤ 8)
    (h : Wp M' d' (fun z τ => Wp M d Q (pc + 3) ls (rst M'.2.2.2 z st) τ) 0 (entl M'.2.2.1 vs) [] σ) : Wp M d Q pc ls (vs.reverse ++ st) σ := by
  intro p l e s m args below meth c cI cA D ad A hc H locs lsA hr hP hS hl
  obtain ⟨hi, hcd, hn1, hn2, hpd, hpl, hmx⟩ := hcw
  have hM := Met_of_Wp (vs := vs) l hpl hln hr h cI cA D hc.2.2.2.2.2.2.2.2.2 H.size
  have hpre := w_pre hc hP (vs.map (rv ad))
  refine w_back (M' := M') (st := st) hc hP hS hl (va_runS (As := vs.map (rv ad)) (rest := st.map (rv ad)) ⟨hc.1, hc.2.1, hc.2.2.1, hc.2.2.2.2.2.1, hc.2.2.2.2.2.2.1⟩ hM (cwS vs.length hc.2.2.2.2.2.2.1 (tb_goodIn ?_) rfl rfl rfl ⟨hqc, hn1, hn2, hpd⟩ ⟨hdd, ?_⟩) hpre rfl (by simp) hl.1 ?_ (lv_room (by rw [catsum]; exact hst)) hd ⟨Nat.le_refl 0, Nat.le_refl 0⟩)
  · intro w hw
    unfold wsS at hw
    simp only [List.mem_append, List.mem_cons, List.not_mem_nil, or_false] at hw
    rcases hw with (rfl | rfl | rfl) | rfl | hw
    · exact hlk
    · exact hw1
    · rw [← hqc]; exact hi
    · exact hcd
    · exact hw
  · show 8 + (M'.2.2.1 + 11) + 36 * d' ≤ 36 * d
    omega
  · show (vs.reverse ++ st).map (rv ad) = _
    simp
end RULES
