/-! ===== the world that the constructors leave ===== -/
abbrev wdX0 (h0 : Nat) : va_W := [(h0, .inr (6, [.null, .null, .null, .null, .null, .null, .int 0]))]
abbrev wdX (cI cA : ClassId) (h0 : Nat) (u : Nat → Nat) : va_W := [(h0, .inr (6, [.ref (u 5), .ref (u 2), .ref (u 0), .ref (u 1), .ref (u 4), .ref (u 3), .int 100])), ((u 5), .inr (5, [.ref ((u 55)), .ref ((u 56)), .int 0])), (((u 55)), .inl (cI, 12, .inl (fun _ => 0))), (((u 56)), .inl (cI, 12, .inl (fun _ => 0))), ((u 2), .inr (2, [.ref ((u 48)), .int 0])), (((u 48)), .inl (cI, 8, .inl (fun _ => 0))), ((u 0), .inr (0, [.ref ((u 8)), .ref ((u 9)), .ref ((u 10)), .ref ((u 11)), .ref ((u 12)), .ref ((u 13)), .int 0, .int 0])), (((u 8)), .inl (cI, 60, .inl (fun _ => 0))), (((u 9)), .inl (cI, 60, .inl (fun _ => 0))), (((u 10)), .inl (cI, 60, .inl (fun _ => 0))), (((u 11)), .inl (cI, 60, .inl (fun _ => 0))), (((u 12)), .inl (cI, 60, .inl (fun _ => 0))), (((u 13)), .inl (cI, 60, .inl (fun _ => 0))), ((u 1), .inr (1, [.ref ((u 14)), .ref ((u 15)), .ref ((u 16)), .ref ((u 17)), .ref ((u 18)), .ref ((u 19)), .ref ((u 20)), .ref ((u 21)), .ref ((u 35)), .int 0, .int 0, .int 0])), (((u 14)), .inl (cI, 60, .inl (fun _ => 0))), (((u 15)), .inl (cI, 12, .inl (fun _ => 0))), (((u 16)), .inl (cI, 12, .inl (fun _ => 0))), (((u 17)), .inl (cI, 12, .inl (fun _ => 0))), (((u 18)), .inl (cI, 60, .inl (fun _ => 0))), (((u 19)), .inl (cI, 60, .inl (fun _ => 0))), (((u 20)), .inl (cI, 60, .inl (fun _ => 0))), (((u 21)), .inl (cA, 13, .inr (.inr (.inr (.inr (fun i => if i < 13 then some (((u 21)) + 1 + i) else none)))))), (((u 21)) + 1 + 0, .inl (cI, 61, .inl (fun _ => 0))), (((u 21)) + 1 + 1, .inl (cI, 61, .inl (fun _ => 0))), (((u 21)) + 1 + 2, .inl (cI, 61, .inl (fun _ => 0))), (((u 21)) + 1 + 3, .inl (cI, 61, .inl (fun _ => 0))), (((u 21)) + 1 + 4, .inl (cI, 61, .inl (fun _ => 0))), (((u 21)) + 1 + 5, .inl (cI, 61, .inl (fun _ => 0))), (((u 21)) + 1 + 6, .inl (cI, 61, .inl (fun _ => 0))), (((u 21)) + 1 + 7, .inl (cI, 61, .inl (fun _ => 0))), (((u 21)) + 1 + 8, .inl (cI, 61, .inl (fun _ => 0))), (((u 21)) + 1 + 9, .inl (cI, 61, .inl (fun _ => 0))), (((u 21)) + 1 + 10, .inl (cI, 61, .inl (fun _ => 0))), (((u 21)) + 1 + 11, .inl (cI, 61, .inl (fun _ => 0))), (((u 21)) + 1 + 12, .inl (cI, 61, .inl (fun _ => 0))), (((u 35)), .inl (cA, 12, .inr (.inr (.inr (.inr (fun i => if i < 12 then some (((u 35)) + 1 + i) else none)))))), (((u 35)) + 1 + 0, .inl (cI, 61, .inl (fun _ => 0))), (((u 35)) + 1 + 1, .inl (cI, 61, .inl (fun _ => 0))), (((u 35)) + 1 + 2, .inl (cI, 61, .inl (fun _ => 0))), (((u 35)) + 1 + 3, .inl (cI, 61, .inl (fun _ => 0))), (((u 35)) + 1 + 4, .inl (cI, 61, .inl (fun _ => 0))), (((u 35)) + 1 + 5, .inl (cI, 61, .inl (fun _ => 0))), (((u 35)) + 1 + 6, .inl (cI, 61, .inl (fun _ => 0))), (((u 35)) + 1 + 7, .inl (cI, 61, .inl (fun _ => 0))), (((u 35)) + 1 + 8, .inl (cI, 61, .inl (fun _ => 0))), (((u 35)) + 1 + 9, .inl (cI, 61, .inl (fun _ => 0))), (((u 35)) + 1 + 10, .inl (cI, 61, .inl (fun _ => 0))), (((u 35)) + 1 + 11, .inl (cI, 61, .inl (fun _ => 0))), ((u 4), .inr (4, [.ref ((u 50)), .ref ((u 51)), .ref ((u 52)), .ref ((u 53)), .ref ((u 54)), .int 0, .int 0, .int 0])), (((u 50)), .inl (cI, 60, .inl (fun _ => 0))), (((u 51)), .inl (cI, 60, .inl (fun _ => 0))), (((u 52)), .inl (cI, 60, .inl (fun _ => 0))), (((u 53)), .inl (cI, 60, .inl (fun _ => 0))), (((u 54)), .inl (cI, 60, .inl (fun _ => 0))), ((u 3), .inr (3, [.ref ((u 49)), .int 0, .int 0])), (((u 49)), .inl (cI, 200, .inl (fun _ => 0)))]
abbrev wdM0 (h0 : Nat) : va_W := [(h0, .inr (7, [.int 0, .int 0, .null, .null, .int 0, .null, .int 0, .null, .null, .null, .null, .int 0, .int 0, .null, .int 0, .null, .null, .null, .null, .null, .null, .int 0, .int 0, .int 0, .int 0, .null, .null, .null, .null]))]
abbrev wdM (cI : ClassId) (h0 : Nat) (u : Nat → Nat) : va_W := [(h0, .inr (7, [.int 0, .int 0, .ref (u 0), .ref (u 1), .int 0, .ref (u 2), .int 0, .ref (u 3), .ref (u 4), .ref (u 5), .ref (u 6), .int 0, .int 100, .ref (u 7), .int 0, .ref (u 8), .ref (u 9), .ref (u 10), .ref (u 11), .ref (u 12), .ref (u 13), .int 0, .int 0, .int 0, .int 0, .ref (u 14), .ref (u 15), .ref (u 16), .ref (u 17)])), ((u 0), .inl (cI, 12, .inl (fun _ => 0))), ((u 1), .inl (cI, 12, .inl (fun _ => 0))), ((u 2), .inl (cI, 8, .inl (fun _ => 0))), ((u 3), .inl (cI, 61, .inl (fun _ => 0))), ((u 4), .inl (cI, 61, .inl (fun _ => 0))), ((u 5), .inl (cI, 61, .inl (fun _ => 0))), ((u 6), .inl (cI, 61, .inl (fun _ => 0))), ((u 7), .inl (cI, 200, .inl (fun _ => 0))), ((u 8), .inl (cI, 61, .inl (fun _ => 0))), ((u 9), .inl (cI, 61, .inl (fun _ => 0))), ((u 10), .inl (cI, 793, .inl (fun _ => 0))), ((u 11), .inl (cI, 12, .inl (fun _ => 0))), ((u 12), .inl (cI, 61, .inl (fun _ => 0))), ((u 13), .inl (cI, 61, .inl (fun _ => 0))), ((u 14), .inl (cI, 60, .inl (fun _ => 0))), ((u 15), .inl (cI, 60, .inl (fun _ => 0))), ((u 16), .inl (cI, 60, .inl (fun _ => 0))), ((u 17), .inl (cI, 60, .inl (fun _ => 0)))]
def ad0 (h0 h1 : Nat) (u w : Nat → Nat) (k : Nat) : Nat := if k = 6 then h0 else if k = 7 then h1 else if k < 22 then u k else if k < 35 then u 21 + 1 + (k - 22) else if k = 35 then u 35 else if k < 48 then u 35 + 1 + (k - 36) else if k < 57 then u k else w (k - 57)
def σ0 : St := fun k j => if k = 6 then (if j = 6 then 100 else 0) else if k = 7 then (if j = 12 then 100 else 0) else 0
theorem σ0_z {k : Nat} (h : k ≠ 6 ∧ k ≠ 7) : σ0 k = fun _ => 0 := by
  funext j
  unfold σ0
  rw [if_neg h.1, if_neg h.2]
theorem RgS0 : RgS σ0 := by
  intro k j
  unfold σ0 InR
  split
  · split <;> omega
  · split
    · split <;> omega
    · omega
def posL : List Nat := [6, 13, 4, 54, 48, 1, 0, 56, 7, 8, 9, 10, 11, 12, 14, 15, 16, 17, 18, 19, 20, 21, 22, 23, 24, 25, 26, 27, 28, 29, 30, 31, 32, 33, 34, 35, 36, 37, 38, 39, 40, 41, 42, 43, 44, 45, 46, 47, 5, 55, 49, 50, 51, 52, 53, 2, 3, 57, 58, 59, 60, 61, 62, 63, 64, 65, 66, 67, 68, 69, 70, 71, 72, 73, 74]
section W0
variable {D : va_G} {cI cA : ClassId} {H : Heap} {h0 h1 : Nat} {u w : Nat → Nat}
theorem w0_at (k : Nat) (hk : k < 75) : ∃ e, (wdX cI cA h0 u ++ wdM cI h1 w)[posL.getD k 0]? = some (ad0 h0 h1 u w k, e) :=
  match k, hk with
  | 0, _ => ⟨_, rfl⟩
  | 1, _ => ⟨_, rfl⟩
  | 2, _ => ⟨_, rfl⟩
  | 3, _ => ⟨_, rfl⟩
  | 4, _ => ⟨_, rfl⟩
  | 5, _ => ⟨_, rfl⟩
  | 6, _ => ⟨_, rfl⟩
  | 7, _ => ⟨_, rfl⟩
  | 8, _ => ⟨_, rfl⟩
  | 9, _ => ⟨_, rfl⟩
  | 10, _ => ⟨_, rfl⟩
  | 11, _ => ⟨_, rfl⟩
  | 12, _ => ⟨_, rfl⟩
  | 13, _ => ⟨_, rfl⟩
  | 14, _ => ⟨_, rfl⟩
  | 15, _ => ⟨_, rfl⟩
  | 16, _ => ⟨_, rfl⟩
  | 17, _ => ⟨_, rfl⟩
  | 18, _ => ⟨_, rfl⟩
  | 19, _ => ⟨_, rfl⟩
  | 20, _ => ⟨_, rfl⟩
  | 21, _ => ⟨_, rfl⟩
  | 22, _ => ⟨_, rfl⟩
  | 23, _ => ⟨_, rfl⟩
  | 24, _ => ⟨_, rfl⟩
  | 25, _ => ⟨_, rfl⟩
  | 26, _ => ⟨_, rfl⟩
  | 27, _ => ⟨_, rfl⟩
  | 28, _ => ⟨_, rfl⟩
  | 29, _ => ⟨_, rfl⟩
  | 30, _ => ⟨_, rfl⟩
  | 31, _ => ⟨_, rfl⟩
  | 32, _ => ⟨_, rfl⟩
  | 33, _ => ⟨_, rfl⟩
  | 34, _ => ⟨_, rfl⟩
  | 35, _ => ⟨_, rfl⟩
  | 36, _ => ⟨_, rfl⟩
  | 37, _ => ⟨_, rfl⟩
  | 38, _ => ⟨_, rfl⟩
  | 39, _ => ⟨_, rfl⟩
  | 40, _ => ⟨_, rfl⟩
  | 41, _ => ⟨_, rfl⟩
  | 42, _ => ⟨_, rfl⟩
  | 43, _ => ⟨_, rfl⟩
  | 44, _ => ⟨_, rfl⟩
  | 45, _ => ⟨_, rfl⟩
  | 46, _ => ⟨_, rfl⟩
  | 47, _ => ⟨_, rfl⟩
  | 48, _ => ⟨_, rfl⟩
  | 49, _ => ⟨_, rfl⟩
  | 50, _ => ⟨_, rfl⟩
  | 51, _ => ⟨_, rfl⟩
  | 52, _ => ⟨_, rfl⟩
  | 53, _ => ⟨_, rfl⟩
  | 54, _ => ⟨_, rfl⟩
  | 55, _ => ⟨_, rfl⟩
  | 56, _ => ⟨_, rfl⟩
  | 57, _ => ⟨_, rfl⟩
  | 58, _ => ⟨_, rfl⟩
  | 59, _ => ⟨_, rfl⟩
  | 60, _ => ⟨_, rfl⟩
  | 61, _ => ⟨_, rfl⟩
  | 62, _ => ⟨_, rfl⟩
  | 63, _ => ⟨_, rfl⟩
  | 64, _ => ⟨_, rfl⟩
  | 65, _ => ⟨_, rfl⟩
  | 66, _ => ⟨_, rfl⟩
  | 67, _ => ⟨_, rfl⟩
  | 68, _ => ⟨_, rfl⟩
  | 69, _ => ⟨_, rfl⟩
  | 70, _ => ⟨_, rfl⟩
  | 71, _ => ⟨_, rfl⟩
  | 72, _ => ⟨_, rfl⟩
  | 73, _ => ⟨_, rfl⟩
  | 74, _ => ⟨_, rfl⟩
  | k + 75, h => absurd h (by omega)
theorem posL_in : ∀ i, i < 75 → ∀ j, j < 75 → posL.getD i 0 = posL.getD j 0 → i = j := by decide +kernel
theorem posL_lt : ∀ i, i < 75 → posL.getD i 0 < 75 := by decide +kernel
theorem Ap0 {A : Nat → Prop} (hD : va_D A (wdX cI cA h0 u ++ wdM cI h1 w)) : Ap (ad0 h0 h1 u w) A := by
  refine ⟨fun i j hi hj e => ?_, fun k hk => ?_⟩
  · obtain ⟨e1, h1'⟩ := w0_at (cI := cI) (cA := cA) (h0 := h0) (h1 := h1) (u := u) (w := w) i hi
    obtain ⟨e2, h2'⟩ := w0_at (cI := cI) (cA := cA) (h0 := h0) (h1 := h1) (u := u) (w := w) j hj
    exact posL_in i hi j hj (hD.1 _ _ _ _ h1' h2' e)
  · obtain ⟨e1, h1'⟩ := w0_at (cI := cI) (cA := cA) (h0 := h0) (h1 := h1) (u := u) (w := w) k hk
    exact hD.2 _ _ h1'
theorem at_arr {ad : Nat → Nat} {k n a : Nat} (hk : k ≠ 6 ∧ k ≠ 7) (ha : ad k = a) (h : va_at D vwCl (a, .inl (cI, n, .inl (fun _ => 0))) H) : va_at D vwCl (ad k, En cI cA ad σ0 k (.inr (.inl n))) H := by
  have e : En cI cA ad σ0 k (.inr (.inl n)) = .inl (cI, n, .inl (fun _ => 0)) := by
    show Sum.inl _ = _
    rw [σ0_z hk]
    rfl
  rw [e, ha]
  exact h
theorem at_ref {ad : Nat → Nat} {k n a b : Nat} {f : Nat → Option Nat} (ha : ad k = a) (hf : ∀ i, i < n → f i = some (ad (b + i))) (h : va_at D vwCl (a, .inl (cA, n, .inr (.inr (.inr (.inr f))))) H) : va_at D vwCl (ad k, En cI cA ad σ0 k (.inr (.inr (b, n)))) H := by
  have h2 : H[a]? = some (vp_cell cA (n, .inr (.inr (.inr (.inr f))))) := h
  rw [vp_refs hf, ← ha] at h2
  exact h2
theorem at_obj {ad : Nat → Nat} {k a : Nat} {fs : List (Option Nat)} {vs : List Value} (ha : ad k = a) (hv : fvs ad σ0 k 0 fs = vs) (h : va_at D vwCl (a, .inr (k, vs)) H) : va_at D vwCl (ad k, En cI cA ad σ0 k (.inl fs)) H := by
  have e : En cI cA ad σ0 k (.inl fs) = .inr (k, vs) := by
    show Sum.inr _ = _
    rw [hv]
  rw [e, ha]
  exact h
theorem ad0_a {i : Nat} (h : i < 13) : ad0 h0 h1 u w (22 + i) = u 21 + 1 + i := by
  unfold ad0
  rw [if_neg (by omega), if_neg (by omega), if_neg (by omega), if_pos (by omega), Nat.add_sub_cancel_left]
theorem ad0_b {i : Nat} (h : i < 12) : ad0 h0 h1 u w (36 + i) = u 35 + 1 + i := by
  unfold ad0
  rw [if_neg (by omega), if_neg (by omega), if_neg (by omega), if_neg (by omega), if_neg (by omega), if_pos (by omega), Nat.add_sub_cancel_left]

theorem p0_0 (hP : va_P D vwCl (wdX cI cA h0 u ++ wdM cI h1 w) H) (sh : Shp) (hs : shT[0]? = some sh) : va_at D vwCl (ad0 h0 h1 u w 0, En cI cA (ad0 h0 h1 u w) σ0 0 sh) H := by
  have e : shT[0]? = some (.inl [some 8, some 9, some 10, some 11, some 12, some 13, none, none]) := rfl
  rw [e] at hs
  cases hs
  exact at_obj rfl rfl (hP 6 _ rfl)
theorem p0_1 (hP : va_P D vwCl (wdX cI cA h0 u ++ wdM cI h1 w) H) (sh : Shp) (hs : shT[1]? = some sh) : va_at D vwCl (ad0 h0 h1 u w 1, En cI cA (ad0 h0 h1 u w) σ0 1 sh) H := by
  have e : shT[1]? = some (.inl [some 14, some 15, some 16, some 17, some 18, some 19, some 20, some 21, some 35, none, none, none]) := rfl
  rw [e] at hs
  cases hs
  exact at_obj rfl rfl (hP 13 _ rfl)
theorem p0_2 (hP : va_P D vwCl (wdX cI cA h0 u ++ wdM cI h1 w) H) (sh : Shp) (hs : shT[2]? = some sh) : va_at D vwCl (ad0 h0 h1 u w 2, En cI cA (ad0 h0 h1 u w) σ0 2 sh) H := by
  have e : shT[2]? = some (.inl [some 48, none]) := rfl
  rw [e] at hs
  cases hs
  exact at_obj rfl rfl (hP 4 _ rfl)
theorem p0_3 (hP : va_P D vwCl (wdX cI cA h0 u ++ wdM cI h1 w) H) (sh : Shp) (hs : shT[3]? = some sh) : va_at D vwCl (ad0 h0 h1 u w 3, En cI cA (ad0 h0 h1 u w) σ0 3 sh) H := by
  have e : shT[3]? = some (.inl [some 49, none, none]) := rfl
  rw [e] at hs
  cases hs
  exact at_obj rfl rfl (hP 54 _ rfl)
theorem p0_4 (hP : va_P D vwCl (wdX cI cA h0 u ++ wdM cI h1 w) H) (sh : Shp) (hs : shT[4]? = some sh) : va_at D vwCl (ad0 h0 h1 u w 4, En cI cA (ad0 h0 h1 u w) σ0 4 sh) H := by
  have e : shT[4]? = some (.inl [some 50, some 51, some 52, some 53, some 54, none, none, none]) := rfl
  rw [e] at hs
  cases hs
  exact at_obj rfl rfl (hP 48 _ rfl)
theorem p0_5 (hP : va_P D vwCl (wdX cI cA h0 u ++ wdM cI h1 w) H) (sh : Shp) (hs : shT[5]? = some sh) : va_at D vwCl (ad0 h0 h1 u w 5, En cI cA (ad0 h0 h1 u w) σ0 5 sh) H := by
  have e : shT[5]? = some (.inl [some 55, some 56, none]) := rfl
  rw [e] at hs
  cases hs
  exact at_obj rfl rfl (hP 1 _ rfl)
theorem p0_6 (hP : va_P D vwCl (wdX cI cA h0 u ++ wdM cI h1 w) H) (sh : Shp) (hs : shT[6]? = some sh) : va_at D vwCl (ad0 h0 h1 u w 6, En cI cA (ad0 h0 h1 u w) σ0 6 sh) H := by
  have e : shT[6]? = some (.inl [some 5, some 2, some 0, some 1, some 4, some 3, none]) := rfl
  rw [e] at hs
  cases hs
  exact at_obj rfl rfl (hP 0 _ rfl)
theorem p0_7 (hP : va_P D vwCl (wdX cI cA h0 u ++ wdM cI h1 w) H) (sh : Shp) (hs : shT[7]? = some sh) : va_at D vwCl (ad0 h0 h1 u w 7, En cI cA (ad0 h0 h1 u w) σ0 7 sh) H := by
  have e : shT[7]? = some (.inl [none, none, some 57, some 58, none, some 59, none, some 60, some 61, some 62, some 63, none, none, some 64, none, some 65, some 66, some 67, some 68, some 69, some 70, none, none, none, none, some 71, some 72, some 73, some 74]) := rfl
  rw [e] at hs
  cases hs
  exact at_obj rfl rfl (hP 56 _ rfl)
theorem p0_8 (hP : va_P D vwCl (wdX cI cA h0 u ++ wdM cI h1 w) H) (sh : Shp) (hs : shT[8]? = some sh) : va_at D vwCl (ad0 h0 h1 u w 8, En cI cA (ad0 h0 h1 u w) σ0 8 sh) H := by
  have e : shT[8]? = some (.inr (.inl 60)) := rfl
  rw [e] at hs
  cases hs
  exact at_arr (by decide) rfl (hP 7 _ rfl)
theorem p0_9 (hP : va_P D vwCl (wdX cI cA h0 u ++ wdM cI h1 w) H) (sh : Shp) (hs : shT[9]? = some sh) : va_at D vwCl (ad0 h0 h1 u w 9, En cI cA (ad0 h0 h1 u w) σ0 9 sh) H := by
  have e : shT[9]? = some (.inr (.inl 60)) := rfl
  rw [e] at hs
  cases hs
  exact at_arr (by decide) rfl (hP 8 _ rfl)
theorem p0_10 (hP : va_P D vwCl (wdX cI cA h0 u ++ wdM cI h1 w) H) (sh : Shp) (hs : shT[10]? = some sh) : va_at D vwCl (ad0 h0 h1 u w 10, En cI cA (ad0 h0 h1 u w) σ0 10 sh) H := by
  have e : shT[10]? = some (.inr (.inl 60)) := rfl
  rw [e] at hs
  cases hs
  exact at_arr (by decide) rfl (hP 9 _ rfl)
theorem p0_11 (hP : va_P D vwCl (wdX cI cA h0 u ++ wdM cI h1 w) H) (sh : Shp) (hs : shT[11]? = some sh) : va_at D vwCl (ad0 h0 h1 u w 11, En cI cA (ad0 h0 h1 u w) σ0 11 sh) H := by
  have e : shT[11]? = some (.inr (.inl 60)) := rfl
  rw [e] at hs
  cases hs
  exact at_arr (by decide) rfl (hP 10 _ rfl)
theorem p0_12 (hP : va_P D vwCl (wdX cI cA h0 u ++ wdM cI h1 w) H) (sh : Shp) (hs : shT[12]? = some sh) : va_at D vwCl (ad0 h0 h1 u w 12, En cI cA (ad0 h0 h1 u w) σ0 12 sh) H := by
  have e : shT[12]? = some (.inr (.inl 60)) := rfl
  rw [e] at hs
  cases hs
  exact at_arr (by decide) rfl (hP 11 _ rfl)
theorem p0_13 (hP : va_P D vwCl (wdX cI cA h0 u ++ wdM cI h1 w) H) (sh : Shp) (hs : shT[13]? = some sh) : va_at D vwCl (ad0 h0 h1 u w 13, En cI cA (ad0 h0 h1 u w) σ0 13 sh) H := by
  have e : shT[13]? = some (.inr (.inl 60)) := rfl
  rw [e] at hs
  cases hs
  exact at_arr (by decide) rfl (hP 12 _ rfl)
theorem p0_14 (hP : va_P D vwCl (wdX cI cA h0 u ++ wdM cI h1 w) H) (sh : Shp) (hs : shT[14]? = some sh) : va_at D vwCl (ad0 h0 h1 u w 14, En cI cA (ad0 h0 h1 u w) σ0 14 sh) H := by
  have e : shT[14]? = some (.inr (.inl 60)) := rfl
  rw [e] at hs
  cases hs
  exact at_arr (by decide) rfl (hP 14 _ rfl)
theorem p0_15 (hP : va_P D vwCl (wdX cI cA h0 u ++ wdM cI h1 w) H) (sh : Shp) (hs : shT[15]? = some sh) : va_at D vwCl (ad0 h0 h1 u w 15, En cI cA (ad0 h0 h1 u w) σ0 15 sh) H := by
  have e : shT[15]? = some (.inr (.inl 12)) := rfl
  rw [e] at hs
  cases hs
  exact at_arr (by decide) rfl (hP 15 _ rfl)
theorem p0_16 (hP : va_P D vwCl (wdX cI cA h0 u ++ wdM cI h1 w) H) (sh : Shp) (hs : shT[16]? = some sh) : va_at D vwCl (ad0 h0 h1 u w 16, En cI cA (ad0 h0 h1 u w) σ0 16 sh) H := by
  have e : shT[16]? = some (.inr (.inl 12)) := rfl
  rw [e] at hs
  cases hs
  exact at_arr (by decide) rfl (hP 16 _ rfl)
theorem p0_17 (hP : va_P D vwCl (wdX cI cA h0 u ++ wdM cI h1 w) H) (sh : Shp) (hs : shT[17]? = some sh) : va_at D vwCl (ad0 h0 h1 u w 17, En cI cA (ad0 h0 h1 u w) σ0 17 sh) H := by
  have e : shT[17]? = some (.inr (.inl 12)) := rfl
  rw [e] at hs
  cases hs
  exact at_arr (by decide) rfl (hP 17 _ rfl)
theorem p0_18 (hP : va_P D vwCl (wdX cI cA h0 u ++ wdM cI h1 w) H) (sh : Shp) (hs : shT[18]? = some sh) : va_at D vwCl (ad0 h0 h1 u w 18, En cI cA (ad0 h0 h1 u w) σ0 18 sh) H := by
  have e : shT[18]? = some (.inr (.inl 60)) := rfl
  rw [e] at hs
  cases hs
  exact at_arr (by decide) rfl (hP 18 _ rfl)
theorem p0_19 (hP : va_P D vwCl (wdX cI cA h0 u ++ wdM cI h1 w) H) (sh : Shp) (hs : shT[19]? = some sh) : va_at D vwCl (ad0 h0 h1 u w 19, En cI cA (ad0 h0 h1 u w) σ0 19 sh) H := by
  have e : shT[19]? = some (.inr (.inl 60)) := rfl
  rw [e] at hs
  cases hs
  exact at_arr (by decide) rfl (hP 19 _ rfl)
theorem p0_20 (hP : va_P D vwCl (wdX cI cA h0 u ++ wdM cI h1 w) H) (sh : Shp) (hs : shT[20]? = some sh) : va_at D vwCl (ad0 h0 h1 u w 20, En cI cA (ad0 h0 h1 u w) σ0 20 sh) H := by
  have e : shT[20]? = some (.inr (.inl 60)) := rfl
  rw [e] at hs
  cases hs
  exact at_arr (by decide) rfl (hP 20 _ rfl)
theorem p0_21 (hP : va_P D vwCl (wdX cI cA h0 u ++ wdM cI h1 w) H) (sh : Shp) (hs : shT[21]? = some sh) : va_at D vwCl (ad0 h0 h1 u w 21, En cI cA (ad0 h0 h1 u w) σ0 21 sh) H := by
  have e : shT[21]? = some (.inr (.inr (22, 13))) := rfl
  rw [e] at hs
  cases hs
  exact at_ref rfl (fun i hi => by rw [if_pos hi, ad0_a hi]) (hP 21 _ rfl)
theorem p0_22 (hP : va_P D vwCl (wdX cI cA h0 u ++ wdM cI h1 w) H) (sh : Shp) (hs : shT[22]? = some sh) : va_at D vwCl (ad0 h0 h1 u w 22, En cI cA (ad0 h0 h1 u w) σ0 22 sh) H := by
  have e : shT[22]? = some (.inr (.inl 61)) := rfl
  rw [e] at hs
  cases hs
  exact at_arr (by decide) rfl (hP 22 _ rfl)
theorem p0_23 (hP : va_P D vwCl (wdX cI cA h0 u ++ wdM cI h1 w) H) (sh : Shp) (hs : shT[23]? = some sh) : va_at D vwCl (ad0 h0 h1 u w 23, En cI cA (ad0 h0 h1 u w) σ0 23 sh) H := by
  have e : shT[23]? = some (.inr (.inl 61)) := rfl
  rw [e] at hs
  cases hs
  exact at_arr (by decide) rfl (hP 23 _ rfl)
theorem p0_24 (hP : va_P D vwCl (wdX cI cA h0 u ++ wdM cI h1 w) H) (sh : Shp) (hs : shT[24]? = some sh) : va_at D vwCl (ad0 h0 h1 u w 24, En cI cA (ad0 h0 h1 u w) σ0 24 sh) H := by
  have e : shT[24]? = some (.inr (.inl 61)) := rfl
  rw [e] at hs
  cases hs
  exact at_arr (by decide) rfl (hP 24 _ rfl)
theorem p0_25 (hP : va_P D vwCl (wdX cI cA h0 u ++ wdM cI h1 w) H) (sh : Shp) (hs : shT[25]? = some sh) : va_at D vwCl (ad0 h0 h1 u w 25, En cI cA (ad0 h0 h1 u w) σ0 25 sh) H := by
  have e : shT[25]? = some (.inr (.inl 61)) := rfl
  rw [e] at hs
  cases hs
  exact at_arr (by decide) rfl (hP 25 _ rfl)
theorem p0_26 (hP : va_P D vwCl (wdX cI cA h0 u ++ wdM cI h1 w) H) (sh : Shp) (hs : shT[26]? = some sh) : va_at D vwCl (ad0 h0 h1 u w 26, En cI cA (ad0 h0 h1 u w) σ0 26 sh) H := by
  have e : shT[26]? = some (.inr (.inl 61)) := rfl
  rw [e] at hs
  cases hs
  exact at_arr (by decide) rfl (hP 26 _ rfl)
theorem p0_27 (hP : va_P D vwCl (wdX cI cA h0 u ++ wdM cI h1 w) H) (sh : Shp) (hs : shT[27]? = some sh) : va_at D vwCl (ad0 h0 h1 u w 27, En cI cA (ad0 h0 h1 u w) σ0 27 sh) H := by
  have e : shT[27]? = some (.inr (.inl 61)) := rfl
  rw [e] at hs
  cases hs
  exact at_arr (by decide) rfl (hP 27 _ rfl)
theorem p0_28 (hP : va_P D vwCl (wdX cI cA h0 u ++ wdM cI h1 w) H) (sh : Shp) (hs : shT[28]? = some sh) : va_at D vwCl (ad0 h0 h1 u w 28, En cI cA (ad0 h0 h1 u w) σ0 28 sh) H := by
  have e : shT[28]? = some (.inr (.inl 61)) := rfl
  rw [e] at hs
  cases hs
  exact at_arr (by decide) rfl (hP 28 _ rfl)
theorem p0_29 (hP : va_P D vwCl (wdX cI cA h0 u ++ wdM cI h1 w) H) (sh : Shp) (hs : shT[29]? = some sh) : va_at D vwCl (ad0 h0 h1 u w 29, En cI cA (ad0 h0 h1 u w) σ0 29 sh) H := by
  have e : shT[29]? = some (.inr (.inl 61)) := rfl
  rw [e] at hs
  cases hs
  exact at_arr (by decide) rfl (hP 29 _ rfl)
theorem p0_30 (hP : va_P D vwCl (wdX cI cA h0 u ++ wdM cI h1 w) H) (sh : Shp) (hs : shT[30]? = some sh) : va_at D vwCl (ad0 h0 h1 u w 30, En cI cA (ad0 h0 h1 u w) σ0 30 sh) H := by
  have e : shT[30]? = some (.inr (.inl 61)) := rfl
  rw [e] at hs
  cases hs
  exact at_arr (by decide) rfl (hP 30 _ rfl)
theorem p0_31 (hP : va_P D vwCl (wdX cI cA h0 u ++ wdM cI h1 w) H) (sh : Shp) (hs : shT[31]? = some sh) : va_at D vwCl (ad0 h0 h1 u w 31, En cI cA (ad0 h0 h1 u w) σ0 31 sh) H := by
  have e : shT[31]? = some (.inr (.inl 61)) := rfl
  rw [e] at hs
  cases hs
  exact at_arr (by decide) rfl (hP 31 _ rfl)
theorem p0_32 (hP : va_P D vwCl (wdX cI cA h0 u ++ wdM cI h1 w) H) (sh : Shp) (hs : shT[32]? = some sh) : va_at D vwCl (ad0 h0 h1 u w 32, En cI cA (ad0 h0 h1 u w) σ0 32 sh) H := by
  have e : shT[32]? = some (.inr (.inl 61)) := rfl
  rw [e] at hs
  cases hs
  exact at_arr (by decide) rfl (hP 32 _ rfl)
theorem p0_33 (hP : va_P D vwCl (wdX cI cA h0 u ++ wdM cI h1 w) H) (sh : Shp) (hs : shT[33]? = some sh) : va_at D vwCl (ad0 h0 h1 u w 33, En cI cA (ad0 h0 h1 u w) σ0 33 sh) H := by
  have e : shT[33]? = some (.inr (.inl 61)) := rfl
  rw [e] at hs
  cases hs
  exact at_arr (by decide) rfl (hP 33 _ rfl)
theorem p0_34 (hP : va_P D vwCl (wdX cI cA h0 u ++ wdM cI h1 w) H) (sh : Shp) (hs : shT[34]? = some sh) : va_at D vwCl (ad0 h0 h1 u w 34, En cI cA (ad0 h0 h1 u w) σ0 34 sh) H := by
  have e : shT[34]? = some (.inr (.inl 61)) := rfl
  rw [e] at hs
  cases hs
  exact at_arr (by decide) rfl (hP 34 _ rfl)
theorem p0_35 (hP : va_P D vwCl (wdX cI cA h0 u ++ wdM cI h1 w) H) (sh : Shp) (hs : shT[35]? = some sh) : va_at D vwCl (ad0 h0 h1 u w 35, En cI cA (ad0 h0 h1 u w) σ0 35 sh) H := by
  have e : shT[35]? = some (.inr (.inr (36, 12))) := rfl
  rw [e] at hs
  cases hs
  exact at_ref rfl (fun i hi => by rw [if_pos hi, ad0_b hi]) (hP 35 _ rfl)
theorem p0_36 (hP : va_P D vwCl (wdX cI cA h0 u ++ wdM cI h1 w) H) (sh : Shp) (hs : shT[36]? = some sh) : va_at D vwCl (ad0 h0 h1 u w 36, En cI cA (ad0 h0 h1 u w) σ0 36 sh) H := by
  have e : shT[36]? = some (.inr (.inl 61)) := rfl
  rw [e] at hs
  cases hs
  exact at_arr (by decide) rfl (hP 36 _ rfl)
theorem p0_37 (hP : va_P D vwCl (wdX cI cA h0 u ++ wdM cI h1 w) H) (sh : Shp) (hs : shT[37]? = some sh) : va_at D vwCl (ad0 h0 h1 u w 37, En cI cA (ad0 h0 h1 u w) σ0 37 sh) H := by
  have e : shT[37]? = some (.inr (.inl 61)) := rfl
  rw [e] at hs
  cases hs
  exact at_arr (by decide) rfl (hP 37 _ rfl)
theorem p0_38 (hP : va_P D vwCl (wdX cI cA h0 u ++ wdM cI h1 w) H) (sh : Shp) (hs : shT[38]? = some sh) : va_at D vwCl (ad0 h0 h1 u w 38, En cI cA (ad0 h0 h1 u w) σ0 38 sh) H := by
  have e : shT[38]? = some (.inr (.inl 61)) := rfl
  rw [e] at hs
  cases hs
  exact at_arr (by decide) rfl (hP 38 _ rfl)
theorem p0_39 (hP : va_P D vwCl (wdX cI cA h0 u ++ wdM cI h1 w) H) (sh : Shp) (hs : shT[39]? = some sh) : va_at D vwCl (ad0 h0 h1 u w 39, En cI cA (ad0 h0 h1 u w) σ0 39 sh) H := by
  have e : shT[39]? = some (.inr (.inl 61)) := rfl
  rw [e] at hs
  cases hs
  exact at_arr (by decide) rfl (hP 39 _ rfl)
theorem p0_40 (hP : va_P D vwCl (wdX cI cA h0 u ++ wdM cI h1 w) H) (sh : Shp) (hs : shT[40]? = some sh) : va_at D vwCl (ad0 h0 h1 u w 40, En cI cA (ad0 h0 h1 u w) σ0 40 sh) H := by
  have e : shT[40]? = some (.inr (.inl 61)) := rfl
  rw [e] at hs
  cases hs
  exact at_arr (by decide) rfl (hP 40 _ rfl)
theorem p0_41 (hP : va_P D vwCl (wdX cI cA h0 u ++ wdM cI h1 w) H) (sh : Shp) (hs : shT[41]? = some sh) : va_at D vwCl (ad0 h0 h1 u w 41, En cI cA (ad0 h0 h1 u w) σ0 41 sh) H := by
  have e : shT[41]? = some (.inr (.inl 61)) := rfl
  rw [e] at hs
  cases hs
  exact at_arr (by decide) rfl (hP 41 _ rfl)
theorem p0_42 (hP : va_P D vwCl (wdX cI cA h0 u ++ wdM cI h1 w) H) (sh : Shp) (hs : shT[42]? = some sh) : va_at D vwCl (ad0 h0 h1 u w 42, En cI cA (ad0 h0 h1 u w) σ0 42 sh) H := by
  have e : shT[42]? = some (.inr (.inl 61)) := rfl
  rw [e] at hs
  cases hs
  exact at_arr (by decide) rfl (hP 42 _ rfl)
theorem p0_43 (hP : va_P D vwCl (wdX cI cA h0 u ++ wdM cI h1 w) H) (sh : Shp) (hs : shT[43]? = some sh) : va_at D vwCl (ad0 h0 h1 u w 43, En cI cA (ad0 h0 h1 u w) σ0 43 sh) H := by
  have e : shT[43]? = some (.inr (.inl 61)) := rfl
  rw [e] at hs
  cases hs
  exact at_arr (by decide) rfl (hP 43 _ rfl)
theorem p0_44 (hP : va_P D vwCl (wdX cI cA h0 u ++ wdM cI h1 w) H) (sh : Shp) (hs : shT[44]? = some sh) : va_at D vwCl (ad0 h0 h1 u w 44, En cI cA (ad0 h0 h1 u w) σ0 44 sh) H := by
  have e : shT[44]? = some (.inr (.inl 61)) := rfl
  rw [e] at hs
  cases hs
  exact at_arr (by decide) rfl (hP 44 _ rfl)
theorem p0_45 (hP : va_P D vwCl (wdX cI cA h0 u ++ wdM cI h1 w) H) (sh : Shp) (hs : shT[45]? = some sh) : va_at D vwCl (ad0 h0 h1 u w 45, En cI cA (ad0 h0 h1 u w) σ0 45 sh) H := by
  have e : shT[45]? = some (.inr (.inl 61)) := rfl
  rw [e] at hs
  cases hs
  exact at_arr (by decide) rfl (hP 45 _ rfl)
theorem p0_46 (hP : va_P D vwCl (wdX cI cA h0 u ++ wdM cI h1 w) H) (sh : Shp) (hs : shT[46]? = some sh) : va_at D vwCl (ad0 h0 h1 u w 46, En cI cA (ad0 h0 h1 u w) σ0 46 sh) H := by
  have e : shT[46]? = some (.inr (.inl 61)) := rfl
  rw [e] at hs
  cases hs
  exact at_arr (by decide) rfl (hP 46 _ rfl)
theorem p0_47 (hP : va_P D vwCl (wdX cI cA h0 u ++ wdM cI h1 w) H) (sh : Shp) (hs : shT[47]? = some sh) : va_at D vwCl (ad0 h0 h1 u w 47, En cI cA (ad0 h0 h1 u w) σ0 47 sh) H := by
  have e : shT[47]? = some (.inr (.inl 61)) := rfl
  rw [e] at hs
  cases hs
  exact at_arr (by decide) rfl (hP 47 _ rfl)
theorem p0_48 (hP : va_P D vwCl (wdX cI cA h0 u ++ wdM cI h1 w) H) (sh : Shp) (hs : shT[48]? = some sh) : va_at D vwCl (ad0 h0 h1 u w 48, En cI cA (ad0 h0 h1 u w) σ0 48 sh) H := by
  have e : shT[48]? = some (.inr (.inl 8)) := rfl
  rw [e] at hs
  cases hs
  exact at_arr (by decide) rfl (hP 5 _ rfl)
theorem p0_49 (hP : va_P D vwCl (wdX cI cA h0 u ++ wdM cI h1 w) H) (sh : Shp) (hs : shT[49]? = some sh) : va_at D vwCl (ad0 h0 h1 u w 49, En cI cA (ad0 h0 h1 u w) σ0 49 sh) H := by
  have e : shT[49]? = some (.inr (.inl 200)) := rfl
  rw [e] at hs
  cases hs
  exact at_arr (by decide) rfl (hP 55 _ rfl)
theorem p0_50 (hP : va_P D vwCl (wdX cI cA h0 u ++ wdM cI h1 w) H) (sh : Shp) (hs : shT[50]? = some sh) : va_at D vwCl (ad0 h0 h1 u w 50, En cI cA (ad0 h0 h1 u w) σ0 50 sh) H := by
  have e : shT[50]? = some (.inr (.inl 60)) := rfl
  rw [e] at hs
  cases hs
  exact at_arr (by decide) rfl (hP 49 _ rfl)
theorem p0_51 (hP : va_P D vwCl (wdX cI cA h0 u ++ wdM cI h1 w) H) (sh : Shp) (hs : shT[51]? = some sh) : va_at D vwCl (ad0 h0 h1 u w 51, En cI cA (ad0 h0 h1 u w) σ0 51 sh) H := by
  have e : shT[51]? = some (.inr (.inl 60)) := rfl
  rw [e] at hs
  cases hs
  exact at_arr (by decide) rfl (hP 50 _ rfl)
theorem p0_52 (hP : va_P D vwCl (wdX cI cA h0 u ++ wdM cI h1 w) H) (sh : Shp) (hs : shT[52]? = some sh) : va_at D vwCl (ad0 h0 h1 u w 52, En cI cA (ad0 h0 h1 u w) σ0 52 sh) H := by
  have e : shT[52]? = some (.inr (.inl 60)) := rfl
  rw [e] at hs
  cases hs
  exact at_arr (by decide) rfl (hP 51 _ rfl)
theorem p0_53 (hP : va_P D vwCl (wdX cI cA h0 u ++ wdM cI h1 w) H) (sh : Shp) (hs : shT[53]? = some sh) : va_at D vwCl (ad0 h0 h1 u w 53, En cI cA (ad0 h0 h1 u w) σ0 53 sh) H := by
  have e : shT[53]? = some (.inr (.inl 60)) := rfl
  rw [e] at hs
  cases hs
  exact at_arr (by decide) rfl (hP 52 _ rfl)
theorem p0_54 (hP : va_P D vwCl (wdX cI cA h0 u ++ wdM cI h1 w) H) (sh : Shp) (hs : shT[54]? = some sh) : va_at D vwCl (ad0 h0 h1 u w 54, En cI cA (ad0 h0 h1 u w) σ0 54 sh) H := by
  have e : shT[54]? = some (.inr (.inl 60)) := rfl
  rw [e] at hs
  cases hs
  exact at_arr (by decide) rfl (hP 53 _ rfl)
theorem p0_55 (hP : va_P D vwCl (wdX cI cA h0 u ++ wdM cI h1 w) H) (sh : Shp) (hs : shT[55]? = some sh) : va_at D vwCl (ad0 h0 h1 u w 55, En cI cA (ad0 h0 h1 u w) σ0 55 sh) H := by
  have e : shT[55]? = some (.inr (.inl 12)) := rfl
  rw [e] at hs
  cases hs
  exact at_arr (by decide) rfl (hP 2 _ rfl)
theorem p0_56 (hP : va_P D vwCl (wdX cI cA h0 u ++ wdM cI h1 w) H) (sh : Shp) (hs : shT[56]? = some sh) : va_at D vwCl (ad0 h0 h1 u w 56, En cI cA (ad0 h0 h1 u w) σ0 56 sh) H := by
  have e : shT[56]? = some (.inr (.inl 12)) := rfl
  rw [e] at hs
  cases hs
  exact at_arr (by decide) rfl (hP 3 _ rfl)
theorem p0_57 (hP : va_P D vwCl (wdX cI cA h0 u ++ wdM cI h1 w) H) (sh : Shp) (hs : shT[57]? = some sh) : va_at D vwCl (ad0 h0 h1 u w 57, En cI cA (ad0 h0 h1 u w) σ0 57 sh) H := by
  have e : shT[57]? = some (.inr (.inl 12)) := rfl
  rw [e] at hs
  cases hs
  exact at_arr (by decide) rfl (hP 57 _ rfl)
theorem p0_58 (hP : va_P D vwCl (wdX cI cA h0 u ++ wdM cI h1 w) H) (sh : Shp) (hs : shT[58]? = some sh) : va_at D vwCl (ad0 h0 h1 u w 58, En cI cA (ad0 h0 h1 u w) σ0 58 sh) H := by
  have e : shT[58]? = some (.inr (.inl 12)) := rfl
  rw [e] at hs
  cases hs
  exact at_arr (by decide) rfl (hP 58 _ rfl)
theorem p0_59 (hP : va_P D vwCl (wdX cI cA h0 u ++ wdM cI h1 w) H) (sh : Shp) (hs : shT[59]? = some sh) : va_at D vwCl (ad0 h0 h1 u w 59, En cI cA (ad0 h0 h1 u w) σ0 59 sh) H := by
  have e : shT[59]? = some (.inr (.inl 8)) := rfl
  rw [e] at hs
  cases hs
  exact at_arr (by decide) rfl (hP 59 _ rfl)
theorem p0_60 (hP : va_P D vwCl (wdX cI cA h0 u ++ wdM cI h1 w) H) (sh : Shp) (hs : shT[60]? = some sh) : va_at D vwCl (ad0 h0 h1 u w 60, En cI cA (ad0 h0 h1 u w) σ0 60 sh) H := by
  have e : shT[60]? = some (.inr (.inl 61)) := rfl
  rw [e] at hs
  cases hs
  exact at_arr (by decide) rfl (hP 60 _ rfl)
theorem p0_61 (hP : va_P D vwCl (wdX cI cA h0 u ++ wdM cI h1 w) H) (sh : Shp) (hs : shT[61]? = some sh) : va_at D vwCl (ad0 h0 h1 u w 61, En cI cA (ad0 h0 h1 u w) σ0 61 sh) H := by
  have e : shT[61]? = some (.inr (.inl 61)) := rfl
  rw [e] at hs
  cases hs
  exact at_arr (by decide) rfl (hP 61 _ rfl)
theorem p0_62 (hP : va_P D vwCl (wdX cI cA h0 u ++ wdM cI h1 w) H) (sh : Shp) (hs : shT[62]? = some sh) : va_at D vwCl (ad0 h0 h1 u w 62, En cI cA (ad0 h0 h1 u w) σ0 62 sh) H := by
  have e : shT[62]? = some (.inr (.inl 61)) := rfl
  rw [e] at hs
  cases hs
  exact at_arr (by decide) rfl (hP 62 _ rfl)
theorem p0_63 (hP : va_P D vwCl (wdX cI cA h0 u ++ wdM cI h1 w) H) (sh : Shp) (hs : shT[63]? = some sh) : va_at D vwCl (ad0 h0 h1 u w 63, En cI cA (ad0 h0 h1 u w) σ0 63 sh) H := by
  have e : shT[63]? = some (.inr (.inl 61)) := rfl
  rw [e] at hs
  cases hs
  exact at_arr (by decide) rfl (hP 63 _ rfl)
theorem p0_64 (hP : va_P D vwCl (wdX cI cA h0 u ++ wdM cI h1 w) H) (sh : Shp) (hs : shT[64]? = some sh) : va_at D vwCl (ad0 h0 h1 u w 64, En cI cA (ad0 h0 h1 u w) σ0 64 sh) H := by
  have e : shT[64]? = some (.inr (.inl 200)) := rfl
  rw [e] at hs
  cases hs
  exact at_arr (by decide) rfl (hP 64 _ rfl)
theorem p0_65 (hP : va_P D vwCl (wdX cI cA h0 u ++ wdM cI h1 w) H) (sh : Shp) (hs : shT[65]? = some sh) : va_at D vwCl (ad0 h0 h1 u w 65, En cI cA (ad0 h0 h1 u w) σ0 65 sh) H := by
  have e : shT[65]? = some (.inr (.inl 61)) := rfl
  rw [e] at hs
  cases hs
  exact at_arr (by decide) rfl (hP 65 _ rfl)
theorem p0_66 (hP : va_P D vwCl (wdX cI cA h0 u ++ wdM cI h1 w) H) (sh : Shp) (hs : shT[66]? = some sh) : va_at D vwCl (ad0 h0 h1 u w 66, En cI cA (ad0 h0 h1 u w) σ0 66 sh) H := by
  have e : shT[66]? = some (.inr (.inl 61)) := rfl
  rw [e] at hs
  cases hs
  exact at_arr (by decide) rfl (hP 66 _ rfl)
theorem p0_67 (hP : va_P D vwCl (wdX cI cA h0 u ++ wdM cI h1 w) H) (sh : Shp) (hs : shT[67]? = some sh) : va_at D vwCl (ad0 h0 h1 u w 67, En cI cA (ad0 h0 h1 u w) σ0 67 sh) H := by
  have e : shT[67]? = some (.inr (.inl 793)) := rfl
  rw [e] at hs
  cases hs
  exact at_arr (by decide) rfl (hP 67 _ rfl)
theorem p0_68 (hP : va_P D vwCl (wdX cI cA h0 u ++ wdM cI h1 w) H) (sh : Shp) (hs : shT[68]? = some sh) : va_at D vwCl (ad0 h0 h1 u w 68, En cI cA (ad0 h0 h1 u w) σ0 68 sh) H := by
  have e : shT[68]? = some (.inr (.inl 12)) := rfl
  rw [e] at hs
  cases hs
  exact at_arr (by decide) rfl (hP 68 _ rfl)
theorem p0_69 (hP : va_P D vwCl (wdX cI cA h0 u ++ wdM cI h1 w) H) (sh : Shp) (hs : shT[69]? = some sh) : va_at D vwCl (ad0 h0 h1 u w 69, En cI cA (ad0 h0 h1 u w) σ0 69 sh) H := by
  have e : shT[69]? = some (.inr (.inl 61)) := rfl
  rw [e] at hs
  cases hs
  exact at_arr (by decide) rfl (hP 69 _ rfl)
theorem p0_70 (hP : va_P D vwCl (wdX cI cA h0 u ++ wdM cI h1 w) H) (sh : Shp) (hs : shT[70]? = some sh) : va_at D vwCl (ad0 h0 h1 u w 70, En cI cA (ad0 h0 h1 u w) σ0 70 sh) H := by
  have e : shT[70]? = some (.inr (.inl 61)) := rfl
  rw [e] at hs
  cases hs
  exact at_arr (by decide) rfl (hP 70 _ rfl)
theorem p0_71 (hP : va_P D vwCl (wdX cI cA h0 u ++ wdM cI h1 w) H) (sh : Shp) (hs : shT[71]? = some sh) : va_at D vwCl (ad0 h0 h1 u w 71, En cI cA (ad0 h0 h1 u w) σ0 71 sh) H := by
  have e : shT[71]? = some (.inr (.inl 60)) := rfl
  rw [e] at hs
  cases hs
  exact at_arr (by decide) rfl (hP 71 _ rfl)
theorem p0_72 (hP : va_P D vwCl (wdX cI cA h0 u ++ wdM cI h1 w) H) (sh : Shp) (hs : shT[72]? = some sh) : va_at D vwCl (ad0 h0 h1 u w 72, En cI cA (ad0 h0 h1 u w) σ0 72 sh) H := by
  have e : shT[72]? = some (.inr (.inl 60)) := rfl
  rw [e] at hs
  cases hs
  exact at_arr (by decide) rfl (hP 72 _ rfl)
theorem p0_73 (hP : va_P D vwCl (wdX cI cA h0 u ++ wdM cI h1 w) H) (sh : Shp) (hs : shT[73]? = some sh) : va_at D vwCl (ad0 h0 h1 u w 73, En cI cA (ad0 h0 h1 u w) σ0 73 sh) H := by
  have e : shT[73]? = some (.inr (.inl 60)) := rfl
  rw [e] at hs
  cases hs
  exact at_arr (by decide) rfl (hP 73 _ rfl)
theorem p0_74 (hP : va_P D vwCl (wdX cI cA h0 u ++ wdM cI h1 w) H) (sh : Shp) (hs : shT[74]? = some sh) : va_at D vwCl (ad0 h0 h1 u w 74, En cI cA (ad0 h0 h1 u w) σ0 74 sh) H := by
  have e : shT[74]? = some (.inr (.inl 60)) := rfl
  rw [e] at hs
  cases hs
  exact at_arr (by decide) rfl (hP 74 _ rfl)
theorem w0_R (hP : va_P D vwCl (wdX cI cA h0 u ++ wdM cI h1 w) H) (k : Nat) (hk : k < 75) : ∀ sh : Shp, shT[k]? = some sh → va_at D vwCl (ad0 h0 h1 u w k, En cI cA (ad0 h0 h1 u w) σ0 k sh) H :=
  match k, hk with
  | 0, _ => p0_0 hP
  | 1, _ => p0_1 hP
  | 2, _ => p0_2 hP
  | 3, _ => p0_3 hP
  | 4, _ => p0_4 hP
  | 5, _ => p0_5 hP
  | 6, _ => p0_6 hP
  | 7, _ => p0_7 hP
  | 8, _ => p0_8 hP
  | 9, _ => p0_9 hP
  | 10, _ => p0_10 hP
  | 11, _ => p0_11 hP
  | 12, _ => p0_12 hP
  | 13, _ => p0_13 hP
  | 14, _ => p0_14 hP
  | 15, _ => p0_15 hP
  | 16, _ => p0_16 hP
  | 17, _ => p0_17 hP
  | 18, _ => p0_18 hP
  | 19, _ => p0_19 hP
  | 20, _ => p0_20 hP
  | 21, _ => p0_21 hP
  | 22, _ => p0_22 hP
  | 23, _ => p0_23 hP
  | 24, _ => p0_24 hP
  | 25, _ => p0_25 hP
  | 26, _ => p0_26 hP
  | 27, _ => p0_27 hP
  | 28, _ => p0_28 hP
  | 29, _ => p0_29 hP
  | 30, _ => p0_30 hP
  | 31, _ => p0_31 hP
  | 32, _ => p0_32 hP
  | 33, _ => p0_33 hP
  | 34, _ => p0_34 hP
  | 35, _ => p0_35 hP
  | 36, _ => p0_36 hP
  | 37, _ => p0_37 hP
  | 38, _ => p0_38 hP
  | 39, _ => p0_39 hP
  | 40, _ => p0_40 hP
  | 41, _ => p0_41 hP
  | 42, _ => p0_42 hP
  | 43, _ => p0_43 hP
  | 44, _ => p0_44 hP
  | 45, _ => p0_45 hP
  | 46, _ => p0_46 hP
  | 47, _ => p0_47 hP
  | 48, _ => p0_48 hP
  | 49, _ => p0_49 hP
  | 50, _ => p0_50 hP
  | 51, _ => p0_51 hP
  | 52, _ => p0_52 hP
  | 53, _ => p0_53 hP
  | 54, _ => p0_54 hP
  | 55, _ => p0_55 hP
  | 56, _ => p0_56 hP
  | 57, _ => p0_57 hP
  | 58, _ => p0_58 hP
  | 59, _ => p0_59 hP
  | 60, _ => p0_60 hP
  | 61, _ => p0_61 hP
  | 62, _ => p0_62 hP
  | 63, _ => p0_63 hP
  | 64, _ => p0_64 hP
  | 65, _ => p0_65 hP
  | 66, _ => p0_66 hP
  | 67, _ => p0_67 hP
  | 68, _ => p0_68 hP
  | 69, _ => p0_69 hP
  | 70, _ => p0_70 hP
  | 71, _ => p0_71 hP
  | 72, _ => p0_72 hP
  | 73, _ => p0_73 hP
  | 74, _ => p0_74 hP
  | k + 75, h => absurd h (by omega)
theorem w0_P (hP : va_P D vwCl (wdX cI cA h0 u ++ wdM cI h1 w) H) : va_P D vwCl (Wd cI cA (ad0 h0 h1 u w) σ0) H := by
  intro k q hk
  obtain ⟨sh, hs, rfl⟩ := Wd_of hk
  exact w0_R hP k (shT_lt hs) sh hs
end W0
theorem Rel0 : RelS σ0 σ0 := by
  have z : ∀ (k : Nat) (j : Int), k ≠ 6 ∧ k ≠ 7 → σ0 k j = 0 := fun k j h => by rw [σ0_z h]
  have e52 : σ0 5 2 = 0 := z _ _ (by decide)
  have e21 : σ0 2 1 = 0 := z _ _ (by decide)
  have e06 : σ0 0 6 = 0 := z _ _ (by decide)
  have e07 : σ0 0 7 = 0 := z _ _ (by decide)
  have e45 : σ0 4 5 = 0 := z _ _ (by decide)
  have e46 : σ0 4 6 = 0 := z _ _ (by decide)
  have e31 : σ0 3 1 = 0 := z _ _ (by decide)
  have e32 : σ0 3 2 = 0 := z _ _ (by decide)
  have e66 : σ0 6 6 = 100 := by decide
  have e712 : σ0 7 12 = 100 := by decide
  have e71 : σ0 7 1 = 0 := by decide
  have e74 : σ0 7 4 = 0 := by decide
  have e76 : σ0 7 6 = 0 := by decide
  have e711 : σ0 7 11 = 0 := by decide
  have e714 : σ0 7 14 = 0 := by decide
  have e721 : σ0 7 21 = 0 := by decide
  refine ⟨by omega, fun s s0 s1 => by omega, by omega, fun g g0 g1 => by omega, by omega, fun b b0 b1 => by omega, fun b b0 b1 => by omega, by omega, ⟨by omega, by omega, by omega, by omega, by omega⟩, Or.inl ⟨e721, e45, e46⟩, [], ⟨by omega, by rw [e32]; rfl, fun k e hk h => by simp at h⟩, ⟨by rw [e714]; rfl, fun k e hk h => by simp at h⟩⟩
