/-! ===== the world that the constructors leave ===== -/
abbrev wX0 (h0 : Nat) : va_W := [(h0, .inr (6, [.null, .null, .null, .null, .null, .null, .int 0]))]
abbrev wX (cI cA : ClassId) (h0 : Nat) (u : Nat → Nat) : va_W := [(h0, .inr (6, [.ref (u 5), .ref (u 2), .ref (u 0), .ref (u 1), .ref (u 4), .ref (u 3), .int 100])), ((u 5), .inr (5, [.ref ((u 55)), .ref ((u 56)), .int 0])), (((u 55)), .inl (cI, 12, .inl (fun _ => 0))), (((u 56)), .inl (cI, 12, .inl (fun _ => 0))), ((u 2), .inr (2, [.ref ((u 48)), .int 0])), (((u 48)), .inl (cI, 8, .inl (fun _ => 0))), ((u 0), .inr (0, [.ref ((u 8)), .ref ((u 9)), .ref ((u 10)), .ref ((u 11)), .ref ((u 12)), .ref ((u 13)), .int 0, .int 0])), (((u 8)), .inl (cI, 60, .inl (fun _ => 0))), (((u 9)), .inl (cI, 60, .inl (fun _ => 0))), (((u 10)), .inl (cI, 60, .inl (fun _ => 0))), (((u 11)), .inl (cI, 60, .inl (fun _ => 0))), (((u 12)), .inl (cI, 60, .inl (fun _ => 0))), (((u 13)), .inl (cI, 60, .inl (fun _ => 0))), ((u 1), .inr (1, [.ref ((u 14)), .ref ((u 15)), .ref ((u 16)), .ref ((u 17)), .ref ((u 18)), .ref ((u 19)), .ref ((u 20)), .ref ((u 21)), .ref ((u 35)), .int 0, .int 0, .int 0])), (((u 14)), .inl (cI, 60, .inl (fun _ => 0))), (((u 15)), .inl (cI, 12, .inl (fun _ => 0))), (((u 16)), .inl (cI, 12, .inl (fun _ => 0))), (((u 17)), .inl (cI, 12, .inl (fun _ => 0))), (((u 18)), .inl (cI, 60, .inl (fun _ => 0))), (((u 19)), .inl (cI, 60, .inl (fun _ => 0))), (((u 20)), .inl (cI, 60, .inl (fun _ => 0))), (((u 21)), .inl (cA, 13, .inr (.inr (.inr (.inr (fun i => if i < 13 then some (((u 21)) + 1 + i) else none)))))), (((u 21)) + 1 + 0, .inl (cI, 61, .inl (fun _ => 0))), (((u 21)) + 1 + 1, .inl (cI, 61, .inl (fun _ => 0))), (((u 21)) + 1 + 2, .inl (cI, 61, .inl (fun _ => 0))), (((u 21)) + 1 + 3, .inl (cI, 61, .inl (fun _ => 0))), (((u 21)) + 1 + 4, .inl (cI, 61, .inl (fun _ => 0))), (((u 21)) + 1 + 5, .inl (cI, 61, .inl (fun _ => 0))), (((u 21)) + 1 + 6, .inl (cI, 61, .inl (fun _ => 0))), (((u 21)) + 1 + 7, .inl (cI, 61, .inl (fun _ => 0))), (((u 21)) + 1 + 8, .inl (cI, 61, .inl (fun _ => 0))), (((u 21)) + 1 + 9, .inl (cI, 61, .inl (fun _ => 0))), (((u 21)) + 1 + 10, .inl (cI, 61, .inl (fun _ => 0))), (((u 21)) + 1 + 11, .inl (cI, 61, .inl (fun _ => 0))), (((u 21)) + 1 + 12, .inl (cI, 61, .inl (fun _ => 0))), (((u 35)), .inl (cA, 12, .inr (.inr (.inr (.inr (fun i => if i < 12 then some (((u 35)) + 1 + i) else none)))))), (((u 35)) + 1 + 0, .inl (cI, 61, .inl (fun _ => 0))), (((u 35)) + 1 + 1, .inl (cI, 61, .inl (fun _ => 0))), (((u 35)) + 1 + 2, .inl (cI, 61, .inl (fun _ => 0))), (((u 35)) + 1 + 3, .inl (cI, 61, .inl (fun _ => 0))), (((u 35)) + 1 + 4, .inl (cI, 61, .inl (fun _ => 0))), (((u 35)) + 1 + 5, .inl (cI, 61, .inl (fun _ => 0))), (((u 35)) + 1 + 6, .inl (cI, 61, .inl (fun _ => 0))), (((u 35)) + 1 + 7, .inl (cI, 61, .inl (fun _ => 0))), (((u 35)) + 1 + 8, .inl (cI, 61, .inl (fun _ => 0))), (((u 35)) + 1 + 9, .inl (cI, 61, .inl (fun _ => 0))), (((u 35)) + 1 + 10, .inl (cI, 61, .inl (fun _ => 0))), (((u 35)) + 1 + 11, .inl (cI, 61, .inl (fun _ => 0))), ((u 4), .inr (4, [.ref ((u 50)), .ref ((u 51)), .ref ((u 52)), .ref ((u 53)), .ref ((u 54)), .int 0, .int 0, .int 0])), (((u 50)), .inl (cI, 60, .inl (fun _ => 0))), (((u 51)), .inl (cI, 60, .inl (fun _ => 0))), (((u 52)), .inl (cI, 60, .inl (fun _ => 0))), (((u 53)), .inl (cI, 60, .inl (fun _ => 0))), (((u 54)), .inl (cI, 60, .inl (fun _ => 0))), ((u 3), .inr (3, [.ref ((u 49)), .int 0, .int 0])), (((u 49)), .inl (cI, 200, .inl (fun _ => 0)))]
abbrev wM0 (h0 : Nat) : va_W := [(h0, .inr (7, [.int 0, .int 0, .null, .null, .int 0, .null, .int 0, .null, .null, .null, .null, .int 0, .int 0, .null, .int 0, .null, .null, .null, .null, .null, .null, .int 0, .int 0, .int 0, .int 0, .null, .null, .null, .null]))]
abbrev wM (cI : ClassId) (h0 : Nat) (u : Nat → Nat) : va_W := [(h0, .inr (7, [.int 0, .int 0, .ref (u 0), .ref (u 1), .int 0, .ref (u 2), .int 0, .ref (u 3), .ref (u 4), .ref (u 5), .ref (u 6), .int 0, .int 100, .ref (u 7), .int 0, .ref (u 8), .ref (u 9), .ref (u 10), .ref (u 11), .ref (u 12), .ref (u 13), .int 0, .int 0, .int 0, .int 0, .ref (u 14), .ref (u 15), .ref (u 16), .ref (u 17)])), ((u 0), .inl (cI, 12, .inl (fun _ => 0))), ((u 1), .inl (cI, 12, .inl (fun _ => 0))), ((u 2), .inl (cI, 8, .inl (fun _ => 0))), ((u 3), .inl (cI, 61, .inl (fun _ => 0))), ((u 4), .inl (cI, 61, .inl (fun _ => 0))), ((u 5), .inl (cI, 61, .inl (fun _ => 0))), ((u 6), .inl (cI, 61, .inl (fun _ => 0))), ((u 7), .inl (cI, 200, .inl (fun _ => 0))), ((u 8), .inl (cI, 61, .inl (fun _ => 0))), ((u 9), .inl (cI, 61, .inl (fun _ => 0))), ((u 10), .inl (cI, 793, .inl (fun _ => 0))), ((u 11), .inl (cI, 12, .inl (fun _ => 0))), ((u 12), .inl (cI, 61, .inl (fun _ => 0))), ((u 13), .inl (cI, 61, .inl (fun _ => 0))), ((u 14), .inl (cI, 60, .inl (fun _ => 0))), ((u 15), .inl (cI, 60, .inl (fun _ => 0))), ((u 16), .inl (cI, 60, .inl (fun _ => 0))), ((u 17), .inl (cI, 60, .inl (fun _ => 0)))]
def ad0 (h0 h1 : Nat) (u w : Nat → Nat) (k : Nat) : Nat := if k = 6 then h0 else if k = 7 then h1 else if k < 22 then u k else if k < 35 then u 21 + 1 + (k - 22) else if k = 35 then u 35 else if k < 48 then u 35 + 1 + (k - 36) else if k < 57 then u k else w (k - 57)
def σ0 : St := fun k j => if k = 6 then (if j = 6 then 100 else 0) else if k = 7 then (if j = 12 then 100 else 0) else 0
theorem σ0_z {k : Nat} (h : k ≠ 6 ∧ k ≠ 7) : σ0 k = fun _ => 0 := by
  funext j
  unfold σ0
  rw [if_neg h.1, if_neg h.2]
theorem RgS0 : RgS σ0 := by
  intro k j
  unfold σ0 InR
  split
  · split <;> omega
  · split
    · split <;> omega
    · omega
def posL : List Nat := [6, 13, 4, 54, 48, 1, 0, 56, 7, 8, 9, 10, 11, 12, 14, 15, 16, 17, 18, 19, 20, 21, 22, 23, 24, 25, 26, 27, 28, 29, 30, 31, 32, 33, 34, 35, 36, 37, 38, 39, 40, 41, 42, 43, 44, 45, 46, 47, 5, 55, 49, 50, 51, 52, 53, 2, 3, 57, 58, 59, 60, 61, 62, 63, 64, 65, 66, 67, 68, 69, 70, 71, 72, 73, 74]
section W0
variable {D : va_G} {cI cA : ClassId} {H : Heap} {h0 h1 : Nat} {u w : Nat → Nat}
theorem w0_at (k : Nat) (hk : k < 75) : ∃ e, (wX cI cA h0 u ++ wM cI h1 w)[posL.getD k 0]? = some (ad0 h0 h1 u w k, e) :=
  match k, hk with
  | 0, _ => ⟨_, rfl⟩
  | 1, _ => ⟨_, rfl⟩
  | 2, _ => ⟨_, rfl⟩
  | 3, _ => ⟨_, rfl⟩
  | 4, _ => ⟨_, rfl⟩
  | 5, _ => ⟨_, rfl⟩
  | 6, _ => ⟨_, rfl⟩
  | 7, _ => ⟨_, rfl⟩
  | 8, _ => ⟨_, rfl⟩
  | 9, _ => ⟨_, rfl⟩
  | 10, _ => ⟨_, rfl⟩
  | 11, _ => ⟨_, rfl⟩
  | 12, _ => ⟨_, rfl⟩
  | 13, _ => ⟨_, rfl⟩
  | 14, _ => ⟨_, rfl⟩
  | 15, _ => ⟨_, rfl⟩
  | 16, _ => ⟨_, rfl⟩
  | 17, _ => ⟨_, rfl⟩
  | 18, _ => ⟨_, rfl⟩
  | 19, _ => ⟨_, rfl⟩
  | 20, _ => ⟨_, rfl⟩
  | 21, _ => ⟨_, rfl⟩
  | 22, _ => ⟨_, rfl⟩
  | 23, _ => ⟨_, rfl⟩
  | 24, _ => ⟨_, rfl⟩
  | 25, _ => ⟨_, rfl⟩
  | 26, _ => ⟨_, rfl⟩
  | 27, _ => ⟨_, rfl⟩
  | 28, _ => ⟨_, rfl⟩
  | 29, _ => ⟨_, rfl⟩
  | 30, _ => ⟨_, rfl⟩
  | 31, _ => ⟨_, rfl⟩
  | 32, _ => ⟨_, rfl⟩
  | 33, _ => ⟨_, rfl⟩
  | 34, _ => ⟨_, rfl⟩
  | 35, _ => ⟨_, rfl⟩
  | 36, _ => ⟨_, rfl⟩
  | 37, _ => ⟨_, rfl⟩
  | 38, _ => ⟨_, rfl⟩
  | 39, _ => ⟨_, rfl⟩
  | 40, _ => ⟨_, rfl⟩
  | 41, _ => ⟨_, rfl⟩
  | 42, _ => ⟨_, rfl⟩
  | 43, _ => ⟨_, rfl⟩
  | 44, _ => ⟨_, rfl⟩
  | 45, _ => ⟨_, rfl⟩
  | 46, _ => ⟨_, rfl⟩
  | 47, _ => ⟨_, rfl⟩
  | 48, _ => ⟨_, rfl⟩
  | 49, _ => ⟨_, rfl⟩
  | 50, _ => ⟨_, rfl⟩
  | 51, _ => ⟨_, rfl⟩
  | 52, _ => ⟨_, rfl⟩
  | 53, _ => ⟨_, rfl⟩
  | 54, _ => ⟨_, rfl⟩
  | 55, _ => ⟨_, rfl⟩
  | 56, _ => ⟨_, rfl⟩
  | 57, _ => ⟨_, rfl⟩
  | 58, _ => ⟨_, rfl⟩
  | 59, _ => ⟨_, rfl⟩
  | 60, _ => ⟨_, rfl⟩
  | 61, _ => ⟨_, rfl⟩
  | 62, _ => ⟨_, rfl⟩
  | 63, _ => ⟨_, rfl⟩
  | 64, _ => ⟨_, rfl⟩
  | 65, _ => ⟨_, rfl⟩
  | 66, _ => ⟨_, rfl⟩
  | 67, _ => ⟨_, rfl⟩
  | 68, _ => ⟨_, rfl⟩
  | 69, _ => ⟨_, rfl⟩
  | 70, _ => ⟨_, rfl⟩
  | 71, _ => ⟨_, rfl⟩
  | 72, _ => ⟨_, rfl⟩
  | 73, _ => ⟨_, rfl⟩
  | 74, _ => ⟨_, rfl⟩
  | k + 75, h => absurd h (by omega)
theorem posL_in : ∀ i, i < 75 → ∀ j, j < 75 → posL.getD i 0 = posL.getD j 0 → i = j := by decide +kernel
theorem posL_lt : ∀ i, i < 75 → posL.getD i 0 < 75 := by decide +kernel
theorem Ap0 {A : Nat → Prop} (hD : va_D A (wX cI cA h0 u ++ wM cI h1 w)) : Ap (ad0 h0 h1 u w) A := by
  refine ⟨fun i j hi hj e => ?_, fun k hk => ?_⟩
  · obtain ⟨e1, h1'⟩ := w0_at (cI := cI) (cA := cA) (h0 := h0) (h1 := h1) (u := u) (w := w) i hi
    obtain ⟨e2, h2'⟩ := w0_at (cI := cI) (cA := cA) (h0 := h0) (h1 := h1) (u := u) (w := w) j hj
    exact posL_in i hi j hj (hD.1 _ _ _ _ h1' h2' e)
  · obtain ⟨e1, h1'⟩ := w0_at (cI := cI) (cA := cA) (h0 := h0) (h1 := h1) (u := u) (w := w) k hk
    exact hD.2 _ _ h1'
theorem at_arr {ad : Nat → Nat} {k n a : Nat} (hk : k ≠ 6 ∧ k ≠ 7) (ha : ad k = a) (h : va_at D vwCl (a, .inl (cI, n, .inl (fun _ => 0))) H) : va_at D vwCl (ad k, En cI cA ad σ0 k (.inr (.inl n))) H := by
  have e : En cI cA ad σ0 k (.inr (.inl n)) = .inl (cI, n, .inl (fun _ => 0)) := by
    show Sum.inl _ = _
    rw [σ0_z hk]
    rfl
  rw [e, ha]
  exact h
theorem at_ref {ad : Nat → Nat} {k n a b : Nat} {f : Nat → Option Nat} (ha : ad k = a) (hf : ∀ i, i < n → f i = some (ad (b + i))) (h : va_at D vwCl (a, .inl (cA, n, .inr (.inr (.inr (.inr f))))) H) : va_at D vwCl (ad k, En cI cA ad σ0 k (.inr (.inr (b, n)))) H := by
  have h2 : H[a]? = some (vp_cell cA (n, .inr (.inr (.inr (.inr f))))) := h
  rw [vp_refs hf, ← ha] at h2
  exact h2
theorem at_obj {ad : Nat → Nat} {k a : Nat} {fs : List (Option Nat)} {vs : List Value} (ha : ad k = a) (hv : fvs ad σ0 k 0 fs = vs) (h : va_at D vwCl (a, .inr (k, vs)) H) : va_at D vwCl (ad k, En cI cA ad σ0 k (.inl fs)) H := by
  have e : En cI cA ad σ0 k (.inl fs) = .inr (k, vs) := by
    show Sum.inr _ = _
    rw [hv]
  rw [e, ha]
  exact h
theorem ad0_a {i : Nat} (h : i < 13) : ad0 h0 h1 u w (22 + i) = u 21 + 1 + i := by
  unfold ad0
  rw [if_neg (by omega), if_neg (by omega), if_neg (by omega), if_pos (by omega), Nat.add_sub_cancel_left]
theorem ad0_b {i : Nat} (h : i < 12) : ad0 h0 h1 u w (36 + i) = u 35 + 1 + i := by
  unfold ad0
  rw [if_neg (by omega), if_neg (by omega), if_neg (by omega), if_neg (by omega), if_neg (by omega), if_pos (by omega), Nat.add_sub_cancel_left]
theorem w0_P (hP : va_P D vwCl (wX cI cA h0 u ++ wM cI h1 w) H) : va_P D vwCl (Wd cI cA (ad0 h0 h1 u w) σ0) H := by
  intro k q hk
  obtain ⟨sh, hs, rfl⟩ := Wd_of hk
  exact match k, hs with
  | 0, hs => by cases hs; exact at_obj rfl rfl (hP 6 _ rfl)
  | 1, hs => by cases hs; exact at_obj rfl rfl (hP 13 _ rfl)
  | 2, hs => by cases hs; exact at_obj rfl rfl (hP 4 _ rfl)
  | 3, hs => by cases hs; exact at_obj rfl rfl (hP 54 _ rfl)
  | 4, hs => by cases hs; exact at_obj rfl rfl (hP 48 _ rfl)
  | 5, hs => by cases hs; exact at_obj rfl rfl (hP 1 _ rfl)
  | 6, hs => by cases hs; exact at_obj rfl rfl (hP 0 _ rfl)
  | 7, hs => by cases hs; exact at_obj rfl rfl (hP 56 _ rfl)
  | 8, hs => by cases hs; exact at_arr (by decide) rfl (hP 7 _ rfl)
  | 9, hs => by cases hs; exact at_arr (by decide) rfl (hP 8 _ rfl)
  | 10, hs => by cases hs; exact at_arr (by decide) rfl (hP 9 _ rfl)
  | 11, hs => by cases hs; exact at_arr (by decide) rfl (hP 10 _ rfl)
  | 12, hs => by cases hs; exact at_arr (by decide) rfl (hP 11 _ rfl)
  | 13, hs => by cases hs; exact at_arr (by decide) rfl (hP 12 _ rfl)
  | 14, hs => by cases hs; exact at_arr (by decide) rfl (hP 14 _ rfl)
  | 15, hs => by cases hs; exact at_arr (by decide) rfl (hP 15 _ rfl)
  | 16, hs => by cases hs; exact at_arr (by decide) rfl (hP 16 _ rfl)
  | 17, hs => by cases hs; exact at_arr (by decide) rfl (hP 17 _ rfl)
  | 18, hs => by cases hs; exact at_arr (by decide) rfl (hP 18 _ rfl)
  | 19, hs => by cases hs; exact at_arr (by decide) rfl (hP 19 _ rfl)
  | 20, hs => by cases hs; exact at_arr (by decide) rfl (hP 20 _ rfl)
  | 21, hs => by cases hs; exact at_ref rfl (fun i hi => by rw [if_pos hi, ad0_a hi]) (hP 21 _ rfl)
  | 22, hs => by cases hs; exact at_arr (by decide) rfl (hP 22 _ rfl)
  | 23, hs => by cases hs; exact at_arr (by decide) rfl (hP 23 _ rfl)
  | 24, hs => by cases hs; exact at_arr (by decide) rfl (hP 24 _ rfl)
  | 25, hs => by cases hs; exact at_arr (by decide) rfl (hP 25 _ rfl)
  | 26, hs => by cases hs; exact at_arr (by decide) rfl (hP 26 _ rfl)
  | 27, hs => by cases hs; exact at_arr (by decide) rfl (hP 27 _ rfl)
  | 28, hs => by cases hs; exact at_arr (by decide) rfl (hP 28 _ rfl)
  | 29, hs => by cases hs; exact at_arr (by decide) rfl (hP 29 _ rfl)
  | 30, hs => by cases hs; exact at_arr (by decide) rfl (hP 30 _ rfl)
  | 31, hs => by cases hs; exact at_arr (by decide) rfl (hP 31 _ rfl)
  | 32, hs => by cases hs; exact at_arr (by decide) rfl (hP 32 _ rfl)
  | 33, hs => by cases hs; exact at_arr (by decide) rfl (hP 33 _ rfl)
  | 34, hs => by cases hs; exact at_arr (by decide) rfl (hP 34 _ rfl)
  | 35, hs => by cases hs; exact at_ref rfl (fun i hi => by rw [if_pos hi, ad0_b hi]) (hP 35 _ rfl)
  | 36, hs => by cases hs; exact at_arr (by decide) rfl (hP 36 _ rfl)
  | 37, hs => by cases hs; exact at_arr (by decide) rfl (hP 37 _ rfl)
  | 38, hs => by cases hs; exact at_arr (by decide) rfl (hP 38 _ rfl)
  | 39, hs => by cases hs; exact at_arr (by decide) rfl (hP 39 _ rfl)
  | 40, hs => by cases hs; exact at_arr (by decide) rfl (hP 40 _ rfl)
  | 41, hs => by cases hs; exact at_arr (by decide) rfl (hP 41 _ rfl)
  | 42, hs => by cases hs; exact at_arr (by decide) rfl (hP 42 _ rfl)
  | 43, hs => by cases hs; exact at_arr (by decide) rfl (hP 43 _ rfl)
  | 44, hs => by cases hs; exact at_arr (by decide) rfl (hP 44 _ rfl)
  | 45, hs => by cases hs; exact at_arr (by decide) rfl (hP 45 _ rfl)
  | 46, hs => by cases hs; exact at_arr (by decide) rfl (hP 46 _ rfl)
  | 47, hs => by cases hs; exact at_arr (by decide) rfl (hP 47 _ rfl)
  | 48, hs => by cases hs; exact at_arr (by decide) rfl (hP 5 _ rfl)
  | 49, hs => by cases hs; exact at_arr (by decide) rfl (hP 55 _ rfl)
  | 50, hs => by cases hs; exact at_arr (by decide) rfl (hP 49 _ rfl)
  | 51, hs => by cases hs; exact at_arr (by decide) rfl (hP 50 _ rfl)
  | 52, hs => by cases hs; exact at_arr (by decide) rfl (hP 51 _ rfl)
  | 53, hs => by cases hs; exact at_arr (by decide) rfl (hP 52 _ rfl)
  | 54, hs => by cases hs; exact at_arr (by decide) rfl (hP 53 _ rfl)
  | 55, hs => by cases hs; exact at_arr (by decide) rfl (hP 2 _ rfl)
  | 56, hs => by cases hs; exact at_arr (by decide) rfl (hP 3 _ rfl)
  | 57, hs => by cases hs; exact at_arr (by decide) rfl (hP 57 _ rfl)
  | 58, hs => by cases hs; exact at_arr (by decide) rfl (hP 58 _ rfl)
  | 59, hs => by cases hs; exact at_arr (by decide) rfl (hP 59 _ rfl)
  | 60, hs => by cases hs; exact at_arr (by decide) rfl (hP 60 _ rfl)
  | 61, hs => by cases hs; exact at_arr (by decide) rfl (hP 61 _ rfl)
  | 62, hs => by cases hs; exact at_arr (by decide) rfl (hP 62 _ rfl)
  | 63, hs => by cases hs; exact at_arr (by decide) rfl (hP 63 _ rfl)
  | 64, hs => by cases hs; exact at_arr (by decide) rfl (hP 64 _ rfl)
  | 65, hs => by cases hs; exact at_arr (by decide) rfl (hP 65 _ rfl)
  | 66, hs => by cases hs; exact at_arr (by decide) rfl (hP 66 _ rfl)
  | 67, hs => by cases hs; exact at_arr (by decide) rfl (hP 67 _ rfl)
  | 68, hs => by cases hs; exact at_arr (by decide) rfl (hP 68 _ rfl)
  | 69, hs => by cases hs; exact at_arr (by decide) rfl (hP 69 _ rfl)
  | 70, hs => by cases hs; exact at_arr (by decide) rfl (hP 70 _ rfl)
  | 71, hs => by cases hs; exact at_arr (by decide) rfl (hP 71 _ rfl)
  | 72, hs => by cases hs; exact at_arr (by decide) rfl (hP 72 _ rfl)
  | 73, hs => by cases hs; exact at_arr (by decide) rfl (hP 73 _ rfl)
  | 74, hs => by cases hs; exact at_arr (by decide) rfl (hP 74 _ rfl)
  | k + 75, hs => absurd (shT_lt hs) (by omega)
end W0
theorem Rel0 : RelS σ0 σ0 := by
  have z : ∀ (k : Nat) (j : Int), k ≠ 6 ∧ k ≠ 7 → σ0 k j = 0 := fun k j h => by rw [σ0_z h]
  have e52 : σ0 5 2 = 0 := z _ _ (by decide)
  have e21 : σ0 2 1 = 0 := z _ _ (by decide)
  have e06 : σ0 0 6 = 0 := z _ _ (by decide)
  have e07 : σ0 0 7 = 0 := z _ _ (by decide)
  have e45 : σ0 4 5 = 0 := z _ _ (by decide)
  have e46 : σ0 4 6 = 0 := z _ _ (by decide)
  have e31 : σ0 3 1 = 0 := z _ _ (by decide)
  have e32 : σ0 3 2 = 0 := z _ _ (by decide)
  have e66 : σ0 6 6 = 100 := by decide
  have e712 : σ0 7 12 = 100 := by decide
  have e71 : σ0 7 1 = 0 := by decide
  have e74 : σ0 7 4 = 0 := by decide
  have e76 : σ0 7 6 = 0 := by decide
  have e711 : σ0 7 11 = 0 := by decide
  have e714 : σ0 7 14 = 0 := by decide
  have e721 : σ0 7 21 = 0 := by decide
  refine ⟨by omega, fun s s0 s1 => by omega, by omega, fun g g0 g1 => by omega, by omega, fun b b0 b1 => by omega, fun b b0 b1 => by omega, by omega, ⟨by omega, by omega, by omega, by omega, by omega⟩, Or.inl ⟨e721, e45, e46⟩, [], ⟨by omega, by rw [e32]; rfl, fun k e hk h => by simp at h⟩, ⟨by rw [e714]; rfl, fun k e hk h => by simp at h⟩⟩
