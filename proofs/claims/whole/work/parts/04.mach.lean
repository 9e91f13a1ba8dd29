/-! ===== the pure machine: numbers are Int, references are numbers of cells ===== -/
abbrev PV : Type := Int ⊕ Nat
abbrev St : Type := Nat → Int → Int
abbrev MI : Type := MethodName × ByteArray × Nat × Option FieldType
abbrev Shp : Type := List (Option Nat) ⊕ (Nat ⊕ (Nat × Nat))
abbrev InR (z : Int) : Prop := -2147483648 ≤ z ∧ z ≤ 2147483647
def rv (ad : Nat → Nat) : PV → Value
  | .inl z => .int (Int32.ofInt z)
  | .inr k => .ref (ad k)
theorem rv_cat (ad : Nat → Nat) (v : PV) : (rv ad v).category = 1 := by cases v <;> rfl
def put (σ : St) (k : Nat) (j z : Int) : St := fun a b => if a = k then (if b = j then z else σ a b) else σ a b
def putA (σ : St) (k : Nat) (f : Int → Int) : St := fun a b => if a = k then f b else σ a b
theorem put_ne {σ : St} {k a : Nat} {j z : Int} (h : a ≠ k) : put σ k j z a = σ a := by funext b; simp [put, h]
theorem putA_ne {σ : St} {k a : Nat} {f : Int → Int} (h : a ≠ k) : putA σ k f a = σ a := by funext b; simp [putA, h]
theorem put_eq (σ : St) (k : Nat) (j z : Int) (a : Nat) (b : Int) : put σ k j z a b = if a = k then (if b = j then z else σ a b) else σ a b := rfl
theorem putA_eq (σ : St) (k : Nat) (f : Int → Int) (a : Nat) (b : Int) : putA σ k f a b = if a = k then f b else σ a b := rfl
def shT : List Shp := [.inl [some 8, some 9, some 10, some 11, some 12, some 13, none, none], .inl [some 14, some 15, some 16, some 17, some 18, some 19, some 20, some 21, some 35, none, none, none], .inl [some 48, none], .inl [some 49, none, none], .inl [some 50, some 51, some 52, some 53, some 54, none, none, none], .inl [some 55, some 56, none], .inl [some 5, some 2, some 0, some 1, some 4, some 3, none], .inl [none, none, some 57, some 58, none, some 59, none, some 60, some 61, some 62, some 63, none, none, some 64, none, some 65, some 66, some 67, some 68, some 69, some 70, none, none, none, none, some 71, some 72, some 73, some 74], .inr (.inl 60), .inr (.inl 60), .inr (.inl 60), .inr (.inl 60), .inr (.inl 60), .inr (.inl 60), .inr (.inl 60), .inr (.inl 12), .inr (.inl 12), .inr (.inl 12), .inr (.inl 60), .inr (.inl 60), .inr (.inl 60), .inr (.inr (22, 13)), .inr (.inl 61), .inr (.inl 61), .inr (.inl 61), .inr (.inl 61), .inr (.inl 61), .inr (.inl 61), .inr (.inl 61), .inr (.inl 61), .inr (.inl 61), .inr (.inl 61), .inr (.inl 61), .inr (.inl 61), .inr (.inl 61), .inr (.inr (36, 12)), .inr (.inl 61), .inr (.inl 61), .inr (.inl 61), .inr (.inl 61), .inr (.inl 61), .inr (.inl 61), .inr (.inl 61), .inr (.inl 61), .inr (.inl 61), .inr (.inl 61), .inr (.inl 61), .inr (.inl 61), .inr (.inl 8), .inr (.inl 200), .inr (.inl 60), .inr (.inl 60), .inr (.inl 60), .inr (.inl 60), .inr (.inl 60), .inr (.inl 12), .inr (.inl 12), .inr (.inl 12), .inr (.inl 12), .inr (.inl 8), .inr (.inl 61), .inr (.inl 61), .inr (.inl 61), .inr (.inl 61), .inr (.inl 200), .inr (.inl 61), .inr (.inl 61), .inr (.inl 793), .inr (.inl 12), .inr (.inl 61), .inr (.inl 61), .inr (.inl 60), .inr (.inl 60), .inr (.inl 60), .inr (.inl 60)]
def fvs (ad : Nat → Nat) (σ : St) (k : Nat) : Nat → List (Option Nat) → List Value
  | _, [] => []
  | j, some i :: r => .ref (ad i) :: fvs ad σ k (j + 1) r
  | j, none :: r => .int (Int32.ofInt (σ k j)) :: fvs ad σ k (j + 1) r
def En (cI cA : ClassId) (ad : Nat → Nat) (σ : St) (k : Nat) : Shp → va_E
  | .inl fs => .inr (k, fvs ad σ k 0 fs)
  | .inr (.inl n) => .inl (cI, n, .inl (fun j => Int32.ofInt (σ k j)))
  | .inr (.inr (b, n)) => .inl (cA, n, .inr (.inr (.inr (.inr (fun i => some (ad (b + i)))))))
def Wd (cI cA : ClassId) (ad : Nat → Nat) (σ : St) : va_W := shT.mapIdx (fun k sh => (ad k, En cI cA ad σ k sh))
theorem Wd_at {cI cA : ClassId} {ad : Nat → Nat} {σ : St} {k : Nat} {sh : Shp} (h : shT[k]? = some sh) : (Wd cI cA ad σ)[k]? = some (ad k, En cI cA ad σ k sh) := by
  simp [Wd, List.getElem?_mapIdx, h]
theorem Wd_of {cI cA : ClassId} {ad : Nat → Nat} {σ : St} {k : Nat} {q : Nat × va_E} (h : (Wd cI cA ad σ)[k]? = some q) : ∃ sh, shT[k]? = some sh ∧ q = (ad k, En cI cA ad σ k sh) := by
  simp only [Wd, List.getElem?_mapIdx] at h
  cases hs : shT[k]? with
  | none => rw [hs] at h; cases h
  | some sh => rw [hs] at h; exact ⟨sh, rfl, (Option.some.inj h).symm⟩
theorem fvs_congr {ad : Nat → Nat} {σ τ : St} {k : Nat} (h : σ k = τ k) : ∀ (l : List (Option Nat)) (j : Nat), fvs ad σ k j l = fvs ad τ k j l
  | [], _ => rfl
  | some i :: r, j => by show _ :: _ = _ :: _; rw [fvs_congr h r (j + 1)]
  | none :: r, j => by show _ :: _ = _ :: _; rw [fvs_congr h r (j + 1), h]
theorem En_congr {cI cA : ClassId} {ad : Nat → Nat} {σ τ : St} {k : Nat} (h : σ k = τ k) (sh : Shp) : En cI cA ad σ k sh = En cI cA ad τ k sh := by
  rcases sh with fs | n | ⟨b, n⟩
  · show Sum.inr _ = Sum.inr _
    rw [fvs_congr h]
  · show Sum.inl _ = Sum.inl _
    rw [h]
  · rfl
theorem Wd_set {cI cA : ClassId} {ad : Nat → Nat} {σ τ : St} {k : Nat} {sh : Shp} (hk : shT[k]? = some sh) (h : ∀ a, a ≠ k → τ a = σ a) : (Wd cI cA ad σ).set k (ad k, En cI cA ad τ k sh) = Wd cI cA ad τ := by
  apply List.ext_getElem?
  intro i
  by_cases hi : i = k
  · subst hi
    have hl : i < (Wd cI cA ad σ).length := (List.getElem?_eq_some_iff.mp (Wd_at (cI := cI) (cA := cA) (ad := ad) (σ := σ) hk)).1
    rw [List.getElem?_set_self hl, Wd_at hk]
  · rw [List.getElem?_set_ne (Ne.symm hi)]
    simp only [Wd, List.getElem?_mapIdx]
    cases hs : shT[i]? with
    | none => rfl
    | some s2 => simp only [Option.map_some]; rw [En_congr (h i hi).symm]
theorem fvs_len {ad : Nat → Nat} {σ : St} {k : Nat} : ∀ (l : List (Option Nat)) (j : Nat), (fvs ad σ k j l).length = l.length
  | [], _ => rfl
  | some _ :: r, j => by show (fvs ad σ k (j + 1) r).length + 1 = r.length + 1; rw [fvs_len r]
  | none :: r, j => by show (fvs ad σ k (j + 1) r).length + 1 = r.length + 1; rw [fvs_len r]
theorem fvs_none {ad : Nat → Nat} {σ : St} {k : Nat} : ∀ (l : List (Option Nat)) (i j : Nat), l[j]? = some none → (fvs ad σ k i l)[j]? = some (.int (Int32.ofInt (σ k ((i + j : Nat) : Int))))
  | [], _, _, h => by simp at h
  | some _ :: r, i, 0, h => by simp at h
  | none :: r, i, 0, h => rfl
  | some _ :: r, i, j + 1, h => by
    have h1 : r[j]? = some none := by simpa using h
    have := fvs_none (ad := ad) (σ := σ) (k := k) r (i + 1) j h1
    show (fvs ad σ k (i + 1) r)[j]? = _
    rw [this, show i + 1 + j = i + (j + 1) by omega]
  | none :: r, i, j + 1, h => by
    have h1 : r[j]? = some none := by simpa using h
    have := fvs_none (ad := ad) (σ := σ) (k := k) r (i + 1) j h1
    show (fvs ad σ k (i + 1) r)[j]? = _
    rw [this, show i + 1 + j = i + (j + 1) by omega]
theorem fvs_some {ad : Nat → Nat} {σ : St} {k : Nat} : ∀ (l : List (Option Nat)) (i j q : Nat), l[j]? = some (some q) → (fvs ad σ k i l)[j]? = some (.ref (ad q))
  | [], _, _, _, h => by simp at h
  | some _ :: r, i, 0, q, h => by simp at h; subst h; rfl
  | none :: r, i, 0, q, h => by simp at h
  | some _ :: r, i, j + 1, q, h => by
    have h1 : r[j]? = some (some q) := by simpa using h
    exact fvs_some (ad := ad) (σ := σ) (k := k) r (i + 1) j q h1
  | none :: r, i, j + 1, q, h => by
    have h1 : r[j]? = some (some q) := by simpa using h
    exact fvs_some (ad := ad) (σ := σ) (k := k) r (i + 1) j q h1
theorem fvs_put {ad : Nat → Nat} {σ : St} {k : Nat} {z : Int} : ∀ (l : List (Option Nat)) (i j : Nat), l[j]? = some none → (fvs ad σ k i l).set j (.int (Int32.ofInt z)) = fvs ad (put σ k ((i + j : Nat) : Int) z) k i l := by
  intro l i j h
  apply List.ext_getElem?
  intro q
  have hjl : j < l.length := (List.getElem?_eq_some_iff.mp h).1
  by_cases hq : q = j
  · subst hq
    rw [List.getElem?_set_self (by rw [fvs_len]; exact hjl), fvs_none l i q h]
    simp [put]
  · rw [List.getElem?_set_ne (Ne.symm hq)]
    cases hx : l[q]? with
    | none =>
      have h1 : l.length ≤ q := by simpa using hx
      rw [List.getElem?_eq_none (by rw [fvs_len]; exact h1), List.getElem?_eq_none (by rw [fvs_len]; exact h1)]
    | some w =>
      cases w with
      | some y => rw [fvs_some l i q y hx, fvs_some l i q y hx]
      | none =>
        rw [fvs_none l i q hx, fvs_none l i q hx]
        have : ((i + q : Nat) : Int) ≠ ((i + j : Nat) : Int) := by omega
        simp only [put_eq, if_true, if_neg this]
/-- the cells are apart, and of a kind -/
def Ap (ad : Nat → Nat) (A : Nat → Prop) : Prop := (∀ i j : Nat, i < 75 → j < 75 → ad i = ad j → i = j) ∧ ∀ k : Nat, k < 75 → A (ad k)
theorem shT_len : shT.length = 75 := by decide +kernel
theorem shT_lt {k : Nat} {sh : Shp} (h : shT[k]? = some sh) : k < 75 := by
  have := (List.getElem?_eq_some_iff.mp h).1
  rwa [shT_len] at this
theorem Ap.D {ad : Nat → Nat} {A : Nat → Prop} (h : Ap ad A) (cI cA : ClassId) (σ : St) : va_D A (Wd cI cA ad σ) := by
  refine ⟨fun i j p q hi hj e => ?_, fun k q hk => ?_⟩
  · obtain ⟨s1, h1, rfl⟩ := Wd_of hi
    obtain ⟨s2, h2, rfl⟩ := Wd_of hj
    exact h.1 i j (shT_lt h1) (shT_lt h2) e
  · obtain ⟨s1, h1, rfl⟩ := Wd_of hk
    exact h.2 k (shT_lt h1)
theorem Ap.self {ad : Nat → Nat} {A : Nat → Prop} (h : Ap ad A) (cI cA : ClassId) (σ : St) (sz : Nat) : Ap ad (va_A (Wd cI cA ad σ) sz) := by
  refine ⟨h.1, fun k hk => ?_⟩
  have hl : k < shT.length := by rw [shT_len]; exact hk
  exact va_A.in (q := (ad k, En cI cA ad σ k shT[k])) (Wd_at (List.getElem?_eq_getElem hl))
def TB : List Cond := lw_tbl.filter goodWord
theorem tb_of {w : Cond} (i : Nat) (h : lw_tbl[i]? = some w) (hg : goodWord w = true) : w ∈ TB := List.mem_filter.mpr ⟨List.mem_of_getElem? h, hg⟩
theorem tb_good {w : Cond} (h : w ∈ TB) : (w.onTables && w.keeps) = true ∨ ∃ ty, w = .arrayClass ty := good_of_word (List.mem_filter.mp h).2
def tyL (cI cA : ClassId) : List (ClassId × FieldType) := [(cI, .int), (cA, .array .int)]
abbrev rmD (d : Nat) : Room := { frames := d, cells := 0, slots := 0, locals := 36 * d }
def LV (ad : Nat → Nat) (lsA : Array Slot) (nL : Nat) (ls : List (Option PV)) : Prop := lsA.size = nL ∧ lv_wf lsA ∧ ∀ (k : Nat) (v : PV), ls[k]? = some (some v) → lsA[k]? = some (.val (rv ad v))
def RgS (σ : St) : Prop := ∀ (k : Nat) (j : Int), InR (σ k j)
def Qg (cI cA : ClassId) (D : va_G) (ad : Nat → Nat) (A : Nat → Prop) (rt : Option FieldType) (Q : Int → St → Prop) : Array Value → State → Outcome → State → Prop := fun _ st oc t =>
  (∃ (z : Int) (τ : St), oc = .returned (rt.map (fun _ => Value.int (Int32.ofInt z))) ∧ RgS τ ∧ Q z τ ∧ va_P D vwCl (Wd cI cA ad τ) t.heap ∧ va_K D vwCl (tyL cI cA) t) ∧ va_F A st t
def Cx (M : MI) (p : Program) (s : State) (m : MethodId) (args : Array Value) (meth : Method) (c : Code) (cI cA : ClassId) (D : va_G) (ad : Nat → Nat) (A : Nat → Prop) : Prop :=
  p.tables.exec = Jvm.exec ∧ c.code = M.2.1 ∧ c.maxLocals = M.2.2.1 ∧ meth.sig.returnType = M.2.2.2 ∧ meth.locks = false ∧ s.vm.findClass M.1.cls = some m.cls ∧ (∀ w ∈ TB, w.before args s = true) ∧ va_K D vwCl (tyL cI cA) s ∧ (∀ q : Nat, s.heap.size ≤ q → A q) ∧ Ap ad A
def Wp (M : MI) (d : Nat) (Q : Int → St → Prop) (pc : Nat) (ls : List (Option PV)) (st : List PV) (σ : St) : Prop :=
  ∀ (p : Program) (l : Launch) (e : Env) (s : State) (m : MethodId) (args : Array Value) (below : List Frame) (meth : Method) (c : Code) (cI cA : ClassId) (D : va_G) (ad : Nat → Nat) (A : Nat → Prop), Cx M p s m args meth c cI cA D ad A →
  ∀ (H : Heap) (locs : List Loc) (lsA : Array Slot), RgS σ → va_P D vwCl (Wd cI cA ad σ) H → va_S A s.heap H locs → LV ad lsA M.2.2.1 ls →
    W p l e (rmD d) s m args below meth c H locs 0 0 (MQ below (Qg cI cA D ad A M.2.2.2 Q) args s 0 0 A) (F0 m pc lsA (st.map (rv ad)))
theorem Wp.mono {M : MI} {d pc : Nat} {Q Q' : Int → St → Prop} {ls : List (Option PV)} {st : List PV} {σ : St} (h : Wp M d Q pc ls st σ) (hq : ∀ z τ, Q z τ → Q' z τ) : Wp M d Q' pc ls st σ := by
  intro p l e s m args below meth c cI cA D ad A hc H locs lsA hr hP hS hl T hT X
  obtain ⟨t, a, o, b1, b2, ⟨⟨z, τ, e1, e2, e3, e4⟩, hF⟩, b4⟩ := h p l e s m args below meth c cI cA D ad A hc H locs lsA hr hP hS hl T hT X
  exact ⟨t, a, o, b1, b2, ⟨⟨z, τ, e1, e2, hq _ _ e3, e4⟩, hF⟩, b4⟩
/-- what the heap holds is within the ints -/
theorem Wp.rg {M : MI} {d pc : Nat} {Q : Int → St → Prop} {ls : List (Option PV)} {st : List PV} {σ : St} (h : RgS σ → Wp M d Q pc ls st σ) : Wp M d Q pc ls st σ := by
  intro p l e s m args below meth c cI cA D ad A hc H locs lsA hr
  exact h hr p l e s m args below meth c cI cA D ad A hc H locs lsA hr
def entl (n : Nat) (vs : List PV) : List (Option PV) := vs.map some ++ List.replicate (n - vs.length) none
theorem args_mem (ad : Nat → Nat) : ∀ (vs : List PV) (i k : Nat) (v : PV), vs[k]? = some v → (i + k, rv ad v) ∈ lv_args i (vs.map (rv ad))
  | [], _, _, _, h => by simp at h
  | x :: r, i, 0, v, h => by
    simp at h
    subst h
    show _ ∈ (i, rv ad x) :: _
    exact List.mem_cons_self
  | x :: r, i, k + 1, v, h => by
    have h1 : r[k]? = some v := by simpa using h
    show _ ∈ (i, rv ad x) :: lv_args (if (rv ad x).category = 2 then i + 2 else i + 1) (r.map (rv ad))
    rw [if_neg (by rw [rv_cat]; decide)]
    have := args_mem ad r (i + 1) k v h1
    rw [show i + 1 + k = i + (k + 1) by omega] at this
    exact List.mem_cons_of_mem _ this
theorem sl_len (ad : Nat → Nat) : ∀ vs : List PV, (lg_sl (vs.map (rv ad))).length = vs.length
  | [] => rfl
  | x :: r => by
    have := sl_len ad r
    simp only [lg_sl, List.map_cons, List.flatMap_cons, rv_cat] at this ⊢
    rw [List.length_append, this]
    simp
    omega
theorem LV_entry (ad : Nat → Nat) (vs : List PV) {n : Nat} (h : vs.length ≤ n) : LV ad ((lg_sl (vs.map (rv ad)) ++ List.replicate (n - (lg_sl (vs.map (rv ad))).length) Slot.unset).toArray) n (entl n vs) := by
  obtain ⟨h1, h2, h3⟩ := lv_entry (vs.map (rv ad)) (n := n) (by rw [sl_len]; exact h)
  refine ⟨h1, h2, fun k v hk => ?_⟩
  have hv : vs[k]? = some v := by
    unfold entl at hk
    by_cases hl : k < vs.length
    · rw [List.getElem?_append_left (by simpa using hl), List.getElem?_map] at hk
      cases hx : vs[k]? with
      | none => rw [hx] at hk; cases hk
      | some w => rw [hx] at hk; simp at hk; rw [hk]
    · rw [List.getElem?_append_right (by simpa using hl)] at hk
      simp only [List.getElem?_replicate] at hk
      split at hk
      · cases hk
      · cases hk
  have := h3 _ (args_mem ad vs 0 k v hv)
  simpa using this
theorem Met_of_Wp {M : MI} {d : Nat} {Q : Int → St → Prop} {σ : St} {vs : List PV} (l : Launch) (hp : plainName M.1.cls = true) (hlen : vs.length ≤ M.2.2.1) (hrg : RgS σ) (h : Wp M d Q 0 (entl M.2.2.1 vs) [] σ) (cI cA : ClassId) (D : va_G) {ad : Nat → Nat} {A : Nat → Prop} (hap : Ap ad A) (sz : Nat) :
    Met l M.1 (Cond.code M.1 M.2.1 M.2.2.1 M.2.2.2 :: TB) (rmD d) (va_Pc (vs.map (rv ad)) (fun U => U.heap.size = sz ∧ va_P D vwCl (Wd cI cA ad σ) U.heap ∧ va_K D vwCl (tyL cI cA) U)) (Qg cI cA D ad (va_A (Wd cI cA ad σ) sz) M.2.2.2 Q) 0 0 (va_A (Wd cI cA ad σ) sz) := by
  refine Met.ofW (cc := M.2.1) (maxL := M.2.2.1) (ret := M.2.2.2) hp rfl ?_
  intro p e s m args below meth c s₁ B hml hv
  obtain ⟨rfl, hsz, hP, hK⟩ := hv
  subst hsz
  have hts := atoms_spec (ws := Cond.code M.1 M.2.1 M.2.2.1 M.2.2.2 :: TB) B.pre
  rw [lg_entry_eq]
  exact h p l e s m _ below meth c cI cA D ad _ ⟨B.exec, B.bytes, hml, B.returns, B.notSynchronized, findClass_of_methodNamed B.named, fun w hw => hts w (List.mem_cons_of_mem _ hw), hK, fun q hq => Or.inr hq, hap.self cI cA σ _⟩ s.heap [] _ hrg hP va_S.rf (LV_entry ad vs hlen)
