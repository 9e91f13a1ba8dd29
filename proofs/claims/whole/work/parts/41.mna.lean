def va_AOA (ty : FieldType) (U : State) : Prop := (Cond.arrayOver (.array ty)).before #[] U = true
theorem va_AOA.of {ty : FieldType} {A : Array Value} {U : State} (h : (Cond.arrayOver (.array ty)).before A U = true) : va_AOA ty U := h
theorem va_AOA.use {ty : FieldType} {A : Array Value} {U : State} (h : va_AOA ty U) : (Cond.arrayOver (.array ty)).before A U = true := h
theorem va_AOA.moved {ty : FieldType} {u U : State} (hvm : u.vm.Alike U.vm) (h : va_AOA ty u) : va_AOA ty U := over_moved hvm h
section MG
variable {p : Program} {l : Launch} {e : Env} {R : Room} {s : State} {m : MethodId} {args : Array Value} {below : List Frame} {meth : Method} {c : Code} {locs : List Loc} {cells slots : Nat}
/-- a new array that holds one value, its type's default, where Stand leaves room for it -/
theorem mg_one {U : State} (X : Stand p l e R s m args below meth c U locs cells slots) (g : JFrame) {c1 c2 : ClassId} {k1 : Class} {t1 : FieldType} {v : Value} {n : Nat} (hk : s.vm.classes[c1]? = some k1) (hkd : k1.kind = .array c2 t1) (hf : fits t1 v = true) (hv : v.isDefault = true) (hn : n ≤ 536870912) (hw : n * componentBytes t1 ≤ 536870912) (hc : cells + 1 ≤ R.cells) (hs : slots + n ≤ R.slots)
    {E : CtlPost} {d : Bool} {acts : List Action} {Q : Addr → Pre} (hQ : Q U.heap.size d acts ((U.pushCell (arrV c1 n fun _ => v)).setTop g)) : wp (Jvm.newArray c1 n v) Q E e d acts (U.setTop g) := by
  obtain ⟨k2, hk2, he⟩ := X.warmed.alike.2.2 _ _ hk
  have hkd2 : k2.kind = .array c2 t1 := by rw [he]; exact hkd
  have hk3 : (U.setTop g).vm.classes[c1]? = some k2 := hk2
  obtain ⟨r1, r2⟩ := X.roomAbove hc hs
  have a1 : ¬ n > e.platform.arrayLengthLimit := by
    rw [Launch.admits_arrayLengthLimit X.admits]
    omega
  have a2 : ¬ n * componentBytes t1 > e.platform.maxHeapBytes := by
    rw [Launch.admits_maxHeapBytes X.admits]
    omega
  have a3 : ¬ n > e.platform.maxSlots := by omega
  have hall : (Array.replicate n v).all (fun x => x.isDefault) = true := by
    rw [Array.all_eq_true]
    intro i hi
    rw [Array.getElem_replicate]
    exact hv
  have hact : allocActs (Array.replicate n v) U.heap.size acts = acts := if_pos hall
  rw [← arrV_new] at hQ
  unfold Jvm.newArray Jvm.arrayFits
  simp only [wp_bind', wp_pure', W.ask, W.ite, W.theClass, W.alloc, a1, a2, a3, if_false, hk3, hkd2, Option.some.injEq, exists_eq_left']
  refine ⟨?_, ?_, fun i x hx => ?_, ?_⟩
  · show U.heap.size < _
    omega
  · show U.slotsUsed + (Array.replicate n v).size ≤ _
    rw [Array.size_replicate]
    exact r2
  · rw [Array.getElem?_replicate] at hx
    by_cases hi : i < n
    · rw [if_pos hi] at hx
      cases hx
      simp [State.fitsSlot, State.slotType?, hk2, hkd2, hf]
    · rw [if_neg hi] at hx
      cases hx
  · show Q U.heap.size d (allocActs (Array.replicate n v) U.heap.size acts) _
    rw [hact]
    exact hQ
/-- a row of the inner dimension -/
theorem mg_mk {U : State} (X : Stand p l e R s m args below meth c U locs cells slots) (g : JFrame) {c1 c2 : ClassId} {k1 : Class} {t1 : FieldType} {k : Int32} {K : Nat} (hk : s.vm.classes[c1]? = some k1) (hkd : k1.kind = .array c2 t1) (h0 : ¬ k < 0) (hK : k.toNatClampNeg = K) (hf : fits t1 (defaultValue t1) = true) (hv : (defaultValue t1).isDefault = true) (hn : K ≤ 536870912) (hw : K * componentBytes t1 ≤ 536870912) (hc : cells + 1 ≤ R.cells) (hs : slots + K ≤ R.slots)
    {E : CtlPost} {d : Bool} {acts : List Action} {Q : Addr → Pre} (hQ : Q U.heap.size d acts ((U.pushCell (arrV c1 K fun _ => defaultValue t1)).setTop g)) : wp (multianewarray.make c1 [k]) Q E e d acts (U.setTop g) := by
  subst hK
  obtain ⟨k2, hk2, he⟩ := X.warmed.alike.2.2 _ _ hk
  have hkd2 : k2.kind = .array c2 t1 := by rw [he]; exact hkd
  have hk3 : (U.setTop g).vm.classes[c1]? = some k2 := hk2
  unfold multianewarray.make
  simp only [wp_bind', wp_pure', W.ite, W.theClass, h0, if_false, hk3, hkd2, Option.some.injEq, exists_eq_left']
  exact mg_one X g hk hkd hf hv hn hw hc hs hQ
/-- the outer array after i rows: it lies at b, its rows behind it -/
def mg_tp (cA : ClassId) (N b i : Nat) : Cell := arrV cA N (fun j => va_rf (if j < i then some (b + 1 + j) else none))
theorem mg_tp0 (cA : ClassId) (N b : Nat) : mg_tp cA N b 0 = arrV cA N (fun _ => .null) := congrArg (arrV cA N) (funext fun j => by rw [if_neg (Nat.not_lt_zero j)]; rfl)
theorem mg_tpS (cA : ClassId) (N b i : Nat) : (mg_tp cA N b i).setSlot i (.ref (b + 1 + i)) = mg_tp cA N b (i + 1) := by
  unfold mg_tp
  rw [arrV_store]
  refine congrArg (arrV cA N) (funext fun j => ?_)
  unfold updV
  rcases Nat.lt_trichotomy j i with h | h | h
  · rw [if_neg (show ¬ j = i by omega), if_pos (show j < i + 1 by omega)]
    exact congrArg va_rf (if_pos h)
  · subst h
    rw [if_pos rfl, if_pos (Nat.lt_succ_self j)]
    rfl
  · rw [if_neg (show ¬ j = i by omega), if_neg (show ¬ j < i + 1 by omega)]
    exact congrArg va_rf (if_neg (show ¬ j < i by omega))
/-- what lies in the heap after i rows -/
def mg_Z (H : Heap) (cA cy : ClassId) (N K : Nat) (dv : Value) (i : Nat) (G : Heap) : Prop :=
  G.size = H.size + 1 + i ∧ G[H.size]? = some (mg_tp cA N H.size i) ∧ (∀ j : Nat, j < i → G[H.size + 1 + j]? = some (arrV cy K fun _ => dv)) ∧ ∀ x : Nat, x < H.size → G[x]? = H[x]?
/-- one turn: a row is made, and laid into the outer array -/
theorem mg_turn {H : Heap} {U : State} (X : Stand p l e R s m args below meth c U locs cells slots) (g : JFrame) {cA cy cz : ClassId} {kA ky : Class} {tA ty : FieldType} {k : Int32} {N K i : Nat} (hkA : s.vm.classes[cA]? = some kA) (hkdA : kA.kind = .array cy tA) (hrf : ∀ a : Nat, fits tA (.ref a) = true) (hky : s.vm.classes[cy]? = some ky) (hkdy : ky.kind = .array cz ty) (h0 : ¬ k < 0) (hK : k.toNatClampNeg = K) (hf : fits ty (defaultValue ty) = true) (hv : (defaultValue ty).isDefault = true) (hn : K ≤ 536870912) (hw : K * componentBytes ty ≤ 536870912) (hc : cells + 1 ≤ R.cells) (hs : slots + K ≤ R.slots)
    (hsH : s.heap.size ≤ H.size) (hi : i < N) (hZ : mg_Z H cA cy N K (defaultValue ty) i U.heap) :
    ∃ V : State, mg_Z H cA cy N K (defaultValue ty) (i + 1) V.heap ∧ Stand p l e R s m args below meth c V locs (cells + 1) (slots + K) ∧
      ∀ (E : CtlPost) (d : Bool) (acts : List Action) (Q : Pre), (∀ (d' : Bool) (acts' : List Action), Q d' acts' (V.setTop g)) → wp (multianewarray.make cy [k]) (fun q d1 a1 S1 => wp (Jvm.writeLoc H.size i (.ref q)) (fun _ => Q) E e d1 a1 S1) E e d acts (U.setTop g) := by
  obtain ⟨z1, z2, z3, z4⟩ := hZ
  have hlt : H.size < U.heap.size := by omega
  have hcell : (U.pushCell (arrV cy K fun _ => defaultValue ty)).heap[H.size]? = some (mg_tp cA N H.size i) := (State.heap_pushCell_of_lt _ _ hlt).trans z2
  have X1 := X.pushed (arrV cy K fun _ => defaultValue ty)
  rw [arrV_size] at X1
  have X2 := (X1.stored hcell i (.ref U.heap.size)).dropFresh (fun x hx => by
    cases List.mem_singleton.mp hx
    exact hsH)
  have hset : (mg_tp cA N H.size i).setSlot i (.ref U.heap.size) = mg_tp cA N H.size (i + 1) := by
    rw [z1]
    exact mg_tpS cA N H.size i
  refine ⟨_, ?_, X2, fun E d acts Q hQ => ?_⟩
  · rw [hset]
    refine ⟨?_, State.heap_setCell_self hcell, fun j hj => ?_, fun x hx => ?_⟩
    · rw [size_setCell]
      show (U.heap.push _).size = _
      rw [Array.size_push, z1]
      omega
    · rw [State.heap_setCell_other (show H.size ≠ H.size + 1 + j by omega)]
      by_cases h : j < i
      · exact (State.heap_pushCell_of_lt _ _ (show H.size + 1 + j < U.heap.size by omega)).trans (z3 j h)
      · have e1 : H.size + 1 + j = U.heap.size := by omega
        rw [e1]
        exact State.heap_pushCell_size _ _
    · rw [State.heap_setCell_other (show H.size ≠ x by omega)]
      exact (State.heap_pushCell_of_lt _ _ (show x < U.heap.size by omega)).trans (z4 x hx)
  · refine mg_mk X g hky hkdy h0 hK hf hv hn hw hc hs ?_
    obtain ⟨kB, hkB, heB⟩ := X.warmed.alike.2.2 _ _ hkA
    have hkdB : kB.kind = .array cy tA := by rw [heB]; exact hkdA
    rw [W.writeLoc]
    have hvm : (mg_tp cA N H.size i).vm ≠ VmData.unknown := fun h => VmData.noConfusion h
    refine ⟨mg_tp cA N H.size i, hcell, hvm, ?_, ?_, hQ _ _⟩
    · show i < (arrV cA N _).slots.size
      rw [arrV_size]
      exact hi
    · show (State.fitsSlot _ cA .none i _) = true
      simp [State.fitsSlot, State.slotType?, hkB, hkdB, hrf]
/-- all turns -/
theorem mg_loop {H : Heap} (g : JFrame) {cA cy cz : ClassId} {kA ky : Class} {tA ty : FieldType} {k : Int32} {N K : Nat} (hkA : s.vm.classes[cA]? = some kA) (hkdA : kA.kind = .array cy tA) (hrf : ∀ a : Nat, fits tA (.ref a) = true) (hky : s.vm.classes[cy]? = some ky) (hkdy : ky.kind = .array cz ty) (h0 : ¬ k < 0) (hK : k.toNatClampNeg = K) (hf : fits ty (defaultValue ty) = true) (hv : (defaultValue ty).isDefault = true) (hn : K ≤ 536870912) (hw : K * componentBytes ty ≤ 536870912) (hsH : s.heap.size ≤ H.size) (f : Nat → PUnit → Sem (ForInStep PUnit))
    (hfb : ∀ (i : Nat) (E : CtlPost) (d : Bool) (acts : List Action) (S : State) (Q : ForInStep PUnit → Pre), wp (multianewarray.make cy [k]) (fun q d1 a1 S1 => wp (Jvm.writeLoc H.size i (.ref q)) (fun _ => Q (ForInStep.yield PUnit.unit)) E e d1 a1 S1) E e d acts S → wp (f i PUnit.unit) Q E e d acts S) :
    ∀ (r i cells slots : Nat) (U : State), i + r = N → Stand p l e R s m args below meth c U locs cells slots → cells + r ≤ R.cells → slots + r * K ≤ R.slots → mg_Z H cA cy N K (defaultValue ty) i U.heap →
      ∃ V : State, mg_Z H cA cy N K (defaultValue ty) N V.heap ∧ Stand p l e R s m args below meth c V locs (cells + r) (slots + r * K) ∧
        ∀ (E : CtlPost) (d : Bool) (acts : List Action) (Q : PUnit → Pre), (∀ (d' : Bool) (acts' : List Action), Q PUnit.unit d' acts' (V.setTop g)) → wp (forIn (List.range' i r 1) PUnit.unit f) Q E e d acts (U.setTop g)
  | 0, i, cells, slots, U, hir, X, _, _, hZ => by
    refine ⟨U, ?_, by simpa using X, fun E d acts Q hQ => ?_⟩
    · have e0 : i = N := hir
      rw [← e0] at hZ ⊢
      exact hZ
    · rw [List.range'_zero, List.forIn_nil, wp_pure']
      exact hQ _ _
  | r + 1, i, cells, slots, U, hir, X, hc, hs, hZ => by
    have hm : (r + 1) * K = K + r * K := by rw [Nat.add_mul, Nat.one_mul, Nat.add_comm]
    obtain ⟨U1, y1, y2, y3⟩ := mg_turn X g hkA hkdA hrf hky hkdy h0 hK hf hv hn hw (by omega) (by omega) hsH (show i < N by omega) hZ
    obtain ⟨V, v1, v2, v3⟩ := mg_loop g hkA hkdA hrf hky hkdy h0 hK hf hv hn hw hsH f hfb r (i + 1) (cells + 1) (slots + K) U1 (by omega) y2 (by omega) (by omega) y1
    refine ⟨V, v1, ?_, fun E d acts Q hQ => ?_⟩
    · rw [show cells + (r + 1) = cells + 1 + r by omega, show slots + (r + 1) * K = slots + K + r * K by omega]
      exact v2
    · rw [List.range'_succ, List.forIn_cons, wp_bind']
      refine hfb i E d acts _ _ (y3 E d acts _ (fun d' acts' => ?_))
      exact v3 E d' acts' Q hQ
/-- both dimensions -/
theorem mg_make {U : State} (X : Stand p l e R s m args below meth c U locs cells slots) (g : JFrame) {cA cy cz : ClassId} {kA ky : Class} {tA ty : FieldType} {n k : Int32} {N K : Nat} (hkA : s.vm.classes[cA]? = some kA) (hkdA : kA.kind = .array cy tA) (hnf : fits tA .null = true) (hrf : ∀ a : Nat, fits tA (.ref a) = true) (hky : s.vm.classes[cy]? = some ky) (hkdy : ky.kind = .array cz ty) (hn0 : ¬ n < 0) (h0 : ¬ k < 0) (hN : n.toNatClampNeg = N) (hK : k.toNatClampNeg = K)
    (hf : fits ty (defaultValue ty) = true) (hv : (defaultValue ty).isDefault = true) (hm : N ≤ 536870912) (hm2 : N * componentBytes tA ≤ 536870912) (hn : K ≤ 536870912) (hw : K * componentBytes ty ≤ 536870912) (hc : cells + (1 + N) ≤ R.cells) (hs : slots + (N + N * K) ≤ R.slots) :
    ∃ V : State, mg_Z U.heap cA cy N K (defaultValue ty) N V.heap ∧ Stand p l e R s m args below meth c V locs (cells + 1 + N) (slots + N + N * K) ∧
      ∀ (E : CtlPost) (d : Bool) (acts : List Action) (Q : Addr → Pre), (∀ (d' : Bool) (acts' : List Action), Q U.heap.size d' acts' (V.setTop g)) → wp (multianewarray.make cA [n, k]) Q E e d acts (U.setTop g) := by
  subst hN
  have X2 := X.pushed (arrV cA n.toNatClampNeg (fun _ => Value.null))
  rw [arrV_size] at X2
  have hZ0 : mg_Z U.heap cA cy n.toNatClampNeg K (defaultValue ty) 0 (U.pushCell (arrV cA n.toNatClampNeg (fun _ => Value.null))).heap := by
    refine ⟨?_, ?_, fun j hj => absurd hj (Nat.not_lt_zero j), fun x hx => State.heap_pushCell_of_lt _ _ hx⟩
    · show (U.heap.push _).size = _
      rw [Array.size_push]
    · rw [mg_tp0]
      exact State.heap_pushCell_size _ _
  obtain ⟨V, v1, v2, v3⟩ := mg_loop (H := U.heap) g hkA hkdA hrf hky hkdy h0 hK hf hv hn hw X.heapGrown (fun i _ => multianewarray.make cy [k] >>= fun q => Jvm.writeLoc U.heap.size i (.ref q) >>= fun _ => Pure.pure (ForInStep.yield PUnit.unit)) (fun i E d acts S Q h => by
    simp only [wp_bind', wp_pure']
    exact h) n.toNatClampNeg 0 (cells + 1) (slots + n.toNatClampNeg) _ (Nat.zero_add _) X2 (by omega) (by omega) hZ0
  refine ⟨V, v1, v2, fun E d acts Q hQ => ?_⟩
  obtain ⟨kB, hkB, heB⟩ := X.warmed.alike.2.2 _ _ hkA
  have hkdB : kB.kind = .array cy tA := by rw [heB]; exact hkdA
  have hkB3 : (U.setTop g).vm.classes[cA]? = some kB := hkB
  have hno : ([k].find? (fun x => decide (x < 0))) = none := by
    rw [List.find?_cons_of_neg (by simpa using h0), List.find?_nil]
  unfold multianewarray.make
  simp only [wp_bind', wp_pure', W.ite, W.theClass, hn0, if_false, hkB3, hkdB, Option.some.injEq, exists_eq_left']
  refine mg_one X g hkA hkdA hnf rfl hm hm2 (by omega) (by omega) ?_
  simp only [hno, wp_pure', ite_self, wp_bind']
  rw [Std.Legacy.Range.forIn_eq_forIn_range']
  rw [show ([:n.toNatClampNeg] : Std.Legacy.Range).size = n.toNatClampNeg by simp [Std.Legacy.Range.size]]
  refine v3 E _ _ _ (fun d' acts' => ?_)
  exact hQ d' acts'
end MG
section VGM2
variable {p : Program} {l : Launch} {e : Env} {R : Room} {s : State} {m : MethodId} {args : Array Value} {below : List Frame} {meth : Method} {c : Code} {H : Heap} {locs : List Loc} {cells slots : Nat} {Q : State → Prop}
variable {cc : ByteArray} {pc : Nat} {ls : Array Slot} {rest : List Value} {D : va_G} {cl : List vw_C} {A : Nat → Prop} {a : Nat} {tys : List (ClassId × FieldType)} {ws : va_W} {H0 : Heap}
theorem va_mn2 {cc : ByteArray} (hexec : p.tables.exec = Jvm.exec) (hb : c.code = cc) {own : String} {index : Nat} {ty : FieldType} {cy : ClassId} (hown : s.vm.findClass own = some m.cls) (hclink : (Cond.classLink own index ("[" ++ (FieldType.array ty).toString)).before args s = true) (hover : va_AOA ty s) (harr : (Cond.arrayClass ty).before args s = true) (hcy : s.vm.findClass (FieldType.array ty).toString = some cy)
    (hK : va_K D cl tys s) (hP : va_P D cl ws H) (hD : va_D A ws) (hS : va_S A H0 H locs) (hA : ∀ q, H0.size ≤ q → A q) {n k : Int32} {N' K' : Nat} {z : vp_A} (hn : ¬ n < 0) (hk : ¬ k < 0) (hN : n.toNatClampNeg = N') (hM : k.toNatClampNeg = K')
    (hb1 : N' * 4 ≤ 536870912) (hb2 : K' * componentBytes ty ≤ 536870912) (hb3 : K' ≤ 536870912) (hdf : fits ty (defaultValue ty) = true) (hdd : (defaultValue ty).isDefault = true) (hcells : cells + (1 + N') ≤ R.cells) (hslots : slots + (N' + N' * K') ≤ R.slots) (hz : ∀ c : ClassId, arrV c K' (fun _ => defaultValue ty) = vp_cell c z) (hdg : decode cc pc = .ok (.multianewarray index 2, 4))
    (kk : ∀ (q : Nat) (cA : ClassId) (H1 : Heap), va_K D cl (tys ++ [(cA, .array ty)]) s → va_P D cl ((ws ++ [(q, .inl (cA, N', .inr (.inr (.inr (.inr (fun i => if i < N' then some (q + 1 + i) else none))))))]) ++ ((List.range N').map (fun i => q + 1 + i)).map (fun a => (a, .inl (cy, z)))) H1 → va_D A ((ws ++ [(q, .inl (cA, N', .inr (.inr (.inr (.inr (fun i => if i < N' then some (q + 1 + i) else none))))))]) ++ ((List.range N').map (fun i => q + 1 + i)).map (fun a => (a, .inl (cy, z)))) → va_S A H0 H1 locs →
      W p l e R s m args below meth c H1 locs (cells + 1 + N') (slots + N' + N' * K') Q (F0 m (pc + 4) ls (.ref q :: rest))) : W p l e R s m args below meth c H locs cells slots Q (F0 m pc ls (.int k :: .int n :: rest)) := by
  subst hN
  subst hM
  intro T hT Xs
  have hpl : e.platform.magicAccessors = ({} : Platform).magicAccessors := by rw [Xs.admits.platform]
  obtain ⟨y1, cA, kA, g1, -, hkA, hkdA, fA⟩ := arrayOverA_spec (va_AOA.use (A := args) hover)
  have e1 : y1 = cy := Option.some.inj (g1.symm.trans hcy)
  subst e1
  obtain ⟨y2, ky, cz, g2, hky, hkdy⟩ := Cond.arrayClass_spec harr
  have e2 : y2 = y1 := Option.some.inj (g2.symm.trans g1)
  subst e2
  obtain ⟨c0, g0, hcl⟩ := Cond.classLink_spec hown hclink e.platform hpl
  have e3 : c0 = cA := Option.some.inj (g0.symm.trans fA)
  subst e3
  obtain ⟨hg1, hwm, -⟩ := State.classEntry (e := e) Xs.warmed hcl
  generalize T.vm.noted m.cls index (.cls c0) = vm1 at hg1 hwm
  have X1 := Xs.noted hwm
  obtain ⟨F, hF, X', hwp⟩ := mg_make X1 (F0 m pc ls rest) (n := n) (k := k) hkA hkdA rfl (fun _ => rfl) hky hkdy hn hk rfl rfl hdf hdd (by omega) hb1 hb3 hb2 hcells hslots
  have hTh : (T.setVm vm1).heap = H := hT
  rw [hTh] at hF hwp
  obtain ⟨f1, f2, hrow0, hold⟩ := hF
  have hrow : ∀ j : Nat, j < n.toNatClampNeg → F.heap[H.size + 1 + j]? = some (vp_cell y2 z) := fun j hj => by
    rw [← hz]
    exact hrow0 j hj
  have hout : mg_tp c0 n.toNatClampNeg H.size n.toNatClampNeg = vp_cell c0 (n.toNatClampNeg, .inr (.inr (.inr (.inr (fun i => if i < n.toNatClampNeg then some (H.size + 1 + i) else none))))) := by
    rw [vp_cell_q]
    rfl
  rw [hout] at f2
  have hP0 : va_P D cl ws F.heap := hP.kept (fun k9 x hx => hold x.1 ((hP k9 x hx).lt))
  have hP1 : va_P D cl (ws ++ [(H.size, .inl (c0, n.toNatClampNeg, .inr (.inr (.inr (.inr (fun i => if i < n.toNatClampNeg then some (H.size + 1 + i) else none))))))]) F.heap := hP0.app (fun k9 x hx => by
    have h0 : k9 < 1 := (List.getElem?_eq_some_iff.mp hx).1
    rw [show k9 = 0 by omega] at hx
    cases hx
    exact f2)
  have hP2 : va_P D cl ((ws ++ [(H.size, .inl (c0, n.toNatClampNeg, .inr (.inr (.inr (.inr (fun i => if i < n.toNatClampNeg then some (H.size + 1 + i) else none))))))]) ++ ((List.range n.toNatClampNeg).map (fun i => H.size + 1 + i)).map (fun a => (a, .inl (y2, z)))) F.heap := hP1.app (fun k9 x hx => by
    obtain ⟨a, ha, rfl⟩ := List.mem_map.mp (List.mem_of_getElem? hx)
    obtain ⟨i, hi, rfl⟩ := List.mem_map.mp ha
    exact hrow i (List.mem_range.mp hi))
  have hD2 : va_D A ((ws ++ [(H.size, .inl (c0, n.toNatClampNeg, .inr (.inr (.inr (.inr (fun i => if i < n.toNatClampNeg then some (H.size + 1 + i) else none))))))]) ++ ((List.range n.toNatClampNeg).map (fun i => H.size + 1 + i)).map (fun a => (a, .inl (y2, z)))) := by
    have hD1 := hD.push (e := .inl (c0, n.toNatClampNeg, .inr (.inr (.inr (.inr (fun i => if i < n.toNatClampNeg then some (H.size + 1 + i) else none)))))) hP rfl (hA _ hS.1)
    generalize hW1 : ws ++ [(H.size, .inl (c0, n.toNatClampNeg, .inr (.inr (.inr (.inr (fun i => if i < n.toNatClampNeg then some (H.size + 1 + i) else none))))))] = W1 at hD1 hP1 ⊢
    have hle : ∀ (k9 : Nat) (x : Nat × va_E), W1[k9]? = some x → x.1 ≤ H.size := fun k9 x hx => by
      rw [← hW1] at hx
      by_cases hl : k9 < ws.length
      · rw [List.getElem?_append_left hl] at hx
        exact Nat.le_of_lt ((hP k9 x hx).lt)
      · rw [List.getElem?_append_right (by omega)] at hx
        have h0 : k9 - ws.length < 1 := (List.getElem?_eq_some_iff.mp hx).1
        rw [show k9 - ws.length = 0 by omega] at hx
        cases hx
        exact Nat.le_refl _
    have hr : ∀ (k9 : Nat) (x : Nat × va_E), (((List.range n.toNatClampNeg).map (fun i => H.size + 1 + i)).map (fun a => ((a, .inl (y2, z)) : Nat × va_E)))[k9]? = some x → x.1 = H.size + 1 + k9 := fun k9 x hx => by
      rw [List.getElem?_map, List.getElem?_map] at hx
      by_cases h9 : k9 < n.toNatClampNeg
      · rw [List.getElem?_range h9] at hx
        cases hx
        rfl
      · have hn0 : (List.range n.toNatClampNeg)[k9]? = none := List.getElem?_eq_none (by rw [List.length_range]; omega)
        rw [hn0] at hx
        cases hx
    refine ⟨fun i j x y hi hj hxy => ?_, fun k9 x hx => ?_⟩
    · by_cases h1 : i < W1.length <;> by_cases h2 : j < W1.length
      · rw [List.getElem?_append_left h1] at hi
        rw [List.getElem?_append_left h2] at hj
        exact hD1.1 i j x y hi hj hxy
      · rw [List.getElem?_append_left h1] at hi
        rw [List.getElem?_append_right (by omega)] at hj
        have := hle _ _ hi
        have := hr _ _ hj
        omega
      · rw [List.getElem?_append_right (by omega)] at hi
        rw [List.getElem?_append_left h2] at hj
        have := hle _ _ hj
        have := hr _ _ hi
        omega
      · rw [List.getElem?_append_right (by omega)] at hi hj
        have := hr _ _ hi
        have := hr _ _ hj
        omega
    · by_cases h1 : k9 < W1.length
      · rw [List.getElem?_append_left h1] at hx
        exact hD1.2 k9 x hx
      · rw [List.getElem?_append_right (by omega)] at hx
        have := hr _ _ hx
        exact hA _ (by have := hS.1; omega)
  have hAr : ArrOfT s c0 (.array ty) := fun N9 z9 => ⟨(fun q hq => by cases hq), kA, hkA, y2, hkdA⟩
  have hK2 : va_K D cl (tys ++ [(c0, .array ty)]) s := ⟨hK.1, fun k9 x hx => by
    by_cases hl : k9 < tys.length
    · rw [List.getElem?_append_left hl] at hx
      exact hK.2 k9 x hx
    · rw [List.getElem?_append_right (by omega)] at hx
      have h0 : k9 - tys.length < 1 := (List.getElem?_eq_some_iff.mp hx).1
      rw [show k9 - tys.length = 0 by omega] at hx
      cases hx
      exact ⟨hAr, fA⟩⟩
  obtain ⟨t, a1, b1⟩ := kk H.size c0 F.heap hK2 hP2 hD2 ⟨by rw [f1]; have := hS.1; omega, fun x h1 h2 => (hold x (Nat.lt_of_lt_of_le h1 hS.1)).trans (hS.2.1 x h1 h2), hS.2.2⟩ F rfl X'
  refine ⟨t, ?_, b1⟩
  have hdc : decode c.code pc = .ok (.multianewarray index 2, 4) := by rw [hb]; exact hdg
  jvm_step Xs.here [hexec, hdc]
  simp only [multianewarray.sem, wp_bind', W.resolveClassAt_links (t := T.setTop (F0 m pc ls (.int k :: .int n :: rest))) (vm' := vm1) (State.method?_setTop _ Xs.here.top) hg1]
  rw [W.popN, if_neg (by decide)]
  refine ⟨F0 m pc ls (.int k :: .int n :: rest), State.topJava?_setTop' (s := T.setVm vm1) _ Xs.here.top, [.int n, .int k], rest, rfl, rfl, ?_⟩
  simp only [List.mapM_cons, List.mapM_nil, wp_bind', wp_pure']
  have eS : ((T.setTop (F0 m pc ls (.int k :: .int n :: rest))).setVm vm1).setTop (F0 m pc ls rest) = (T.setVm vm1).setTop (F0 m pc ls rest) := State.setTop_setTop (T.setVm vm1) (F0 m pc ls (.int k :: .int n :: rest)) (F0 m pc ls rest)
  rw [eS]
  refine hwp _ _ _ _ (fun d' acts' => ?_)
  rw [wp_bind', W.mark, W.pushRef]
  refine ⟨F0 m pc ls rest, State.topJava?_setTop' _ X'.here.top, ?_⟩
  intro acts9
  simp [jvm, X'.here.top]
  exact a1
theorem va_newI {cI cA : ClassId} (hx : p.tables.exec = Jvm.exec) (hb : c.code = cc) (harr : (Cond.arrayClass .int).before args s = true) (hK : va_K D vwCl (tyL cI cA) s) (hP : va_P D vwCl ws H) (hD : va_D A ws) (hS : va_S A H0 H locs) (hA : ∀ q, H0.size ≤ q → A q) {n : Int32} {N : Nat} (hn : ¬ n < 0) (hN : n.toNatClampNeg = N) (hN2 : N ≤ 1000) (hcells : cells + 1 ≤ R.cells) (hslots : slots + N ≤ R.slots) (hdg : decode cc pc = .ok (.newarray .int, 2))
    (kk : ∀ (q : Nat) (H1 : Heap), va_P D vwCl (ws ++ [(q, .inl (cI, N, .inl (fun _ => 0)))]) H1 → va_D A (ws ++ [(q, .inl (cI, N, .inl (fun _ => 0)))]) → va_S A H0 H1 locs → W p l e R s m args below meth c H1 locs (cells + 1) (slots + N) Q (F0 m (pc + 2) ls (.ref q :: rest))) : W p l e R s m args below meth c H locs cells slots Q (F0 m pc ls (.int n :: rest)) := by
  refine va_newa (atype := .int) (ty := .int) (a0 := (N, .inl (fun _ => 0))) hx hb harr rfl hK hP hD hS hA (fun _ => rfl) hn hN (by show N * 4 ≤ 536870912; omega) hcells hslots hdg (fun q c1 H1 hK1 hP1 hD1 hS1 => ?_)
  have e1 : s.vm.findClass ("[" ++ FieldType.int.toString) = some c1 := (hK1.2 2 (c1, .int) rfl).2
  have e2 : s.vm.findClass ("[" ++ FieldType.int.toString) = some cI := (hK1.2 0 (cI, .int) rfl).2
  have e3 : c1 = cI := Option.some.inj (e1.symm.trans e2)
  subst e3
  exact kk q H1 hP1 hD1 hS1
theorem va_newII {cI cA : ClassId} (hx : p.tables.exec = Jvm.exec) (hb : c.code = cc) {own : String} {index : Nat} (hown : s.vm.findClass own = some m.cls) (hclink : (Cond.classLink own index "[[I").before args s = true) (hover : va_AOA .int s) (harr : (Cond.arrayClass .int).before args s = true) (hK : va_K D vwCl (tyL cI cA) s) (hP : va_P D vwCl ws H) (hD : va_D A ws) (hS : va_S A H0 H locs) (hA : ∀ q, H0.size ≤ q → A q) {n k : Int32} {N K : Nat} (hn : ¬ n < 0) (hk : ¬ k < 0) (hN : n.toNatClampNeg = N) (hM : k.toNatClampNeg = K) (hN2 : N ≤ 1000) (hK2 : K ≤ 1000) (hcells : cells + (1 + N) ≤ R.cells) (hslots : slots + (N + N * K) ≤ R.slots) (hdg : decode cc pc = .ok (.multianewarray index 2, 4))
    (kk : ∀ (q : Nat) (H1 : Heap), va_P D vwCl ((ws ++ [(q, .inl (cA, N, .inr (.inr (.inr (.inr (fun i => if i < N then some (q + 1 + i) else none))))))]) ++ ((List.range N).map (fun i => q + 1 + i)).map (fun a => (a, .inl (cI, K, .inl (fun _ => 0))))) H1 → va_D A ((ws ++ [(q, .inl (cA, N, .inr (.inr (.inr (.inr (fun i => if i < N then some (q + 1 + i) else none))))))]) ++ ((List.range N).map (fun i => q + 1 + i)).map (fun a => (a, .inl (cI, K, .inl (fun _ => 0))))) → va_S A H0 H1 locs → W p l e R s m args below meth c H1 locs (cells + 1 + N) (slots + N + N * K) Q (F0 m (pc + 4) ls (.ref q :: rest))) : W p l e R s m args below meth c H locs cells slots Q (F0 m pc ls (.int k :: .int n :: rest)) := by
  have e2 : s.vm.findClass ("[" ++ FieldType.int.toString) = some cI := (hK.2 0 (cI, .int) rfl).2
  refine va_mn2 (ty := .int) (cy := cI) (z := (K, .inl (fun _ => 0))) hx hb hown hclink hover harr e2 hK hP hD hS hA hn hk hN hM (by omega) (by show K * 4 ≤ 536870912; omega) (by omega) rfl rfl hcells hslots (fun c => ?_) hdg (fun q c1 H1 hK1 hP1 hD1 hS1 => ?_)
  · rfl
  have e1 : s.vm.findClass ("[" ++ (FieldType.array .int).toString) = some c1 := (hK1.2 2 (c1, .array .int) rfl).2
  have e4 : s.vm.findClass ("[" ++ (FieldType.array .int).toString) = some cA := (hK1.2 1 (cA, .array .int) rfl).2
  have e3 : c1 = cA := Option.some.inj (e1.symm.trans e4)
  subst e3
  exact kk q H1 hP1 hD1 hS1
end VGM2
theorem vp_refs {cA : ClassId} {n : Nat} {f g : Nat → Option Nat} (h : ∀ i, i < n → f i = g i) : vp_cell cA (n, .inr (.inr (.inr (.inr f)))) = vp_cell cA (n, .inr (.inr (.inr (.inr g)))) := by
  show arrV cA n (fun j => va_rf (f j)) = arrV cA n (fun j => va_rf (g j))
  unfold arrV
  congr 1
  refine congrArg (Array.ofFn (n := n)) (funext fun j => ?_)
  show va_rf (f j.val) = va_rf (g j.val)
  rw [h j.val j.isLt]
