/-! ===== calls of methods that have a Wp, out of any frame ===== -/
theorem room_le {s : State} {pl : Platform} {R R' : Room} (h : s.hasRoom pl R' = true) (hf : R.frames ≤ R'.frames) (hc : R.cells ≤ R'.cells) (hs : R.slots ≤ R'.slots) (hl : R.locals ≤ R'.locals) : s.hasRoom pl R = true := by
  simp only [State.hasRoom, Bool.and_eq_true, decide_eq_true_eq] at h ⊢
  obtain ⟨⟨⟨⟨hA, b1, b2, b3, b4, b5⟩, hC⟩, hD⟩, hE⟩ := h
  exact ⟨⟨⟨⟨by omega, by omega, by omega, by omega, by omega, b5⟩, by omega⟩, by omega⟩, hE⟩
section LW
variable {p : Program} {l : Launch} {e : Env} {R : Room} {s : State} {m : MethodId} {args : Array Value} {below : List Frame} {meth : Method} {c : Code} {H : Heap} {locs : List Loc} {cells slots : Nat} {Q : State → Prop}
variable {cI cA : ClassId} {D : va_G} {ad : Nat → Nat} {A : Nat → Prop} {σ : St}
theorem W_room {R' : Room} {g : JFrame} (hf : R.frames ≤ R'.frames) (hc : R.cells ≤ R'.cells) (hs : R.slots ≤ R'.slots) (hl : R.locals ≤ R'.locals) (k : W p l e R s m args below meth c H locs cells slots Q g) : W p l e R' s m args below meth c H locs cells slots Q g :=
  fun T hT X => k T hT { X with room := room_le X.room hf hc hs hl }
/-- what a frame over the world stands on -/
def LC (p : Program) (s : State) (m : MethodId) (args : Array Value) (c : Code) (cc : ByteArray) (nL : Nat) (own : String) (cI cA : ClassId) (D : va_G) (ad : Nat → Nat) (A : Nat → Prop) : Prop :=
  p.tables.exec = Jvm.exec ∧ c.code = cc ∧ c.maxLocals = nL ∧ s.vm.findClass own = some m.cls ∧ (∀ w ∈ TB, w.before args s = true) ∧ va_K D vwCl (tyL cI cA) s ∧ (∀ q : Nat, s.heap.size ≤ q → A q) ∧ Ap ad A
theorem LC.AA {cc : ByteArray} {nL : Nat} {own : String} (hc : LC p s m args c cc nL own cI cA D ad A) (hS : va_S A s.heap H locs) : ∀ q, va_A (Wd cI cA ad σ) H.size q → A q := by
  intro q hq
  rcases hq with ⟨k, e0, hk⟩ | hq
  · exact (hc.2.2.2.2.2.2.2.D cI cA σ).2 k (q, e0) hk
  · exact hc.2.2.2.2.2.2.1 q (Nat.le_trans hS.1 hq)
/-- a place in the tables at which a method of a thing of the world is called -/
def Site (own : String) (idx : Nat) (M' : MI) (k n : Nat) : Prop := Cond.methodLink own idx M'.1 ∈ TB ∧ Cond.instanceMethod M'.1 ∈ TB ∧ Cond.selects M'.1.cls M'.1 M'.1 ∈ TB ∧ CW M' n ∧ (∃ fs, shT[k]? = some (.inl fs)) ∧ (∃ q : vw_C, vwCl[k]? = some q ∧ q.1 = M'.1.cls) ∧ n + 1 ≤ M'.2.2.1
theorem L_pre {cc : ByteArray} {nL : Nat} {own : String} (hc : LC p s m args c cc nL own cI cA D ad A) (hP : va_P D vwCl (Wd cI cA ad σ) H) (vs : List Value) : PreS s H (va_Pc vs (fun U => U.heap.size = H.size ∧ va_P D vwCl (Wd cI cA ad σ) U.heap ∧ va_K D vwCl (tyL cI cA) U)) vs :=
  ⟨fun a U g mk q => by obtain ⟨q0, q1, q2, q3⟩ := q; exact ⟨q0, q1, q2, va_K.moved (u := U) (U := U.calling g mk a) (Vm.Alike.refl U.vm) q3⟩, fun U hU hW => ⟨rfl, by rw [hU], by rw [hU]; exact hP, va_K.moved hW.alike hc.2.2.2.2.2.1⟩⟩
theorem L_ci {cc : ByteArray} {nL : Nat} {own : String} {M' : MI} {d' k idx pc : Nat} {vs : List PV} {rest : List Value} {ls : Array Slot} {ty : FieldType} {Q' : Int → St → Prop}
    (hc : LC p s m args c cc nL own cI cA D ad A) (hr : RgS σ) (hP : va_P D vwCl (Wd cI cA ad σ) H) (hS : va_S A s.heap H locs) (hl : ls.size = nL) (hd : decode cc pc = .ok (.invokevirtual idx, 3)) (hsi : Site own idx M' k vs.length) (hrt : M'.2.2.2 = some ty) (hdd : d' + 1 ≤ R.frames) (hlo : 8 + (M'.2.2.1 + 11) + 36 * d' ≤ R.locals) (hst : (rest.map fun v => v.category).sum ≤ 8) (hcs : cells ≤ R.cells ∧ slots ≤ R.slots)
    (h : Wp M' d' Q' 0 (entl M'.2.2.1 (.inr k :: vs)) [] σ)
    (kk : ∀ (z : Int) (τ : St) (H1 : Heap) (locs1 : List Loc), RgS τ → Q' z τ → va_P D vwCl (Wd cI cA ad τ) H1 → va_S A s.heap H1 locs1 → H.size ≤ H1.size → (∀ q : Nat, q < H.size → ¬ va_A (Wd cI cA ad σ) H.size q → H1[q]? = H[q]?) → W p l e R s m args below meth c H1 locs1 cells slots Q (F0 m (pc + 3) ls (.int (Int32.ofInt z) :: rest))) :
    W p l e R s m args below meth c H locs cells slots Q (F0 m pc ls ((vs.map (rv ad)).reverse ++ .ref (ad k) :: rest)) := by
  have hAA := hc.AA (σ := σ) hS
  obtain ⟨hlk, hw1, hw2, ⟨hi, hcd, hn1, hn2, hpd, hpl, hmx⟩, ⟨fs, hsh⟩, ⟨q, hq, hqc⟩, hln⟩ := hsi
  have hM := Met_of_Wp (vs := .inr k :: vs) l hpl (by simpa using hln) hr h cI cA D hc.2.2.2.2.2.2.2 H.size
  have hpre := L_pre hc hP ((Sum.inr k :: vs : List PV).map (rv ad))
  have hrec := va_recv hc.2.2.2.2.2.1 hP hq (Wd_at hsh)
  rw [hqc] at hrec
  have hrun : va_Run p l e R s m args below meth c H locs cells slots 0 0 (F0 m pc ls ((vs.map (rv ad)).reverse ++ .ref (ad k) :: rest)) rest (Qg cI cA D ad (va_A (Wd cI cA ad σ) H.size) M'.2.2.2 Q' ((Value.ref (ad k) :: vs.map (rv ad)).toArray)) (va_A (Wd cI cA ad σ) H.size) := by
    refine va_runV (As := vs.map (rv ad)) (b := ad k) (rest := rest) ⟨hc.1, hc.2.1, hc.2.2.1, hc.2.2.2.1, hc.2.2.2.2.1⟩ hM (cwV (C := M'.1.cls) vs.length hc.2.2.2.2.1 (tb_goodIn ?_) rfl rfl rfl ⟨rfl, hn1, hn2, hpd⟩ ⟨hdd, hlo⟩) ⟨hpre.1, hrec, hpre.2⟩ rfl (by simp) hl rfl (lv_room hst) hd hcs
    intro w hw
    unfold wsV at hw
    simp only [List.mem_append, List.mem_cons, List.not_mem_nil, or_false] at hw
    rcases hw with (rfl | rfl | rfl | rfl) | rfl | hw
    · exact hlk
    · exact hw1
    · exact hw2
    · exact hi
    · exact hcd
    · exact hw
  intro T hT X
  obtain ⟨v, st₀, t, T', L, h0, X', hL, e1, e2, ⟨⟨z, τ, hv, hrg, hq', hP1, hK1⟩, hz, hk1⟩, stp⟩ := hrun T hT X
  rw [h0] at hz hk1
  rw [hrt] at hv
  have hv2 : v = some (Value.int (Int32.ofInt z)) := by injection hv
  have hS2 : va_S A s.heap T'.heap (locs ++ L) := by
    refine ⟨Nat.le_trans hS.1 (by rw [e1]; exact hz), fun q h1 h2 => ?_, fun q hq2 => ?_⟩
    · rw [e1, hk1 q (Nat.lt_of_lt_of_le h1 hS.1) (fun zz => h2 (hAA q zz))]
      exact hS.2.1 q h1 h2
    · rcases List.mem_append.mp hq2 with h | h
      · exact hS.2.2 q h
      · exact hAA _ (hL q h)
  obtain ⟨t2, a1, b1⟩ := kk z τ T'.heap (locs ++ L) hrg hq' (by rw [e1]; exact hP1) hS2 (by rw [e1]; exact hz) (fun q h1 h2 => by rw [e1]; exact hk1 q h1 h2) T' rfl X'
  refine ⟨t2, stp t2 ?_, b1⟩
  rw [hv2]
  exact a1
theorem L_c0 {cc : ByteArray} {nL : Nat} {own : String} {M' : MI} {d' k idx pc : Nat} {rest : List Value} {ls : Array Slot} {ty : FieldType} {Q' : Int → St → Prop}
    (hc : LC p s m args c cc nL own cI cA D ad A) (hr : RgS σ) (hP : va_P D vwCl (Wd cI cA ad σ) H) (hS : va_S A s.heap H locs) (hl : ls.size = nL) (hd : decode cc pc = .ok (.invokevirtual idx, 3)) (hsi : Site own idx M' k 0) (hrt : M'.2.2.2 = some ty) (hdd : d' + 1 ≤ R.frames) (hlo : 8 + (M'.2.2.1 + 11) + 36 * d' ≤ R.locals) (hst : (rest.map fun v => v.category).sum ≤ 8) (hcs : cells ≤ R.cells ∧ slots ≤ R.slots)
    (h : Wp M' d' Q' 0 (entl M'.2.2.1 [.inr k]) [] σ)
    (kk : ∀ (z : Int) (τ : St) (H1 : Heap) (locs1 : List Loc), RgS τ → Q' z τ → va_P D vwCl (Wd cI cA ad τ) H1 → va_S A s.heap H1 locs1 → H.size ≤ H1.size → (∀ q : Nat, q < H.size → ¬ va_A (Wd cI cA ad σ) H.size q → H1[q]? = H[q]?) → W p l e R s m args below meth c H1 locs1 cells slots Q (F0 m (pc + 3) ls (.int (Int32.ofInt z) :: rest))) :
    W p l e R s m args below meth c H locs cells slots Q (F0 m pc ls (.ref (ad k) :: rest)) := L_ci (vs := []) hc hr hP hS hl hd hsi hrt hdd hlo hst hcs h kk
theorem L_c1 {cc : ByteArray} {nL : Nat} {own : String} {M' : MI} {d' k idx pc : Nat} {x : Int32} {rest : List Value} {ls : Array Slot} {ty : FieldType} {Q' : Int → St → Prop}
    (hc : LC p s m args c cc nL own cI cA D ad A) (hr : RgS σ) (hP : va_P D vwCl (Wd cI cA ad σ) H) (hS : va_S A s.heap H locs) (hl : ls.size = nL) (hd : decode cc pc = .ok (.invokevirtual idx, 3)) (hsi : Site own idx M' k 1) (hrt : M'.2.2.2 = some ty) (hdd : d' + 1 ≤ R.frames) (hlo : 8 + (M'.2.2.1 + 11) + 36 * d' ≤ R.locals) (hst : (rest.map fun v => v.category).sum ≤ 8) (hcs : cells ≤ R.cells ∧ slots ≤ R.slots)
    (h : Wp M' d' Q' 0 (entl M'.2.2.1 [.inr k, .inl x.toInt]) [] σ)
    (kk : ∀ (z : Int) (τ : St) (H1 : Heap) (locs1 : List Loc), RgS τ → Q' z τ → va_P D vwCl (Wd cI cA ad τ) H1 → va_S A s.heap H1 locs1 → H.size ≤ H1.size → (∀ q : Nat, q < H.size → ¬ va_A (Wd cI cA ad σ) H.size q → H1[q]? = H[q]?) → W p l e R s m args below meth c H1 locs1 cells slots Q (F0 m (pc + 3) ls (.int (Int32.ofInt z) :: rest))) :
    W p l e R s m args below meth c H locs cells slots Q (F0 m pc ls (.int x :: .ref (ad k) :: rest)) := by
  have e1 := L_ci (vs := [.inl x.toInt]) (l := l) (below := below) (meth := meth) (e := e) (Q := Q) hc hr hP hS hl hd hsi hrt hdd hlo hst hcs h kk
  have e2 : (List.map (rv ad) [Sum.inl x.toInt]).reverse ++ Value.ref (ad k) :: rest = .int x :: .ref (ad k) :: rest := by
    show Value.int (Int32.ofInt x.toInt) :: .ref (ad k) :: rest = _
    rw [Int32.ofInt_toInt]
  rw [e2] at e1
  exact e1
theorem L_c2 {cc : ByteArray} {nL : Nat} {own : String} {M' : MI} {d' k idx pc : Nat} {x y : Int32} {rest : List Value} {ls : Array Slot} {ty : FieldType} {Q' : Int → St → Prop}
    (hc : LC p s m args c cc nL own cI cA D ad A) (hr : RgS σ) (hP : va_P D vwCl (Wd cI cA ad σ) H) (hS : va_S A s.heap H locs) (hl : ls.size = nL) (hd : decode cc pc = .ok (.invokevirtual idx, 3)) (hsi : Site own idx M' k 2) (hrt : M'.2.2.2 = some ty) (hdd : d' + 1 ≤ R.frames) (hlo : 8 + (M'.2.2.1 + 11) + 36 * d' ≤ R.locals) (hst : (rest.map fun v => v.category).sum ≤ 8) (hcs : cells ≤ R.cells ∧ slots ≤ R.slots)
    (h : Wp M' d' Q' 0 (entl M'.2.2.1 [.inr k, .inl x.toInt, .inl y.toInt]) [] σ)
    (kk : ∀ (z : Int) (τ : St) (H1 : Heap) (locs1 : List Loc), RgS τ → Q' z τ → va_P D vwCl (Wd cI cA ad τ) H1 → va_S A s.heap H1 locs1 → H.size ≤ H1.size → (∀ q : Nat, q < H.size → ¬ va_A (Wd cI cA ad σ) H.size q → H1[q]? = H[q]?) → W p l e R s m args below meth c H1 locs1 cells slots Q (F0 m (pc + 3) ls (.int (Int32.ofInt z) :: rest))) :
    W p l e R s m args below meth c H locs cells slots Q (F0 m pc ls (.int y :: .int x :: .ref (ad k) :: rest)) := by
  have e1 := L_ci (vs := [.inl x.toInt, .inl y.toInt]) (l := l) (below := below) (meth := meth) (e := e) (Q := Q) hc hr hP hS hl hd hsi hrt hdd hlo hst hcs h kk
  have e2 : (List.map (rv ad) [Sum.inl x.toInt, Sum.inl y.toInt]).reverse ++ Value.ref (ad k) :: rest = .int y :: .int x :: .ref (ad k) :: rest := by
    show Value.int (Int32.ofInt y.toInt) :: .int (Int32.ofInt x.toInt) :: .ref (ad k) :: rest = _
    rw [Int32.ofInt_toInt, Int32.ofInt_toInt]
  rw [e2] at e1
  exact e1
end LW
theorem InR_of (x : Int32) : InR x.toInt := ⟨by have := Int32.le_toInt x; omega, by have := Int32.toInt_lt x; omega⟩
