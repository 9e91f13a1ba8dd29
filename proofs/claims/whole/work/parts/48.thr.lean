abbrev NSE : String := "java/util/NoSuchElementException"
abbrev RTE : String := "java/lang/RuntimeException"
abbrev EXC : String := "java/lang/Exception"
/-- what a throw needs beside the tables' good words -/
def ThrOK (A : Nat → Prop) (U : State) (H : Heap) : Prop := (va_Nw (.castable NSE NSE) U ∧ va_Nw (.declares (Bundle.initS RTE)) U ∧ va_Nw (.declares (Bundle.initS EXC)) U ∧ va_Nw (.declares (Bundle.initS Bundle.tN)) U) ∧ (∃ a, vk_R RX6 163 "no such shelf" a U) ∧ (∃ a, vk_R RX6 189 "no such what" a U) ∧ (∃ a, vk_R RX6 191 "no such group" a U) ∧ (∃ a, vk_R RX6 205 "no such book" a U) ∧ vx_Zq Bundle.tN "UNASSIGNED_STACK" Bundle.steD A U H ∧ vx_Zq Bundle.tN "SUPPRESSED_SENTINEL" Bundle.listD A U H
theorem ThrOK.warm {A : Nat → Prop} {s U : State} {H : Heap} (hW : s.WarmedH U.vm) (h : ThrOK A s H) : ThrOK A U H := by
  obtain ⟨h0, ⟨a1, h1⟩, ⟨a2, h2⟩, ⟨a3, h3⟩, ⟨a4, h4⟩, h5, h6⟩ := h
  exact ⟨⟨h0.1.warmC hW, h0.2.1.warmD hW, h0.2.2.1.warmD hW, h0.2.2.2.warmD hW⟩, ⟨a1, h1.warm hW⟩, ⟨a2, h2.warm hW⟩, ⟨a3, h3.warm hW⟩, ⟨a4, h4.warm hW⟩, vx_Zq.moved hW.alike h5, vx_Zq.moved hW.alike h6⟩
theorem ThrOK.same {A : Nat → Prop} {s U : State} {H : Heap} (hv : U.vm = s.vm) (h : ThrOK A s H) : ThrOK A U H := by
  obtain ⟨h0, ⟨a1, h1⟩, ⟨a2, h2⟩, ⟨a3, h3⟩, ⟨a4, h4⟩, h5, h6⟩ := h
  have hA : s.vm.Alike U.vm := by rw [hv]; exact Vm.Alike.refl _
  exact ⟨⟨h0.1.same rfl hv.symm, h0.2.1.same rfl hv.symm, h0.2.2.1.same rfl hv.symm, h0.2.2.2.same rfl hv.symm⟩, ⟨a1, h1.same hv⟩, ⟨a2, h2.same hv⟩, ⟨a3, h3.same hv⟩, ⟨a4, h4.same hv⟩, vx_Zq.moved hA h5, vx_Zq.moved hA h6⟩
theorem ThrOK.kept {A : Nat → Prop} {U : State} {H H1 : Heap} (h : ThrOK A U H) (hq : ∀ a : Nat, a < H.size → ¬ A a → H1[a]? = H[a]?) : ThrOK A U H1 :=
  ⟨h.1, h.2.1, h.2.2.1, h.2.2.2.1, h.2.2.2.2.1, h.2.2.2.2.2.1.kept hq, h.2.2.2.2.2.2.kept hq⟩
theorem ThrOK.narrow {A B : Nat → Prop} {U : State} {H : Heap} (h : ThrOK A U H) (hAB : ∀ q, B q → A q) : ThrOK B U H :=
  ⟨h.1, h.2.1, h.2.2.1, h.2.2.2.1, h.2.2.2.2.1, h.2.2.2.2.2.1.narrow hAB, h.2.2.2.2.2.2.narrow hAB⟩
def rmT : Room := { frames := 6, cells := 1, slots := 6, locals := 216 }
def BXs (cI cA : ClassId) (D : va_G) (ad : Nat → Nat) (σ : St) : String → Unit → State → Prop := fun E _ t => E = NSE ∧ va_P D vwCl (Wd cI cA ad σ) t.heap ∧ va_K D vwCl (tyL cI cA) t
def PosT (Q : Int → St → Prop) : Int32 → Int × St → Prop := fun r u => r = Int32.ofInt u.1 ∧ RgS u.2 ∧ Q u.1 u.2
def BT (cI cA : ClassId) (D : va_G) (ad : Nat → Nat) : Int × St → State → Prop := fun u t => va_P D vwCl (Wd cI cA ad u.2) t.heap ∧ va_K D vwCl (tyL cI cA) t
/-- a method that answers, or throws and leaves the world as it was -/
def MetT (l : Launch) (M : MI) (vs : List PV) (ok : Prop) (Q : Int → St → Prop) (cI cA : ClassId) (D : va_G) (ad : Nat → Nat) (σ : St) (sz : Nat) : Prop :=
  vx_Met l M.1 (Cond.code M.1 M.2.1 M.2.2.1 M.2.2.2 :: TB) rmT (va_Pc (vs.map (rv ad)) (fun U => U.heap.size = sz ∧ va_P D vwCl (Wd cI cA ad σ) U.heap ∧ va_K D vwCl (tyL cI cA) U ∧ ThrOK (va_A (Wd cI cA ad σ) sz) U U.heap)) (va_Qi (PosT (fun z τ => ok ∧ Q z τ)) (BT cI cA D ad) (va_A (Wd cI cA ad σ) sz)) (vx_X (fun _ : Unit => ¬ ok) (BXs cI cA D ad σ) (va_A (Wd cI cA ad σ) sz)) 1 6 (va_A (Wd cI cA ad σ) sz)
theorem MetT_ok {M : MI} {d : Nat} {ok : Prop} {Q : Int → St → Prop} {σ : St} {vs : List PV} (l : Launch) (hp : plainName M.1.cls = true) (hlen : vs.length ≤ M.2.2.1) (hrg : RgS σ) (hrt : M.2.2.2 = some .int) (hd : d ≤ 6) (hok : ok) (h : Wp M d Q 0 (entl M.2.2.1 vs) [] σ) (cI cA : ClassId) (D : va_G) {ad : Nat → Nat} {A : Nat → Prop} (hap : Ap ad A) (sz : Nat) : MetT l M vs ok Q cI cA D ad σ sz := by
  refine vx_ofW (cc := M.2.1) (maxL := M.2.2.1) (ret := M.2.2.2) hp rfl ?_
  intro p e s m args below meth c s₁ B hml ht hv
  obtain ⟨rfl, hsz, hP, hK, hT⟩ := hv
  subst hsz
  have hts := atoms_spec (ws := Cond.code M.1 M.2.1 M.2.2.1 M.2.2.2 :: TB) B.pre
  rw [lg_entry_eq]
  have hW := h p l e s m _ below meth c cI cA D ad _ ⟨B.exec, B.bytes, hml, B.returns, B.notSynchronized, findClass_of_methodNamed B.named, fun w hw => hts w (List.mem_cons_of_mem _ hw), hK, fun q hq => Or.inr hq, hap.self cI cA σ _⟩ s.heap [] _ hrg hP va_S.rf (LV_entry ad vs hlen)
  have hW2 := W_room (R' := rmT) hd (Nat.zero_le _) (Nat.zero_le _) (by show 36 * d ≤ 216; omega) hW
  intro T hT X
  obtain ⟨t, a, o, b1, b2, ⟨⟨z, τ, e1, e2, e3, e4, e5⟩, hF⟩, L, ⟨f1, f2, f3⟩, hL⟩ := hW2 T hT X
  exact ⟨t, a, o, b1, b2, Or.inl ⟨⟨⟨Int32.ofInt z, (z, τ), by rw [e1, hrt]; rfl, ⟨rfl, e2, hok, e3⟩, e4, e5⟩, hF⟩, L, ⟨f1, f2, f3.mono (Nat.zero_le _) (Nat.zero_le _)⟩, hL⟩⟩
theorem ln_606 : Cond.classLink RX6 161 "java/util/NoSuchElementException" ∈ TB := tb_of 606 (by decide +kernel) (by decide +kernel)
theorem ln_73 : Cond.initialized "java/util/NoSuchElementException" ∈ TB := tb_of 73 (by decide +kernel) (by decide +kernel)
def wX : List Cond := (atX RX6 165 NSE RTE 13 prog_17_method_4_code [EXC]).filter vx_no
theorem thr_x : ∀ w ∈ wX.filter goodWord, w ∈ TB := by
  intro w hw
  have h : ∀ w ∈ wX.filter goodWord, w ∈ lw_tbl := by decide +kernel
  exact List.mem_filter.mpr ⟨h w hw, (List.mem_filter.mp hw).2⟩
theorem thr_n : ∀ w ∈ wX.filter (fun w => !goodWord w), w ∈ [Cond.declares (Bundle.initS RTE), Cond.declares (Bundle.initS EXC), Cond.declares (Bundle.initS Bundle.tN)] := by decide +kernel
theorem thr_g : ∀ w ∈ Cond.classLink RX6 161 NSE :: Cond.initialized NSE :: wX, vx_ot w = true := by decide +kernel
theorem rx_0 : decode prog_17_method_4_code 0 = .ok (.aload_n 0, 1) := by decide +kernel
theorem rx_1 : decode prog_17_method_4_code 1 = .ok (.aload_n 1, 1) := by decide +kernel
theorem rx_2 : decode prog_17_method_4_code 2 = .ok (.invokespecial 13, 3) := by decide +kernel
theorem rx_5 : decode prog_17_method_4_code 5 = .ok (.return_, 1) := by decide +kernel
section THR
variable {p : Program} {l : Launch} {e : Env} {s : State} {m : MethodId} {args : Array Value} {below : List Frame} {meth : Method} {c : Code} {H : Heap} {locs : List Loc} {Qc : Array Value → State → Outcome → State → Prop}
variable {cI cA : ClassId} {D : va_G} {ad : Nat → Nat} {A : Nat → Prop} {σ : St}
set_option maxHeartbeats 4000000 in
theorem L_thr {cc : ByteArray} {nL pc is : Nat} {text : String} {ls : Array Slot} {no : Prop} (hno : no) (hC : LC p s m args c cc nL RX6 cI cA D ad A) (hl : l.stackTraces = false) (hT : ThrOK A s s.heap) (hstr : ∃ a, vk_R RX6 is text a s) (hP : va_P D vwCl (Wd cI cA ad σ) H) (hS : va_S A s.heap H locs) (hsize : ls.size = c.maxLocals) (hlocks : meth.locks = false) (ht : ∀ x ∈ c.exceptionTable.toList, False)
    (d0 : decode cc pc = .ok (.new 161, 3)) (d3 : decode cc (pc + 3) = .ok (.dup, 1)) (d4 : decode cc (pc + 4) = .ok (.ldc is, 2)) (d6 : decode cc (pc + 6) = .ok (.invokespecial 165, 3)) (d9 : decode cc (pc + 9) = .ok (.athrow, 1)) :
    W p l e rmT s m args below meth c H locs 0 0 (vx_MQ below Qc (vx_X (fun _ : Unit => no) (BXs cI cA D ad σ) A) args s 1 6 A) (F0 m pc ls []) := by
  obtain ⟨a, hstr⟩ := hstr
  obtain ⟨hx, hb, hml, hown, hts, hK, hA, hap⟩ := hC
  have hat : ∀ w ∈ wX, w.before args s = true := vx_hat (fun w hw => hts w (thr_x w hw)) thr_n (vx_c (va_Nw.use rfl hT.1.2.1) (vx_c (va_Nw.use rfl hT.1.2.2.1) (vx_c (va_Nw.use rfl hT.1.2.2.2) vx_n)))
  intro T hTh X
  have htr : e.platform.stackTraces = false := (show e.platform.stackTraces = l.stackTraces by rw [X.admits.platform]).trans hl
  have Y := vx_rebase X (R' := { frames := 6, locals := 216, cells := 1, slots := 6 }) (Nat.le_refl _) (Nat.le_refl _) (Nat.le_refl 1) (Nat.le_refl 6)
  obtain ⟨s', hA'⟩ : ∃ z, z = (T.setVm s.vm).setFrames (.invoking m args :: below) := ⟨_, rfl⟩
  rw [← hA'] at Y
  have hvm : s'.vm = s.vm := by rw [hA']; rfl
  have hhp : s'.heap = H := by rw [hA']; exact hTh
  have hW0 : s.WarmedH s'.vm := by rw [hvm]; exact State.WarmedH.refl s
  have hat' : ∀ w ∈ wX, w.before args s' = true := fun w hw => vx_ot_at hW0 hvm.symm (thr_g w (List.mem_cons_of_mem _ (List.mem_cons_of_mem _ hw))) (hat w hw)
  have hk' : (Cond.classLink RX6 161 NSE).before args s' = true := vx_ot_at hW0 hvm.symm (thr_g _ List.mem_cons_self) (hts _ ln_606)
  have hini' : (Cond.initialized NSE).before args s' = true := vx_ot_at hW0 hvm.symm (thr_g _ (List.mem_cons_of_mem _ List.mem_cons_self)) (hts _ ln_73)
  have hU' : vx_Zq Bundle.tN "UNASSIGNED_STACK" Bundle.steD A s' s'.heap := by rw [hhp]; exact vx_Zq.moved hW0.alike (hT.2.2.2.2.2.1.kept hS.2.1)
  have hN' : vx_Zq Bundle.tN "SUPPRESSED_SENTINEL" Bundle.listD A s' s'.heap := by rw [hhp]; exact vx_Zq.moved hW0.alike (hT.2.2.2.2.2.2.kept hS.2.1)
  have h : ∀ w ∈ atX RX6 165 NSE RTE 13 prog_17_method_4_code [EXC], w.before args s' = true := vx_own hat' (vx_isRefq hU'.1) (vx_isRefq hN'.1) hU'.2.word hN'.2.word
  have hown' : s'.vm.findClass RX6 = some m.cls := by rw [hvm]; exact hown
  have hins : (Cond.instantiable NSE 6).before args s' = true := h _ (by simp [atX])
  obtain ⟨vm₁, cX, kX, hfX, hkX, -, -, X₁, st1⟩ := Y.newCold hx (own := RX6) (C := NSE) (index := 161) (n := 6) hown' hk' hins hini'
    (g := F0 m pc ls []) rfl (by rw [hb]; exact d0) (Nat.le_refl _) (Nat.le_refl _)
  generalize hT1 : (T.setVm vm₁).pushCell { cls := cX, slots := kX.instanceTypes.map defaultValue, vm := .none } = T1 at X₁ st1
  have hcat : (Value.ref T.heap.size).category = 1 := rfl
  have hcellA : T1.heap[T.heap.size]? = some (freshCell cX kX) := by rw [← hT1]; exact State.heap_pushCell_size _ _
  have d3' : decode c.code (pc + 3) = .ok (.dup, 1) := by rw [hb]; exact d3
  have d4' : decode c.code (pc + 4) = .ok (.ldc is, 2) := by rw [hb]; exact d4
  have hstr' : vk_R RX6 is text a s' := vk_R.warm hW0 hstr
  obtain ⟨U, hsteps, hrun, hend, hW, hsame, ce, hce, hcv, hcl⟩ := ctorX X₁ hx htr (own := RX6) (cls := NSE) (sup := RTE) (r := [EXC]) (ic := 165) (ix := 13) (rx := prog_17_method_4_code) rx_0 rx_1 rx_2 rx_5 hown' (by decide +kernel) (by decide +kernel) (by decide +kernel) h hfX hkX hcellA (by rw [hhp, hTh]; exact Nat.le_refl _) (msg := .ref a) rfl
    (g := { method := m, pc := pc + 6, locals := ls, stack := .ref a :: .ref T.heap.size :: .ref T.heap.size :: [], locked := none }) rfl hsize rfl rfl (rest := []) rfl
    (by rw [hb]; exact d6) (by rw [hb]; exact d9) (fun x hx => (ht x hx).elim) (Nat.le_of_ble_eq_true rfl) (by simp only [List.map_cons, List.map_nil, List.sum_cons, List.sum_nil, hcat]; exact Nat.le_of_ble_eq_true rfl) hlocks
  obtain ⟨f1, f2⟩ := vx_frame hsame
  rw [hhp] at f1 f2
  have hWs : s.WarmedH U.vm := State.WarmedH.trans hW0 hW
  have hcl' : s.vm.findClass NSE = some ce.cls := by
    rw [hvm] at hcl
    exact hcl
  have hall : s.sameButNew ({ U with vm := s.vm } : State) locs 1 6 := by
    subst hA'
    obtain ⟨e1, e2⟩ := hsame
    rw [State.setFrames_setFrames] at e1
    have h2 : (T.setVm s.vm).sameButNew ({ U with vm := s.vm } : State) [] (0 + 1) (0 + 6) := ⟨e1, e2⟩
    have h3 := X.same.trans h2
    rw [List.append_nil] at h3
    exact h3.mono (Nat.le_refl 1) (Nat.le_refl 6)
  have hXC : vx_X (fun _ : Unit => no) (BXs cI cA D ad σ) A NSE s U := by
    refine ⟨(), hno, ⟨rfl, hP.kept (fun k x hx => f2 x.1 ((hP k x hx).lt) (fun z hz => nomatch hz)), va_K.moved hWs.alike hK⟩, Nat.le_trans hS.1 f1, fun q h1 h2 => ?_⟩
    rw [f2 q (Nat.lt_of_lt_of_le h1 hS.1) (fun z hz => nomatch hz)]
    exact hS.2.1 q h1 h2
  refine ⟨U, ?_, .threw T.heap.size, hrun, hend, Or.inr ⟨T.heap.size, rfl, NSE, ce, locs, hXC, hce, hcv, hcl', hWs, hall, hS.2.2⟩⟩
  refine st1 _ ?_
  show Steps p.tables e below (T1.setTop { method := m, pc := pc + 3, locals := ls, stack := .ref T.heap.size :: [], locked := none }) _
  jvm_step X₁.here [X₁.here.top, hx, d3', Value.category]
  exact X₁.ldcString hx (own := RX6) (text := text) (index := is) (a := a) hown' hstr'.1 hstr'.2
    (g := { method := m, pc := pc + 4, locals := ls, stack := .ref T.heap.size :: .ref T.heap.size :: [], locked := none }) rfl d4' _ hsteps
end THR
theorem ln_309 : Cond.methodLink RX6 69 yX6_hasShelf ∈ TB := tb_of 309 (by decide +kernel) (by decide +kernel)
theorem ln_311 : Cond.instanceMethod yX6_hasShelf ∈ TB := tb_of 311 (by decide +kernel) (by decide +kernel)
theorem ln_0 : Cond.selects RX6 yX6_hasShelf yX6_hasShelf ∈ TB := tb_of 0 (by decide +kernel) (by decide +kernel)
theorem si_RX6_69 : Site RX6 69 mX6_hasShelf 6 1 := ⟨ln_309, ln_311, ln_0, cw_X6_hasShelf, ⟨_, rfl⟩, ⟨_, rfl, rfl⟩, by decide⟩
set_option maxHeartbeats 4000000 in
set_option maxRecDepth 100000 in
theorem mt_on (l : Launch) (hl0 : l.stackTraces = false) (cI cA : ClassId) (D : va_G) {ad : Nat → Nat} {A : Nat → Prop} (hap : Ap ad A) (σ : St) (hrg : RgS σ) (h : RelS σ σ) (x y : Int32) (sz : Nat) :
    MetT l mX6_on [.inr 6, .inl x.toInt, .inl y.toInt] (0 ≤ x.toInt ∧ x.toInt < σ 5 2 ∧ 0 ≤ y.toInt ∧ y.toInt ≤ 7) (fun z τ => Wp mX7_on 4 (fun w υ => w = z ∧ υ 7 0 = 0 ∧ RelS υ υ) 0 [some (.inr 7), some (.inl x.toInt), some (.inl y.toInt)] [] τ) cI cA D ad σ sz := by
  by_cases hok : 0 ≤ x.toInt ∧ x.toInt < σ 5 2 ∧ 0 ≤ y.toInt ∧ y.toInt ≤ 7
  · exact MetT_ok l (by decide +kernel) (Nat.le_of_ble_eq_true rfl) hrg rfl (by decide) hok (bo_on σ x.toInt y.toInt (InR_of x) (InR_of y) h hok) cI cA D hap sz
  have hno := hok
  refine vx_ofW (cc := cX6_on) (maxL := 3) (ret := some .int) (by decide +kernel) rfl ?_
  intro p e s m args below meth c s₁ B hml ht hv
  obtain ⟨rfl, hsz, hP, hK, hT⟩ := hv
  subst hsz
  have hts := atoms_spec (ws := Cond.code mX6_on.1 mX6_on.2.1 mX6_on.2.2.1 mX6_on.2.2.2 :: TB) B.pre
  have hap2 := hap.self cI cA σ s.heap.size
  generalize hAe : va_A (Wd cI cA ad σ) s.heap.size = A1 at hT hap2 ⊢
  have hA : ∀ q : Nat, s.heap.size ≤ q → A1 q := fun q hq => by rw [← hAe]; exact Or.inr hq
  have hx := B.exec
  have hb := B.bytes
  have hC : LC p s m ((([.inr 6, .inl x.toInt, .inl y.toInt] : List PV).map (rv ad)).toArray) c cX6_on 3 RX6 cI cA D ad A1 := ⟨hx, hb, hml, findClass_of_methodNamed B.named, fun w hw => hts w (List.mem_cons_of_mem _ hw), hK, hA, hap2⟩
  have hS : va_S A1 s.heap s.heap [] := va_S.rf
  have hl := lv_entry ([.ref (ad 6), .int (Int32.ofInt x.toInt), .int (Int32.ofInt y.toInt)]) (n := 3) (Nat.le_of_ble_eq_true rfl)
  rw [lg_entry_eq]
  have hel : (([.inr 6, .inl x.toInt, .inl y.toInt] : List PV).map (rv ad)) = [.ref (ad 6), .int (Int32.ofInt x.toInt), .int (Int32.ofInt y.toInt)] := rfl
  rw [hel]
  generalize (lg_sl ([.ref (ad 6), .int (Int32.ofInt x.toInt), .int (Int32.ofInt y.toInt)]) ++ List.replicate (3 - (lg_sl ([.ref (ad 6), .int (Int32.ofInt x.toInt), .int (Int32.ofInt y.toInt)])).length) Slot.unset).toArray = ls at hl ⊢
  rw [Int32.ofInt_toInt, Int32.ofInt_toInt] at hl
  have hl : lv_has ls 3 [(0, .ref (ad 6)), (1, .int x), (2, .int y)] := hl
  refine lv_aload_n hx hb dX6_on_0 rfl (lv_at hl 0 rfl) ?_
  refine lv_iload_n hx hb dX6_on_1 rfl (lv_at hl 1 rfl) ?_
  refine L_c1 (M' := mX6_hasShelf) (k := 6) (d' := 0) hC hrg hP hS hl.1 dX6_on_2 si_RX6_69 rfl (Nat.le_of_ble_eq_true rfl) (Nat.le_of_ble_eq_true rfl) (Nat.zero_le _) ⟨Nat.zero_le _, Nat.zero_le _⟩ (ct_hasS σ x.toInt (InR_of x)) (fun z τ H1 locs1 hr1 h1 hP1 hS1 hz1 hk1 => ?_)
  obtain ⟨h1, rfl⟩ := h1
  refine lv_if_ne (tgt := 18) hx hb dX6_on_5 (by decide) (fun c5 => ?_) (fun c5 => ?_)
  · refine lv_iload_n hx hb dX6_on_18 rfl (lv_at hl 2 rfl) ?_
    have hin : 0 ≤ x.toInt ∧ x.toInt < τ 5 2 := by
      rcases h1 with h1 | h1
      · exact h1.2
      · exact absurd (by rw [h1.1]; rfl) c5
    refine lv_tableOut (tgt := 132) hx hb dX6_on_19 (by
      by_cases y0 : y.toInt < 0
      · exact Or.inl y0
      · by_cases y1 : 7 < y.toInt
        · exact Or.inr y1
        · exact absurd ⟨hin.1, hin.2, by omega, by omega⟩ hno) (by decide) ?_
    exact L_thr (text := "no such what") (is := 189) hno hC hl0 hT hT.2.2.1 hP1 hS1 (hl.1.trans hml.symm) B.notSynchronized ht dX6_on_132 dX6_on_135 dX6_on_136 dX6_on_138 dX6_on_141
  · exact L_thr (text := "no such shelf") (is := 163) hno hC hl0 hT hT.2.1 hP1 hS1 (hl.1.trans hml.symm) B.notSynchronized ht dX6_on_8 dX6_on_11 dX6_on_12 dX6_on_14 dX6_on_17
theorem ln_325 : Cond.methodLink RX6 81 yX6_hasGroup ∈ TB := tb_of 325 (by decide +kernel) (by decide +kernel)
theorem ln_327 : Cond.instanceMethod yX6_hasGroup ∈ TB := tb_of 327 (by decide +kernel) (by decide +kernel)
theorem ln_1 : Cond.selects RX6 yX6_hasGroup yX6_hasGroup ∈ TB := tb_of 1 (by decide +kernel) (by decide +kernel)
theorem si_RX6_81 : Site RX6 81 mX6_hasGroup 6 1 := ⟨ln_325, ln_327, ln_1, cw_X6_hasGroup, ⟨_, rfl⟩, ⟨_, rfl, rfl⟩, by decide⟩
set_option maxHeartbeats 4000000 in
set_option maxRecDepth 100000 in
theorem mt_in (l : Launch) (hl0 : l.stackTraces = false) (cI cA : ClassId) (D : va_G) {ad : Nat → Nat} {A : Nat → Prop} (hap : Ap ad A) (σ : St) (hrg : RgS σ) (h : RelS σ σ) (x y : Int32) (sz : Nat) :
    MetT l mX6_in [.inr 6, .inl x.toInt, .inl y.toInt] (0 ≤ x.toInt ∧ x.toInt < σ 2 1 ∧ 0 ≤ y.toInt ∧ y.toInt ≤ 4) (fun z τ => Wp mX7_in 2 (fun w υ => w = z ∧ υ 7 0 = 0 ∧ RelS υ υ) 0 [some (.inr 7), some (.inl x.toInt), some (.inl y.toInt)] [] τ) cI cA D ad σ sz := by
  by_cases hok : 0 ≤ x.toInt ∧ x.toInt < σ 2 1 ∧ 0 ≤ y.toInt ∧ y.toInt ≤ 4
  · exact MetT_ok l (by decide +kernel) (Nat.le_of_ble_eq_true rfl) hrg rfl (by decide) hok (bo_in σ x.toInt y.toInt (InR_of x) (InR_of y) h hok) cI cA D hap sz
  have hno := hok
  refine vx_ofW (cc := cX6_in) (maxL := 3) (ret := some .int) (by decide +kernel) rfl ?_
  intro p e s m args below meth c s₁ B hml ht hv
  obtain ⟨rfl, hsz, hP, hK, hT⟩ := hv
  subst hsz
  have hts := atoms_spec (ws := Cond.code mX6_in.1 mX6_in.2.1 mX6_in.2.2.1 mX6_in.2.2.2 :: TB) B.pre
  have hap2 := hap.self cI cA σ s.heap.size
  generalize hAe : va_A (Wd cI cA ad σ) s.heap.size = A1 at hT hap2 ⊢
  have hA : ∀ q : Nat, s.heap.size ≤ q → A1 q := fun q hq => by rw [← hAe]; exact Or.inr hq
  have hx := B.exec
  have hb := B.bytes
  have hC : LC p s m ((([.inr 6, .inl x.toInt, .inl y.toInt] : List PV).map (rv ad)).toArray) c cX6_in 3 RX6 cI cA D ad A1 := ⟨hx, hb, hml, findClass_of_methodNamed B.named, fun w hw => hts w (List.mem_cons_of_mem _ hw), hK, hA, hap2⟩
  have hS : va_S A1 s.heap s.heap [] := va_S.rf
  have hl := lv_entry ([.ref (ad 6), .int (Int32.ofInt x.toInt), .int (Int32.ofInt y.toInt)]) (n := 3) (Nat.le_of_ble_eq_true rfl)
  rw [lg_entry_eq]
  have hel : (([.inr 6, .inl x.toInt, .inl y.toInt] : List PV).map (rv ad)) = [.ref (ad 6), .int (Int32.ofInt x.toInt), .int (Int32.ofInt y.toInt)] := rfl
  rw [hel]
  generalize (lg_sl ([.ref (ad 6), .int (Int32.ofInt x.toInt), .int (Int32.ofInt y.toInt)]) ++ List.replicate (3 - (lg_sl ([.ref (ad 6), .int (Int32.ofInt x.toInt), .int (Int32.ofInt y.toInt)])).length) Slot.unset).toArray = ls at hl ⊢
  rw [Int32.ofInt_toInt, Int32.ofInt_toInt] at hl
  have hl : lv_has ls 3 [(0, .ref (ad 6)), (1, .int x), (2, .int y)] := hl
  refine lv_aload_n hx hb dX6_in_0 rfl (lv_at hl 0 rfl) ?_
  refine lv_iload_n hx hb dX6_in_1 rfl (lv_at hl 1 rfl) ?_
  refine L_c1 (M' := mX6_hasGroup) (k := 6) (d' := 0) hC hrg hP hS hl.1 dX6_in_2 si_RX6_81 rfl (Nat.le_of_ble_eq_true rfl) (Nat.le_of_ble_eq_true rfl) (Nat.zero_le _) ⟨Nat.zero_le _, Nat.zero_le _⟩ (ct_hasG σ x.toInt (InR_of x)) (fun z τ H1 locs1 hr1 h1 hP1 hS1 hz1 hk1 => ?_)
  obtain ⟨h1, rfl⟩ := h1
  refine lv_if_ne (tgt := 18) hx hb dX6_in_5 (by decide) (fun c5 => ?_) (fun c5 => ?_)
  · refine lv_iload_n hx hb dX6_in_18 rfl (lv_at hl 2 rfl) ?_
    have hin : 0 ≤ x.toInt ∧ x.toInt < τ 2 1 := by
      rcases h1 with h1 | h1
      · exact h1.2
      · exact absurd (by rw [h1.1]; rfl) c5
    refine lv_tableOut (tgt := 98) hx hb dX6_in_19 (by
      by_cases y0 : y.toInt < 0
      · exact Or.inl y0
      · by_cases y1 : 4 < y.toInt
        · exact Or.inr y1
        · exact absurd ⟨hin.1, hin.2, by omega, by omega⟩ hno) (by decide) ?_
    exact L_thr (text := "no such what") (is := 189) hno hC hl0 hT hT.2.2.1 hP1 hS1 (hl.1.trans hml.symm) B.notSynchronized ht dX6_in_98 dX6_in_101 dX6_in_102 dX6_in_104 dX6_in_107
  · exact L_thr (text := "no such group") (is := 191) hno hC hl0 hT hT.2.2.2.1 hP1 hS1 (hl.1.trans hml.symm) B.notSynchronized ht dX6_in_8 dX6_in_11 dX6_in_12 dX6_in_14 dX6_in_17
theorem ln_436 : Cond.methodLink RX6 123 yX6_hasBook ∈ TB := tb_of 436 (by decide +kernel) (by decide +kernel)
theorem ln_438 : Cond.instanceMethod yX6_hasBook ∈ TB := tb_of 438 (by decide +kernel) (by decide +kernel)
theorem ln_11 : Cond.selects RX6 yX6_hasBook yX6_hasBook ∈ TB := tb_of 11 (by decide +kernel) (by decide +kernel)
theorem si_RX6_123 : Site RX6 123 mX6_hasBook 6 1 := ⟨ln_436, ln_438, ln_11, cw_X6_hasBook, ⟨_, rfl⟩, ⟨_, rfl, rfl⟩, by decide⟩
set_option maxHeartbeats 4000000 in
set_option maxRecDepth 100000 in
theorem mt_of (l : Launch) (hl0 : l.stackTraces = false) (cI cA : ClassId) (D : va_G) {ad : Nat → Nat} {A : Nat → Prop} (hap : Ap ad A) (σ : St) (hrg : RgS σ) (h : RelS σ σ) (x y : Int32) (sz : Nat) :
    MetT l mX6_of [.inr 6, .inl x.toInt, .inl y.toInt] (0 ≤ x.toInt ∧ x.toInt < σ 0 6 ∧ 0 ≤ y.toInt ∧ y.toInt ≤ 6) (fun z τ => Wp mX7_of 3 (fun w υ => w = z ∧ υ 7 0 = 0 ∧ RelS υ υ) 0 [some (.inr 7), some (.inl x.toInt), some (.inl y.toInt)] [] τ) cI cA D ad σ sz := by
  by_cases hok : 0 ≤ x.toInt ∧ x.toInt < σ 0 6 ∧ 0 ≤ y.toInt ∧ y.toInt ≤ 6
  · exact MetT_ok l (by decide +kernel) (Nat.le_of_ble_eq_true rfl) hrg rfl (by decide) hok (bo_of σ x.toInt y.toInt (InR_of x) (InR_of y) h hok) cI cA D hap sz
  have hno := hok
  refine vx_ofW (cc := cX6_of) (maxL := 3) (ret := some .int) (by decide +kernel) rfl ?_
  intro p e s m args below meth c s₁ B hml ht hv
  obtain ⟨rfl, hsz, hP, hK, hT⟩ := hv
  subst hsz
  have hts := atoms_spec (ws := Cond.code mX6_of.1 mX6_of.2.1 mX6_of.2.2.1 mX6_of.2.2.2 :: TB) B.pre
  have hap2 := hap.self cI cA σ s.heap.size
  generalize hAe : va_A (Wd cI cA ad σ) s.heap.size = A1 at hT hap2 ⊢
  have hA : ∀ q : Nat, s.heap.size ≤ q → A1 q := fun q hq => by rw [← hAe]; exact Or.inr hq
  have hx := B.exec
  have hb := B.bytes
  have hC : LC p s m ((([.inr 6, .inl x.toInt, .inl y.toInt] : List PV).map (rv ad)).toArray) c cX6_of 3 RX6 cI cA D ad A1 := ⟨hx, hb, hml, findClass_of_methodNamed B.named, fun w hw => hts w (List.mem_cons_of_mem _ hw), hK, hA, hap2⟩
  have hS : va_S A1 s.heap s.heap [] := va_S.rf
  have hl := lv_entry ([.ref (ad 6), .int (Int32.ofInt x.toInt), .int (Int32.ofInt y.toInt)]) (n := 3) (Nat.le_of_ble_eq_true rfl)
  rw [lg_entry_eq]
  have hel : (([.inr 6, .inl x.toInt, .inl y.toInt] : List PV).map (rv ad)) = [.ref (ad 6), .int (Int32.ofInt x.toInt), .int (Int32.ofInt y.toInt)] := rfl
  rw [hel]
  generalize (lg_sl ([.ref (ad 6), .int (Int32.ofInt x.toInt), .int (Int32.ofInt y.toInt)]) ++ List.replicate (3 - (lg_sl ([.ref (ad 6), .int (Int32.ofInt x.toInt), .int (Int32.ofInt y.toInt)])).length) Slot.unset).toArray = ls at hl ⊢
  rw [Int32.ofInt_toInt, Int32.ofInt_toInt] at hl
  have hl : lv_has ls 3 [(0, .ref (ad 6)), (1, .int x), (2, .int y)] := hl
  refine lv_aload_n hx hb dX6_of_0 rfl (lv_at hl 0 rfl) ?_
  refine lv_iload_n hx hb dX6_of_1 rfl (lv_at hl 1 rfl) ?_
  refine L_c1 (M' := mX6_hasBook) (k := 6) (d' := 0) hC hrg hP hS hl.1 dX6_of_2 si_RX6_123 rfl (Nat.le_of_ble_eq_true rfl) (Nat.le_of_ble_eq_true rfl) (Nat.zero_le _) ⟨Nat.zero_le _, Nat.zero_le _⟩ (ct_hasB σ x.toInt (InR_of x)) (fun z τ H1 locs1 hr1 h1 hP1 hS1 hz1 hk1 => ?_)
  obtain ⟨h1, rfl⟩ := h1
  refine lv_if_ne (tgt := 18) hx hb dX6_of_5 (by decide) (fun c5 => ?_) (fun c5 => ?_)
  · refine lv_iload_n hx hb dX6_of_18 rfl (lv_at hl 2 rfl) ?_
    have hin : 0 ≤ x.toInt ∧ x.toInt < τ 0 6 := by
      rcases h1 with h1 | h1
      · exact h1.2
      · exact absurd (by rw [h1.1]; rfl) c5
    refine lv_tableOut (tgt := 143) hx hb dX6_of_19 (by
      by_cases y0 : y.toInt < 0
      · exact Or.inl y0
      · by_cases y1 : 6 < y.toInt
        · exact Or.inr y1
        · exact absurd ⟨hin.1, hin.2, by omega, by omega⟩ hno) (by decide) ?_
    exact L_thr (text := "no such what") (is := 189) hno hC hl0 hT hT.2.2.1 hP1 hS1 (hl.1.trans hml.symm) B.notSynchronized ht dX6_of_143 dX6_of_146 dX6_of_147 dX6_of_149 dX6_of_152
  · exact L_thr (text := "no such book") (is := 205) hno hC hl0 hT hT.2.2.2.2.1 hP1 hS1 (hl.1.trans hml.symm) B.notSynchronized ht dX6_of_8 dX6_of_11 dX6_of_12 dX6_of_14 dX6_of_17
