/-! THE CLAIM OUT OF ONE WALK OF THE LAW'S BODY. Your part is whole_start (and what it stands on); all else here is the same for every law, but numbers. -/
def R_law : String := "ShelfShiftLaw"
def lw_P (b : Addr) (xs : List Int32) (args : Array Value) (s : State) : Prop := args = #[.ref b] ∧ s.IntsAt b xs ∧ xs.length ≤ 1536 ∧ (Jvm.Cond.and given_1 narrow_1).before args s = true
def lw_Q (_ : Array Value) (s : State) (o : Outcome) (t : State) : Prop := o = .returned (some (.int 1)) ∧ Framed s o t [] 601024 7293033
def lw_Z (below : List Frame) (a : Array Value) (s : State) : State → Prop := fun t => ∃ o, t.status = .running ∧ Ended t below o ∧ lw_Q a s o t
/-- the law's own end, with 1 on the stack, nothing written that was there before, its room as the claim has it -/
theorem lw_ret {p : Program} {l : Launch} {e : Env} {s : State} {m : MethodId} {below : List Frame} {meth : Method} {c : Code} {b : Nat} (hx : p.tables.exec = Jvm.exec) (hb : c.code = code) (hr : meth.sig.returnType = ret) (hlocks : meth.locks = false) {pc : Nat} {H : Heap} {ls : Array Slot} (hdg : decode code pc = .ok (.ireturn, 1)) : W p l e room_1 s m #[Value.ref b] below meth c H [] 601024 7293033 (lw_Z below #[Value.ref b] s) (F0 m pc ls [.int 1]) := by
  intro T hT X
  obtain ⟨fs, hret, hrun, hended, hW, hframe⟩ := X.leave (v := some (.int 1)) (hlocks := hlocks) (fun h => by rw [hr] at h; cases h)
  have hmeth' : T.vm.method? m = some meth := X.method'
  refine ⟨T.setFrames fs, ?_, .returned (some (.int 1)), hrun, hended, rfl, ⟨_, rfl⟩, hW, hframe⟩
  jvm_step X.here [X.here.top, hx, hb, hdg, hmeth', hr, ret, narrow_b1]
  (try refine ⟨rfl, ?_⟩); (try refine ⟨rfl, ?_⟩)
  first | (intro acts; rw [hret _ acts rfl rfl rfl]) | rw [hret _ _ rfl rfl rfl]
  exact Steps.refl _
/-- what holds at the law's entry: the machine, the code, the tables' words (any of lw_tbl by 'hts w (by decide +kernel)'), the script of L ints xs at the cell b, what the Statement gives of the start (any of its parts by flat_of_before) -/
def lw_At (p : Program) (s : State) (m : MethodId) (meth : Method) (c : Code) (b L : Nat) (xs : Nat → Int32) : Prop :=
  p.tables.exec = Jvm.exec ∧ c.code = code ∧ meth.sig.returnType = ret ∧ c.maxLocals = 7 ∧ s.vm.findClass R_law = some m.cls ∧ (∀ w ∈ lw_tbl, w.before #[Value.ref b] s = true) ∧ va_X b L xs s s.heap ∧ b < s.heap.size ∧ meth.locks = false ∧ (Jvm.Cond.and given_1 narrow_1).before #[Value.ref b] s = true
theorem ln_121 : Cond.instantiable RX0 8 ∈ TB := tb_of 121 (by decide +kernel) (by decide +kernel)
theorem ln_166 : Cond.instantiable RX1 12 ∈ TB := tb_of 166 (by decide +kernel) (by decide +kernel)
theorem ln_106 : Cond.instantiable RX2 2 ∈ TB := tb_of 106 (by decide +kernel) (by decide +kernel)
theorem ln_252 : Cond.instantiable RX3 3 ∈ TB := tb_of 252 (by decide +kernel) (by decide +kernel)
theorem ln_213 : Cond.instantiable RX4 8 ∈ TB := tb_of 213 (by decide +kernel) (by decide +kernel)
theorem ln_83 : Cond.instantiable RX5 3 ∈ TB := tb_of 83 (by decide +kernel) (by decide +kernel)
theorem ln_75 : Cond.instantiable RX6 7 ∈ TB := tb_of 75 (by decide +kernel) (by decide +kernel)
theorem ln_715 : Cond.instantiable RX7 29 ∈ TB := tb_of 715 (by decide +kernel) (by decide +kernel)
theorem ln_74 : Cond.classLink RL 8 RX6 ∈ TB := tb_of 74 (by decide +kernel) (by decide +kernel)
theorem ln_714 : Cond.classLink RL 22 RX7 ∈ TB := tb_of 714 (by decide +kernel) (by decide +kernel)
theorem ln_60 : Cond.initialized RX6 ∈ TB := tb_of 60 (by decide +kernel) (by decide +kernel)
theorem ln_67 : Cond.initialized RX7 ∈ TB := tb_of 67 (by decide +kernel) (by decide +kernel)
theorem ln_76 : Cond.methodLink RL 21 yX6_init ∈ TB := tb_of 76 (by decide +kernel) (by decide +kernel)
theorem ln_716 : Cond.methodLink RL 24 yX7_init ∈ TB := tb_of 716 (by decide +kernel) (by decide +kernel)
theorem ln_77 : Cond.instanceMethod yX6_init ∈ TB := tb_of 77 (by decide +kernel) (by decide +kernel)
theorem ln_717 : Cond.instanceMethod yX7_init ∈ TB := tb_of 717 (by decide +kernel) (by decide +kernel)
theorem ln_78 : Cond.code yX6_init cX6_init 1 (none) ∈ TB := tb_of 78 (by decide +kernel) (by decide +kernel)
theorem ln_718 : Cond.code yX7_init cX7_init 1 (none) ∈ TB := tb_of 718 (by decide +kernel) (by decide +kernel)
theorem ln_104 : Cond.arrayClass .int ∈ TB := tb_of 104 (by decide +kernel) (by decide +kernel)
theorem ln_1072 : Cond.arrayClass .long ∈ TB := tb_of 1072 (by decide +kernel) (by decide +kernel)
theorem lt_172 : Cond.arrayOver (.array .int) ∈ lw_tbl := List.mem_of_getElem? (i := 172) (by decide +kernel)
theorem lt_84 : Cond.methodLinkNest RX6 9 yX5_init RX6 ∈ lw_tbl := List.mem_of_getElem? (i := 84) (by decide +kernel)
theorem lt_107 : Cond.methodLinkNest RX6 18 yX2_init RX6 ∈ lw_tbl := List.mem_of_getElem? (i := 107) (by decide +kernel)
theorem lt_122 : Cond.methodLinkNest RX6 25 yX0_init RX6 ∈ lw_tbl := List.mem_of_getElem? (i := 122) (by decide +kernel)
theorem lt_167 : Cond.methodLinkNest RX6 32 yX1_init RX6 ∈ lw_tbl := List.mem_of_getElem? (i := 167) (by decide +kernel)
theorem lt_214 : Cond.methodLinkNest RX6 39 yX4_init RX6 ∈ lw_tbl := List.mem_of_getElem? (i := 214) (by decide +kernel)
theorem lt_253 : Cond.methodLinkNest RX6 46 yX3_init RX6 ∈ lw_tbl := List.mem_of_getElem? (i := 253) (by decide +kernel)
theorem lt_608 : Cond.castable NSE NSE ∈ lw_tbl := List.mem_of_getElem? (i := 608) (by decide +kernel)
theorem lt_610 : Cond.declares (Bundle.initS RTE) ∈ lw_tbl := List.mem_of_getElem? (i := 610) (by decide +kernel)
theorem lt_612 : Cond.declares (Bundle.initS EXC) ∈ lw_tbl := List.mem_of_getElem? (i := 612) (by decide +kernel)
theorem lt_614 : Cond.declares (Bundle.initS Bundle.tN) ∈ lw_tbl := List.mem_of_getElem? (i := 614) (by decide +kernel)
theorem lt_645 : Cond.stringRef RX6 163 "no such shelf" ∈ lw_tbl := List.mem_of_getElem? (i := 645) (by decide +kernel)
theorem lt_680 : Cond.stringRef RX6 189 "no such what" ∈ lw_tbl := List.mem_of_getElem? (i := 680) (by decide +kernel)
theorem lt_688 : Cond.stringRef RX6 191 "no such group" ∈ lw_tbl := List.mem_of_getElem? (i := 688) (by decide +kernel)
theorem lt_709 : Cond.stringRef RX6 205 "no such book" ∈ lw_tbl := List.mem_of_getElem? (i := 709) (by decide +kernel)
theorem lt_633 : Cond.laysStatic Bundle.tN "UNASSIGNED_STACK" Bundle.steD ∈ lw_tbl := List.mem_of_getElem? (i := 633) (by decide +kernel)
theorem lt_635 : Cond.laysStatic Bundle.tN "SUPPRESSED_SENTINEL" Bundle.listD ∈ lw_tbl := List.mem_of_getElem? (i := 635) (by decide +kernel)
theorem lt_70 : Cond.initialized Bundle.tN ∈ lw_tbl := List.mem_of_getElem? (i := 70) (by decide +kernel)
theorem arr_K {args : Array Value} {s : State} {ty : FieldType} (hno : ∀ C, ty ≠ .object C) (h : (Cond.arrayClass ty).before args s = true) : ∃ cA : ClassId, ArrOfT s cA ty ∧ va_RA s cA ty := by
  obtain ⟨c, k, comp, h1, h2, h3⟩ := Cond.arrayClass_spec h
  refine ⟨c, fun n z => ⟨fun q hq => (by cases hq), k, h2, comp, h3⟩, ?_⟩
  cases ty with
  | object C => exact absurd rfl (hno C)
  | _ => exact h1
theorem over_K {args : Array Value} {s : State} {ty : FieldType} (h : (Cond.arrayOver (.array ty)).before args s = true) : ∃ cA : ClassId, ArrOfT s cA (.array ty) ∧ va_RA s cA (.array ty) := by
  obtain ⟨comp, c, k, h1, -, h2, h3, h4⟩ := arrayOverA_spec h
  exact ⟨c, fun n z => ⟨fun q hq => (by cases hq), k, h2, comp, h3⟩, h4⟩
theorem str_R {own tx : String} {k : Nat} {A : Array Value} {U : State} {cO : ClassId} (hown : U.vm.findClass own = some cO) (h : (Cond.stringRef own k tx).before A U = true) : ∃ a, vk_R own k tx a U := by
  obtain ⟨-, -, -, a, -, -, -, -, -, ha⟩ := Cond.stringRef_spec hown h
  exact ⟨a, vk_R.of h ha⟩
section LAWS
variable {p : Program} {e : Env} {s : State} {m : MethodId} {below : List Frame} {meth : Method} {c : Code}
/-- the loop -/
theorem law_loop (l : Launch) (hl0 : l.stackTraces = false) {b L : Nat} {xs : Nat → Int32} (hL : L ≤ 1536) (hr : meth.sig.returnType = ret) (hlocks : meth.locks = false) {cI cA cL : ClassId} {D : va_G} {ad : Nat → Nat} {qo : Nat}
    (hF : ∀ cells slots : Nat, cells ≤ 1000 → slots ≤ 10000 → LF p room_1 s m #[Value.ref b] c cI cA cL D ad (fun q : Nat => s.heap.size ≤ q) qo b L xs cells slots) :
    ∀ (n j : Nat), n + j = 514 → 3 * j ≤ L + 2 → ∀ (σ : St) (v : Nat → Int64) (H : Heap) (locs : List Loc) (ls : Array Slot), LG s cI cA cL D ad (fun q : Nat => s.heap.size ≤ q) qo b (nI (3 * j)) σ v H locs ls →
      W p l e room_1 s m #[Value.ref b] below meth c H locs (80 + j) (4600 + 6 * j) (lw_Z below #[Value.ref b] s) (F0 m 23 ls []) := by
  intro n
  induction n with
  | zero => intro j hj h3; omega
  | succ n ih =>
    intro j hj h3 σ v H locs ls hG
    have hF1 := hF (80 + j) (4600 + 6 * j) (by omega) (by omega)
    obtain ⟨hc, hX, hbl, hbA, hqo, hAq, hKL, hT, hR, hcs⟩ := id hF1
    obtain ⟨hx, hb, hml, hown, hts, hK, hA, hap⟩ := id hc
    obtain ⟨hrg, hrel, hP, hPo, hS, hl⟩ := id hG
    have ej : (nI (3 * j)).toInt = ((3 * j : Nat) : Int) := nI_toInt (by omega)
    refine lv_iload hx hb dL_law_23 (lv_at hl 4 rfl) ?_
    refine lv_aload_n hx hb dL_law_25 rfl (lv_at hl 0 rfl) ?_
    refine va_slen hx hb hX hbl hbA hS dL_law_26 ?_
    refine lv_iconst (v := 3) hx hb dL_law_27 (by decide) ?_
    refine lv_isub hx hb dL_law_28 ?_
    refine lv_icmp_gt (tgt := 976) hx hb dL_law_29 (by decide) (fun _ => ?_) (fun c9 => ?_)
    · refine lv_iconst (v := 1) hx hb dL_law_976 (by decide) ?_
      refine va_forget hS.2.2 ?_
      refine W.widen (k := 601024) (n := 7293033) (by omega) (by omega) ?_
      exact lw_ret hx hb hr hlocks dL_law_977
    · have hlt : 3 * j + 2 < L := by
        rw [Int32.lt_iff_toInt_lt, nI3 hL, ej] at c9
        omega
      have i0 : vp_in (nI (3 * j)) L := vp_in_nI (by omega) (by omega)
      have i1 : vp_in (nI (3 * j) + 1) L := by rw [nI_1]; exact vp_in_nI (by omega) (by omega)
      have i2 : vp_in (nI (3 * j) + 2) L := by
        rw [show (2 : Int32) = nI 2 from rfl, nI_add]
        exact vp_in_nI (by omega) (by omega)
      refine L_step hl0 hF1 hG i0 i1 i2 (fun τ w H1 locs1 ls1 hG1 => ?_)
      obtain ⟨hrg1, hrel1, hP1, hPo1, hS1, hl1⟩ := hG1
      have en : nI (3 * j) + 3 = nI (3 * (j + 1)) := by
        rw [show (3 : Int32) = nI 3 from rfl, nI_add, show 3 * j + 3 = 3 * (j + 1) by omega]
      refine lv_iinc (v := nI (3 * (j + 1))) (lv' := [(4, .int (nI (3 * (j + 1)))), (0, .ref b), (1, .ref (ad 6)), (2, .ref (ad 7)), (3, .ref qo)]) hx hb dL_law_970 hl1 (k := 4) rfl (by rw [← en]; rfl) (by decide) rfl (fun ls2 hl2 => ?_)
      refine lv_goto (tgt := 23) hx hb dL_law_973 (by decide) ?_
      have := ih (j + 1) (by omega) (by omega) τ w H1 locs1 ls2 ⟨hrg1, hrel1, hP1, hPo1, hS1, lv_sub hl2 [1, 2, 3, 4, 0] rfl⟩
      rw [show 80 + j + 1 = 80 + (j + 1) by omega, show 4600 + 6 * j + 6 = 4600 + 6 * (j + 1) by omega]
      exact this
set_option maxHeartbeats 4000000 in
set_option maxRecDepth 100000 in
/-- THE LAW, from its entry -/
theorem whole_start (l : Launch) (hflags : l.flags = flags0) {b L : Nat} {xs : Nat → Int32} (hL : L ≤ 1536) (C0 : lw_At p s m meth c b L xs) : W p l e room_1 s m #[Value.ref b] below meth c s.heap [] 0 0 (lw_Z below #[Value.ref b] s) (entryFrame m ([Value.ref b] : List Value).toArray 7) := by
  have hl0 : l.stackTraces = false := by
    unfold Launch.stackTraces
    rw [hflags]
    decide +kernel
  obtain ⟨hx, hb, hr, hml, hown, hall, hX, hbl, hlocks, hgv⟩ := id C0
  have hown : s.vm.findClass RL = some m.cls := hown
  have hts : ∀ w ∈ TB, w.before #[Value.ref b] s = true := fun w hw => hall w (List.mem_filter.mp hw).1
  have hflat := flat_of_before _ hgv
  obtain ⟨A, hAe⟩ : ∃ A : Nat → Prop, A = fun q : Nat => s.heap.size ≤ q := ⟨_, rfl⟩
  have hA : ∀ q : Nat, s.heap.size ≤ q → A q := fun q h => by rw [hAe]; exact h
  have hbA : ¬ A b := by rw [hAe]; exact Nat.not_le.mpr hbl
  have hnA : ∀ a : Nat, a < s.heap.size → ¬ A a := fun a h => by rw [hAe]; exact Nat.not_le.mpr h
  obtain ⟨c0, iS0, hKn0⟩ := u_known (C := RX0) (T := TX0) (N := 8) (n := 8) hts inTB0 (hts _ ln_121)
  obtain ⟨c1, iS1, hKn1⟩ := u_known (C := RX1) (T := TX1) (N := 12) (n := 12) hts inTB1 (hts _ ln_166)
  obtain ⟨c2, iS2, hKn2⟩ := u_known (C := RX2) (T := TX2) (N := 2) (n := 2) hts inTB2 (hts _ ln_106)
  obtain ⟨c3, iS3, hKn3⟩ := u_known (C := RX3) (T := TX3) (N := 3) (n := 3) hts inTB3 (hts _ ln_252)
  obtain ⟨c4, iS4, hKn4⟩ := u_known (C := RX4) (T := TX4) (N := 8) (n := 8) hts inTB4 (hts _ ln_213)
  obtain ⟨c5, iS5, hKn5⟩ := u_known (C := RX5) (T := TX5) (N := 3) (n := 3) hts inTB5 (hts _ ln_83)
  obtain ⟨c6, iS6, hKn6⟩ := u_known (C := RX6) (T := TX6) (N := 7) (n := 7) hts inTB6 (hts _ ln_75)
  obtain ⟨c7, iS7, hKn7⟩ := u_known (C := RX7) (T := TX7) (N := 29) (n := 29) hts inTB7 (hts _ ln_715)
  obtain ⟨D, hKc⟩ : ∃ D : va_G, ∀ (k : Nat) (q : vw_C), vwCl[k]? = some q → u_Kn s q.1 q.2.1 q.2.2 (D.1 k) (D.2 k) := by
    refine ⟨(fun k => if k = 0 then c0 else if k = 1 then c1 else if k = 2 then c2 else if k = 3 then c3 else if k = 4 then c4 else if k = 5 then c5 else if k = 6 then c6 else c7, fun k => if k = 0 then iS0 else if k = 1 then iS1 else if k = 2 then iS2 else if k = 3 then iS3 else if k = 4 then iS4 else if k = 5 then iS5 else if k = 6 then iS6 else iS7), ?_⟩
    intro k q hq
    match k, hq with
    | 0, hq => cases hq; exact hKn0
    | 1, hq => cases hq; exact hKn1
    | 2, hq => cases hq; exact hKn2
    | 3, hq => cases hq; exact hKn3
    | 4, hq => cases hq; exact hKn4
    | 5, hq => cases hq; exact hKn5
    | 6, hq => cases hq; exact hKn6
    | 7, hq => cases hq; exact hKn7
    | k + 8, hq => simp [vwCl] at hq
  obtain ⟨cI, hI1, hI2⟩ := arr_K (ty := .int) (fun C h => by cases h) (hts _ ln_104)
  obtain ⟨cA, hA1, hA2⟩ := over_K (ty := .int) (hall _ lt_172)
  have hK : va_K D vwCl (tyL cI cA) s := ⟨hKc, fun k q hq => by
    match k, hq with
    | 0, hq => cases hq; exact ⟨hI1, hI2⟩
    | 1, hq => cases hq; exact ⟨hA1, hA2⟩
    | k + 2, hq => simp [tyL] at hq⟩
  have hNest : NestOK s := ⟨va_Nw.of rfl (hall _ lt_84), va_Nw.of rfl (hall _ lt_107), va_Nw.of rfl (hall _ lt_122), va_Nw.of rfl (hall _ lt_167), va_Nw.of rfl (hall _ lt_214), va_Nw.of rfl (hall _ lt_253), va_AOA.of (hall _ lt_172)⟩
  have hThr : ThrOK A s s.heap := ⟨⟨va_Nw.of rfl (hall _ lt_608), va_Nw.of rfl (hall _ lt_610), va_Nw.of rfl (hall _ lt_612), va_Nw.of rfl (hall _ lt_614)⟩, str_R hKn6.2.1 (hall _ lt_645), str_R hKn6.2.1 (hall _ lt_680), str_R hKn6.2.1 (hall _ lt_688), str_R hKn6.2.1 (hall _ lt_709), vx_Zqof (hall _ lt_633) (hall _ lt_70) (hflat _ (by decide +kernel)) hnA, vx_Zqof (hall _ lt_635) (hall _ lt_70) (hflat _ (by decide +kernel)) hnA⟩
  have hS : va_S A s.heap s.heap [] := va_S.rf
  have hP : va_P D vwCl [] s.heap := fun k q h => by simp at h
  have hD : va_D A [] := ⟨fun i j p q h => by simp at h, fun k q h => by simp at h⟩
  have hl := lv_entry ([.ref b]) (n := 7) (Nat.le_of_ble_eq_true rfl)
  rw [lg_entry_eq]
  generalize (lg_sl ([.ref b]) ++ List.replicate (7 - (lg_sl ([.ref b])).length) Slot.unset).toArray = ls at hl ⊢
  have hl : lv_has ls 7 [(0, .ref b)] := hl
  refine va_new (ci := 6) (fs := [.null, .null, .null, .null, .null, .null, .int 0]) (C := RX6) (T := TX6) (N := 7) hx hb hts inTB6 tyX6 tyX6_ok hown (hts _ ln_74) (hts _ ln_75) (hts _ ln_60) hK hP hD hS hA rfl (fun j hj => by rcases (show j = 0 ∨ j = 1 ∨ j = 2 ∨ j = 3 ∨ j = 4 ∨ j = 5 ∨ j = 6 by omega) with rfl | rfl | rfl | rfl | rfl | rfl | rfl <;> rfl) (Nat.le_of_ble_eq_true rfl) (Nat.le_of_ble_eq_true rfl) dL_law_0 (fun h0 H hP hD hS => ?_)
  have hP : va_P D vwCl (wdX0 h0) H := hP
  have hD : va_D A (wdX0 h0) := hD
  refine W.widen (k := 1) (n := 7) (Nat.le_of_ble_eq_true rfl) (Nat.le_of_ble_eq_true rfl) ?_
  refine lv_dup hx hb dL_law_3 rfl ?_
  have hFc := va_free (wc := wdX0 h0) hD hS hA [0] rfl
  refine va_callv (va_runI (As := []) (rest := [.ref h0]) ⟨hx, hb, hml, hown, hts⟩ (c_X6_init l cI cA D h0 H.size) (cwI 0 hts (in_GI ln_78) rfl rfl rfl (hts _ ln_60) (hts _ ln_76) (hts _ ln_77) rfl (by decide +kernel) ⟨Nat.le_of_ble_eq_true rfl, Nat.le_of_ble_eq_true rfl⟩) ⟨fun a U g mk q => by obtain ⟨q0, q1, qP, qK, qD, qN⟩ := q; exact ⟨q0, q1, qP, va_K.moved (u := U) (U := U.calling g mk a) (Vm.Alike.refl U.vm) qK, qD, NestOK.same (s := U) (U := U.calling g mk a) rfl qN⟩, fun U hU hW => ⟨rfl, by rw [hU], by rw [hU]; exact hP, va_K.moved hW.alike hK, hD.weaken (fun _ _ _ _ => trivial), hNest.warm hW⟩⟩ rfl rfl hl.1 rfl (lv_room (Nat.le_of_ble_eq_true rfl)) dL_law_4 ⟨Nat.le_of_ble_eq_true rfl, Nat.le_of_ble_eq_true rfl⟩) hS (fun q _ h => hFc q h) hFc (fun u t H1 locs ht hvm _ hB hz1 hk1 hS => ?_)
  obtain ⟨hP1, hK1, hD1⟩ := hB
  rw [ht] at hP1
  obtain ⟨hP, hD⟩ := va_join (wr := []) (w1 := wdX cI cA h0 u) hP hD [0] [] rfl rfl (by decide) (by decide) hk1 hFc hP1 hD1
  generalize H1 = H at hP hS ⊢
  have hP : va_P D vwCl (wdX cI cA h0 u) H := hP
  have hD : va_D A (wdX cI cA h0 u) := hD
  refine W.widen (k := 56) (n := 2761) (Nat.le_of_ble_eq_true rfl) (Nat.le_of_ble_eq_true rfl) ?_
  refine lv_astore_n (lv' := [(1, .ref h0), (0, .ref b)]) hx hb dL_law_7 rfl hl (by decide) rfl (fun ls hl => ?_)
  refine va_new (ci := 7) (fs := [.int 0, .int 0, .null, .null, .int 0, .null, .int 0, .null, .null, .null, .null, .int 0, .int 0, .null, .int 0, .null, .null, .null, .null, .null, .null, .int 0, .int 0, .int 0, .int 0, .null, .null, .null, .null]) (C := RX7) (T := TX7) (N := 29) hx hb hts inTB7 tyX7 tyX7_ok hown (hts _ ln_714) (hts _ ln_715) (hts _ ln_67) hK hP hD hS hA rfl (fun j hj => by rcases (show j = 0 ∨ j = 1 ∨ j = 2 ∨ j = 3 ∨ j = 4 ∨ j = 5 ∨ j = 6 ∨ j = 7 ∨ j = 8 ∨ j = 9 ∨ j = 10 ∨ j = 11 ∨ j = 12 ∨ j = 13 ∨ j = 14 ∨ j = 15 ∨ j = 16 ∨ j = 17 ∨ j = 18 ∨ j = 19 ∨ j = 20 ∨ j = 21 ∨ j = 22 ∨ j = 23 ∨ j = 24 ∨ j = 25 ∨ j = 26 ∨ j = 27 ∨ j = 28 by omega) with rfl | rfl | rfl | rfl | rfl | rfl | rfl | rfl | rfl | rfl | rfl | rfl | rfl | rfl | rfl | rfl | rfl | rfl | rfl | rfl | rfl | rfl | rfl | rfl | rfl | rfl | rfl | rfl | rfl <;> rfl) (Nat.le_of_ble_eq_true rfl) (Nat.le_of_ble_eq_true rfl) dL_law_8 (fun h1 H hP hD hS => ?_)
  have hP : va_P D vwCl (wdX cI cA h0 u ++ wdM0 h1) H := hP
  have hD : va_D A (wdX cI cA h0 u ++ wdM0 h1) := hD
  refine W.widen (k := 57) (n := 2790) (Nat.le_of_ble_eq_true rfl) (Nat.le_of_ble_eq_true rfl) ?_
  refine lv_dup hx hb dL_law_11 rfl ?_
  have hPc : va_P D vwCl (wdM0 h1) H := va_P_r hP
  have hDc : va_D A (wdM0 h1) := hD.sub [56] (by decide) rfl
  have hFc := va_free (wc := wdM0 h1) hD hS hA [56] rfl
  refine va_callv (va_runI (As := []) (rest := [.ref h1]) ⟨hx, hb, hml, hown, hts⟩ (c_X7_init l cI cA D h1 H.size) (cwI 0 hts (in_GI ln_718) rfl rfl rfl (hts _ ln_67) (hts _ ln_716) (hts _ ln_717) rfl (by decide +kernel) ⟨Nat.le_of_ble_eq_true rfl, Nat.le_of_ble_eq_true rfl⟩) ⟨fun a U g mk q => by obtain ⟨q0, q1, qP, qK, qD⟩ := q; exact ⟨q0, q1, qP, va_K.moved (u := U) (U := U.calling g mk a) (Vm.Alike.refl U.vm) qK, qD⟩, fun U hU hW => ⟨rfl, by rw [hU], by rw [hU]; exact hPc, va_K.moved hW.alike hK, hDc.weaken (fun _ _ _ _ => trivial)⟩⟩ rfl rfl hl.1 rfl (lv_room (Nat.le_of_ble_eq_true rfl)) dL_law_12 ⟨Nat.le_of_ble_eq_true rfl, Nat.le_of_ble_eq_true rfl⟩) hS (fun q _ h => hFc q h) hFc (fun w t H1 locs ht hvm _ hB hz1 hk1 hS => ?_)
  obtain ⟨hP1, hK1, hD1⟩ := hB
  rw [ht] at hP1
  obtain ⟨hP, hD⟩ := va_join (wr := wdX cI cA h0 u) (w1 := wdM cI h1 w) hP hD [56] [0, 1, 2, 3, 4, 5, 6, 7, 8, 9, 10, 11, 12, 13, 14, 15, 16, 17, 18, 19, 20, 21, 22, 23, 24, 25, 26, 27, 28, 29, 30, 31, 32, 33, 34, 35, 36, 37, 38, 39, 40, 41, 42, 43, 44, 45, 46, 47, 48, 49, 50, 51, 52, 53, 54, 55] rfl rfl (by decide) (by decide) hk1 hFc hP1 hD1
  generalize H1 = H at hP hS ⊢
  refine W.widen (k := 75) (n := 4555) (Nat.le_of_ble_eq_true rfl) (Nat.le_of_ble_eq_true rfl) ?_
  refine lv_astore_n (lv' := [(2, .ref h1), (1, .ref h0), (0, .ref b)]) hx hb dL_law_15 rfl hl (by decide) rfl (fun ls hl => ?_)
  refine lv_iconst (v := 1) hx hb dL_law_16 (by decide) ?_
  refine va_newa (atype := .long) (ty := .long) (N' := 1) (a0 := (1, .inr (.inl (fun _ => 0)))) hx hb (hts _ ln_1072) rfl hK hP hD hS hA (fun _ => rfl) (by decide) (by decide) (Nat.le_of_ble_eq_true rfl) (Nat.le_of_ble_eq_true rfl) (Nat.le_of_ble_eq_true rfl) dL_law_17 (fun qo cL H hKL hP hD hS => ?_)
  refine W.widen (k := 80 + 0) (n := 4600 + 6 * 0) (Nat.le_of_ble_eq_true rfl) (Nat.le_of_ble_eq_true rfl) ?_
  refine lv_astore_n (lv' := [(3, .ref qo), (2, .ref h1), (1, .ref h0), (0, .ref b)]) hx hb dL_law_19 rfl hl (by decide) rfl (fun ls hl => ?_)
  refine lv_iconst (v := 0) hx hb dL_law_20 (by decide) ?_
  refine lv_istore (lv' := [(4, .int 0), (3, .ref qo), (2, .ref h1), (1, .ref h0), (0, .ref b)]) hx hb dL_law_21 hl (by decide) rfl (fun ls hl => ?_)
  have hP0 : va_P D vwCl (wdX cI cA h0 u ++ wdM cI h1 w) H := va_P_l hP
  have hPo : va_P D vwCl [(qo, oC cL (fun _ => 0))] H := va_P_r hP
  have hD0 : va_D A (wdX cI cA h0 u ++ wdM cI h1 w) := ⟨fun i j p q hi hj e => hD.1 i j p q (by rw [List.getElem?_append_left (List.getElem?_eq_some_iff.mp hi).1]; exact hi) (by rw [List.getElem?_append_left (List.getElem?_eq_some_iff.mp hj).1]; exact hj) e, fun k q hk => hD.2 k q (by rw [List.getElem?_append_left (List.getElem?_eq_some_iff.mp hk).1]; exact hk)⟩
  have hq75 : ((wdX cI cA h0 u ++ wdM cI h1 w) ++ [(qo, oC cL (fun _ => 0))])[75]? = some (qo, oC cL (fun _ => 0)) := rfl
  have hqo : ∀ k, k < 75 → ad0 h0 h1 u w k ≠ qo := fun k hk he => by
    obtain ⟨e1, h1'⟩ := w0_at (cI := cI) (cA := cA) (h0 := h0) (h1 := h1) (u := u) (w := w) k hk
    have hlt := posL_lt k hk
    have := hD.1 _ 75 _ _ (by rw [List.getElem?_append_left (List.getElem?_eq_some_iff.mp h1').1]; exact h1') hq75 he
    omega
  have hAq : A qo := hD.2 75 _ hq75
  have hKL1 : va_K D vwCl [(cL, .long)] s := hKL.sub [2] rfl
  have hap := Ap0 hD0
  subst hAe
  refine law_loop (cI := cI) (cA := cA) (cL := cL) (D := D) (ad := ad0 h0 h1 u w) (qo := qo) l hl0 hL hr hlocks (fun cells slots hc1 hs1 => ⟨⟨hx, hb, hml, hown, hts, hK, hA, hap⟩, hX, hbl, hbA, hqo, hAq, hKL1, hThr, ⟨Nat.le_of_ble_eq_true rfl, Nat.le_of_ble_eq_true rfl⟩, ⟨Nat.le_trans (Nat.add_le_add_right hc1 1) (Nat.le_of_ble_eq_true rfl), Nat.le_trans (Nat.add_le_add_right hs1 6) (Nat.le_of_ble_eq_true rfl)⟩⟩) 514 0 rfl (by omega) σ0 (fun _ => 0) H _ ls ⟨RgS0, Rel0, w0_P hP0, hPo, hS, lv_sub hl [4, 3, 2, 1, 0] rfl⟩
end LAWS
