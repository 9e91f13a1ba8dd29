theorem vp_00 : vp_in 0 1 := by
  unfold vp_in
  decide
def rmL : Room := { frames := 7, cells := 1, slots := 6, locals := 260 }
abbrev oC (cL : ClassId) (v : Nat → Int64) : va_E := .inl (cL, 1, .inr (.inl v))
theorem va_A_l {w w' : va_W} {sz q : Nat} (h : va_A w sz q) : va_A (w ++ w') sz q := by
  rcases h with ⟨k, e, hk⟩ | h
  · exact Or.inl ⟨k, e, by rw [List.getElem?_append_left (List.getElem?_eq_some_iff.mp hk).1]; exact hk⟩
  · exact Or.inr h
theorem va_A_o {w : va_W} {sz q : Nat} {e : va_E} : va_A (w ++ [(q, e)]) sz q := Or.inl ⟨w.length, e, by simp⟩
theorem va_P_l {D : va_G} {cl : List vw_C} {w w' : va_W} {H : Heap} (h : va_P D cl (w ++ w') H) : va_P D cl w H := fun k q hk => h k q (by rw [List.getElem?_append_left (List.getElem?_eq_some_iff.mp hk).1]; exact hk)
theorem va_P_r {D : va_G} {cl : List vw_C} {w w' : va_W} {H : Heap} (h : va_P D cl (w ++ w') H) : va_P D cl w' H := fun k q hk => h (w.length + k) q (by rw [List.getElem?_append_right (Nat.le_add_right _ _), Nat.add_sub_cancel_left]; exact hk)
theorem Wd_len {cI cA : ClassId} {ad : Nat → Nat} {σ : St} : (Wd cI cA ad σ).length = 75 := by rw [Wd, List.length_mapIdx, shT_len]
theorem out_no {cI cA : ClassId} {ad : Nat → Nat} {σ : St} {qo sz : Nat} (hqo : ∀ k, k < 75 → ad k ≠ qo) (hlt : qo < sz) : ¬ va_A (Wd cI cA ad σ) sz qo := by
  intro h
  rcases h with ⟨k, e, hk⟩ | h
  · obtain ⟨sh, hs, he⟩ := Wd_of hk
    exact hqo k (shT_lt hs) (congrArg Prod.fst he).symm
  · omega
theorem out_lt {D : va_G} {cL : ClassId} {qo : Nat} {v : Nat → Int64} {H : Heap} (h : va_P D vwCl [(qo, oC cL v)] H) : qo < H.size := (h 0 _ rfl).lt
theorem out_keep {cI cA cL : ClassId} {D : va_G} {ad : Nat → Nat} {σ : St} {qo : Nat} {v : Nat → Int64} {H H1 : Heap} (hqo : ∀ k, k < 75 → ad k ≠ qo) (h : va_P D vwCl [(qo, oC cL v)] H) (hk : ∀ q : Nat, q < H.size → ¬ va_A (Wd cI cA ad σ) H.size q → H1[q]? = H[q]?) : va_P D vwCl [(qo, oC cL v)] H1 := by
  refine h.kept (fun k q hq => ?_)
  have h0 : k < 1 := (List.getElem?_eq_some_iff.mp hq).1
  rw [show k = 0 by omega] at hq
  cases hq
  exact hk qo (out_lt h) (out_no hqo (out_lt h))
theorem out_D {cI cA cL : ClassId} {ad : Nat → Nat} {A : Nat → Prop} (hap : Ap ad A) (σ : St) {qo : Nat} (v : Nat → Int64) (hqo : ∀ k, k < 75 → ad k ≠ qo) (hA : A qo) : va_D A (Wd cI cA ad σ ++ [(qo, oC cL v)]) := by
  refine va_D.app (hap.D cI cA σ) ⟨fun i j p q hi hj _ => ?_, fun k q hk => ?_⟩ (fun i j p q hi hj he => ?_)
  · have h0 : i < 1 := (List.getElem?_eq_some_iff.mp hi).1
    have h1 : j < 1 := (List.getElem?_eq_some_iff.mp hj).1
    omega
  · have h0 : k < 1 := (List.getElem?_eq_some_iff.mp hk).1
    rw [show k = 0 by omega] at hk
    cases hk
    exact hA
  · have h1 : j < 1 := (List.getElem?_eq_some_iff.mp hj).1
    rw [show j = 0 by omega] at hj
    cases hj
    obtain ⟨sh, hs, rfl⟩ := Wd_of hi
    exact hqo i (shT_lt hs) he
theorem out_set {cI cA cL : ClassId} {ad : Nat → Nat} {σ : St} {qo : Nat} {v w : Nat → Int64} : (Wd cI cA ad σ ++ [(qo, oC cL v)]).set 75 (qo, oC cL w) = Wd cI cA ad σ ++ [(qo, oC cL w)] := by
  rw [List.set_append_right _ _ (by rw [Wd_len]; exact Nat.le_refl _), Wd_len]
  rfl
theorem out_at {cI cA cL : ClassId} {ad : Nat → Nat} {σ : St} {qo : Nat} {v : Nat → Int64} : (Wd cI cA ad σ ++ [(qo, oC cL v)])[75]? = some (qo, oC cL v) := by
  rw [List.getElem?_append_right (by rw [Wd_len]; exact Nat.le_refl _), Wd_len]
  rfl
def WrC (cc : ByteArray) (idx : Nat) : Prop := decode cc 0 = .ok (.aload_n 3, 1) ∧ decode cc 1 = .ok (.iconst 0, 1) ∧ decode cc 2 = .ok (.aload_n 0, 1) ∧ decode cc 3 = .ok (.iload_n 1, 1) ∧ decode cc 4 = .ok (.iload_n 2, 1) ∧ decode cc 5 = .ok (.invokevirtual idx, 3) ∧ decode cc 8 = .ok (.i2l, 1) ∧ decode cc 9 = .ok (.lastore, 1) ∧ decode cc 10 = .ok (.goto 7, 3) ∧ decode cc 13 = .ok (.astore 4, 2) ∧ decode cc 15 = .ok (.iconst 1, 1) ∧ decode cc 16 = .ok (.ireturn, 1) ∧ decode cc 17 = .ok (.iconst 0, 1) ∧ decode cc 18 = .ok (.ireturn, 1)
def PosL (Q : Int → St → Prop) (ok : Prop) (σ : St) : Int32 → Int × St × (Nat → Int64) → Prop := fun r u => RgS u.2.1 ∧ ((r = 0 ∧ ok ∧ Q u.1 u.2.1 ∧ u.2.2 0 = (Int32.ofInt u.1).toInt64) ∨ (r = 1 ∧ ¬ ok ∧ u.2.1 = σ))
def BL (cI cA cL : ClassId) (D : va_G) (ad : Nat → Nat) (qo : Nat) : Int × St × (Nat → Int64) → State → Prop := fun u t => va_P D vwCl (Wd cI cA ad u.2.1) t.heap ∧ va_P D vwCl [(qo, oC cL u.2.2)] t.heap
/-- what a wrapper begins with -/
def PreL (cI cA cL : ClassId) (D : va_G) (ad : Nat → Nat) (qo : Nat) (σ : St) (v : Nat → Int64) (sz : Nat) (U : State) : Prop := U.heap.size = sz ∧ va_P D vwCl (Wd cI cA ad σ) U.heap ∧ va_P D vwCl [(qo, oC cL v)] U.heap ∧ va_K D vwCl (tyL cI cA) U ∧ va_K D vwCl [(cL, .long)] U ∧ ThrOK (va_A (Wd cI cA ad σ ++ [(qo, oC cL v)]) sz) U U.heap
theorem ln_601 : Cond.classLink RL 13 "java/util/NoSuchElementException" ∈ TB := tb_of 601 (by decide +kernel) (by decide +kernel)
set_option maxHeartbeats 4000000 in
set_option maxRecDepth 100000 in
theorem c_wr {yL : MethodName} {cc : ByteArray} {idx : Nat} {M : MI} {ok : Prop} {Q : Int → St → Prop} (hyp : plainName yL.cls = true) (hyc : yL.cls = RL) (hWr : WrC cc idx) (hsi : Site RL idx M 6 2) (l : Launch) (cI cA cL : ClassId) (D : va_G) {ad : Nat → Nat} {A : Nat → Prop} (hap : Ap ad A) (σ : St) (hrg : RgS σ) (x y : Int32) (qo : Nat) (v : Nat → Int64) (hqo : ∀ k, k < 75 → ad k ≠ qo) (sz : Nat)
    (hM : ∀ sz, MetT l M [.inr 6, .inl x.toInt, .inl y.toInt] ok Q cI cA D ad σ sz) :
    Met l yL (Cond.codeWith yL cc 5 (some .int) [(0, 10, 13, 13)] :: TB) rmL (va_Pc [.ref (ad 6), .int x, .int y, .ref qo] (PreL cI cA cL D ad qo σ v sz)) (va_Qi (PosL Q ok σ) (BL cI cA cL D ad qo) (va_A (Wd cI cA ad σ ++ [(qo, oC cL v)]) sz)) 1 6 (va_A (Wd cI cA ad σ ++ [(qo, oC cL v)]) sz) := by
  refine va_MetW (cc := cc) (maxL := 5) (ret := some .int) (hh := [(0, 10, 13, 13)]) hyp rfl ?_
  intro p e s m args below meth c s₁ B hml hv
  obtain ⟨rfl, hsz, hP, hPo, hK, hKL, hT⟩ := hv
  subst hsz
  have hts := atoms_spec (ws := Cond.codeWith yL cc 5 (some .int) [(0, 10, 13, 13)] :: TB) B.pre
  have htab : c.exceptionTable.toList = tableOf [(0, 10, 13, 13)] := vx_table (x := yL) B (hts _ List.mem_cons_self)
  have htb : ∀ w ∈ TB, w.before _ s = true := fun w hw => hts w (List.mem_cons_of_mem _ hw)
  obtain ⟨d0, d1, d2, d3, d4, d5, d8, d9, d10, d13, d15, d16, d17, d18⟩ := hWr
  have hx := B.exec
  have hb := B.bytes
  have hr := B.returns
  have hlocks := B.notSynchronized
  have hown : s.vm.findClass RL = some m.cls := by rw [← hyc]; exact findClass_of_methodNamed B.named
  have hap0 := hap.self cI cA σ s.heap.size
  have hqA0 : va_A (Wd cI cA ad σ ++ [(qo, oC cL v)]) s.heap.size qo := va_A_o
  have hAA0 : ∀ q, va_A (Wd cI cA ad σ) s.heap.size q → va_A (Wd cI cA ad σ ++ [(qo, oC cL v)]) s.heap.size q := fun q h => va_A_l h
  have hA0 : ∀ q : Nat, s.heap.size ≤ q → va_A (Wd cI cA ad σ ++ [(qo, oC cL v)]) s.heap.size q := fun q hq => Or.inr hq
  generalize hAe : va_A (Wd cI cA ad σ ++ [(qo, oC cL v)]) s.heap.size = A1 at hT hqA0 hAA0 hA0 ⊢
  have hap1 : Ap ad A1 := ⟨hap.1, fun k hk => hAA0 _ (hap0.2 k hk)⟩
  have hS : va_S A1 s.heap s.heap [] := va_S.rf
  have hl := lv_entry ([.ref (ad 6), .int x, .int y, .ref qo]) (n := 5) (Nat.le_of_ble_eq_true rfl)
  rw [lg_entry_eq]
  generalize (lg_sl ([.ref (ad 6), .int x, .int y, .ref qo]) ++ List.replicate (5 - (lg_sl ([.ref (ad 6), .int x, .int y, .ref qo])).length) Slot.unset).toArray = ls at hl ⊢
  have hl : lv_has ls 5 [(0, .ref (ad 6)), (1, .int x), (2, .int y), (3, .ref qo)] := hl
  refine lv_aload_n hx hb d0 rfl (lv_at hl 3 rfl) ?_
  refine lv_iconst (v := 0) hx hb d1 (by decide) ?_
  refine lv_aload_n hx hb d2 rfl (lv_at hl 0 rfl) ?_
  refine lv_iload_n hx hb d3 rfl (lv_at hl 1 rfl) ?_
  refine lv_iload_n hx hb d4 rfl (lv_at hl 2 rfl) ?_
  obtain ⟨hlk, hw1, hw2, ⟨hi, hcd, hn1, hn2, hpd, hpl, hmx⟩, ⟨fs, hsh⟩, ⟨q, hq, hqc⟩, hln⟩ := hsi
  have hrec := va_recv hK hP hq (Wd_at hsh)
  rw [hqc] at hrec
  have hTn := hT.narrow hAA0
  have hrun : vx_Run p l e rmL s m #[.ref (ad 6), .int x, .int y, .ref qo] below meth c s.heap [] 0 0 1 6 (F0 m 5 ls (.int y :: .int x :: .ref (ad 6) :: [.int 0, .ref qo])) [.int 0, .ref qo] (va_Qi (PosT (fun z τ => ok ∧ Q z τ)) (BT cI cA D ad) (va_A (Wd cI cA ad σ) s.heap.size) ((Value.ref (ad 6) :: [.int x, .int y]).toArray)) (vx_X (fun _ : Unit => ¬ ok) (BXs cI cA D ad σ) (va_A (Wd cI cA ad σ) s.heap.size)) (va_A (Wd cI cA ad σ) s.heap.size) := by
    refine vx_runV (As := [.int x, .int y]) (b := ad 6) (rest := [.int 0, .ref qo]) ⟨hx, hb, hml, hown, htb⟩ (hM s.heap.size) (cwV (C := M.1.cls) 2 htb (tb_goodIn ?_) rfl rfl rfl ⟨rfl, hn1, hn2, hpd⟩ ⟨Nat.le_refl 7, by show 8 + (M.2.2.1 + 11) + 216 ≤ 260; omega⟩) ⟨fun a U g mk q => ?_, hrec, fun U hU hW => ⟨?_, by rw [hU], by rw [hU]; exact hP, va_K.moved hW.alike hK, by rw [hU]; exact hTn.warm hW⟩⟩ rfl rfl hl.1 rfl (lv_room (Nat.le_of_ble_eq_true rfl)) d5 ⟨Nat.le_refl 1, Nat.le_refl 6⟩
    · intro w hw
      unfold wsV at hw
      simp only [List.mem_append, List.mem_cons, List.not_mem_nil, or_false] at hw
      rcases hw with (rfl | rfl | rfl | rfl) | rfl | hw
      · exact hlk
      · exact hw1
      · exact hw2
      · exact hi
      · exact hcd
      · exact hw
    · obtain ⟨q0, q1, q2, q3, q4⟩ := q
      exact ⟨q0, q1, q2, va_K.moved (u := U) (U := U.calling g mk a) (Vm.Alike.refl U.vm) q3, ThrOK.same (s := U) (U := U.calling g mk a) rfl q4⟩
    · show _ = ([.ref (ad 6), .int (Int32.ofInt x.toInt), .int (Int32.ofInt y.toInt)] : List Value).toArray
      rw [Int32.ofInt_toInt, Int32.ofInt_toInt]
  refine vx_calli hrun hS (fun q _ h => hAA0 q h) hAA0 (fun q _ h => hAA0 q h) (fun E ce q9 u t H1 locs1 ht hvm hp hB hz hk hS1 hce hcv hcl => ?_) (fun r u t H1 locs1 ht hvm hpost hB hz hk hS1 => ?_)
  · obtain ⟨rfl, hP1, hK1⟩ := hB
    rw [ht] at hP1
    have hPo1 := out_keep hqo hPo hk
    refine vx_catch (own := RL) (name := NSE) hown [] ⟨0, 10, 13, 13⟩ [] htab (fun z hz => nomatch hz) rfl (by decide) (htb _ ln_601) (va_Nw.use rfl hT.1.1) hce hcv hcl ?_
    refine lv_astore (lv' := [(4, .ref q9), (0, .ref (ad 6)), (1, .int x), (2, .int y), (3, .ref qo)]) hx hb d13 hl (by decide) rfl (fun ls hl => ?_)
    refine lv_iconst (v := 1) hx hb d15 (by decide) ?_
    exact W.iret hx hb hr (fun t2 ht2 hW2 => ⟨⟨1, (0, σ, v), rfl, ⟨hrg, Or.inr ⟨rfl, hp, rfl⟩⟩, by rw [ht2]; exact hP1, by rw [ht2]; exact hPo1⟩, hS1.F ht2⟩) hS1.2.2 d16
  · obtain ⟨rfl, hrg1, hok, hQ⟩ := hpost
    obtain ⟨hP1, hK1⟩ := hB
    rw [ht] at hP1
    have hPo1 := out_keep hqo hPo hk
    refine lv_i2l (v := (Int32.ofInt u.1).toInt64) hx hb d8 rfl ?_
    refine va_last (n := 1) hx hb hKL (hP1.app hPo1) (out_D hap1 u.2 v hqo hqA0) hS1 75 0 out_at rfl vp_00 d9 (fun H2 locs2 hP2 hD2 hS2 => ?_)
    rw [out_set] at hP2
    refine lv_goto (tgt := 17) hx hb d10 (by decide) ?_
    refine lv_iconst (v := 0) hx hb d17 (by decide) ?_
    exact W.iret hx hb hr (fun t2 ht2 hW2 => ⟨⟨0, (u.1, u.2, vp_updL v (0 : Int32).toNatClampNeg (Int32.ofInt u.1).toInt64), rfl, ⟨hrg1, Or.inl ⟨rfl, hok, hQ, rfl⟩⟩, by rw [ht2]; exact va_P_l hP2, by rw [ht2]; exact va_P_r hP2⟩, hS2.F ht2⟩) hS2.2.2 d18
theorem ln_602 : Cond.methodLink RL 7 yX6_on ∈ TB := tb_of 602 (by decide +kernel) (by decide +kernel)
theorem ln_603 : Cond.instanceMethod yX6_on ∈ TB := tb_of 603 (by decide +kernel) (by decide +kernel)
theorem ln_604 : Cond.selects RX6 yX6_on yX6_on ∈ TB := tb_of 604 (by decide +kernel) (by decide +kernel)
theorem si_RL_7 : Site RL 7 mX6_on 6 2 := ⟨ln_602, ln_603, ln_604, cw_X6_on, ⟨_, rfl⟩, ⟨_, rfl, rfl⟩, by decide⟩
theorem wc_on : WrC cL_on 7 := ⟨dL_on_0, dL_on_1, dL_on_2, dL_on_3, dL_on_4, dL_on_5, dL_on_8, dL_on_9, dL_on_10, dL_on_13, dL_on_15, dL_on_16, dL_on_17, dL_on_18⟩
theorem ln_684 : Cond.methodLink RL 15 yX6_in ∈ TB := tb_of 684 (by decide +kernel) (by decide +kernel)
theorem ln_685 : Cond.instanceMethod yX6_in ∈ TB := tb_of 685 (by decide +kernel) (by decide +kernel)
theorem ln_686 : Cond.selects RX6 yX6_in yX6_in ∈ TB := tb_of 686 (by decide +kernel) (by decide +kernel)
theorem si_RL_15 : Site RL 15 mX6_in 6 2 := ⟨ln_684, ln_685, ln_686, cw_X6_in, ⟨_, rfl⟩, ⟨_, rfl, rfl⟩, by decide⟩
theorem wc_in : WrC cL_in 15 := ⟨dL_in_0, dL_in_1, dL_in_2, dL_in_3, dL_in_4, dL_in_5, dL_in_8, dL_in_9, dL_in_10, dL_in_13, dL_in_15, dL_in_16, dL_in_17, dL_in_18⟩
theorem ln_705 : Cond.methodLink RL 18 yX6_of ∈ TB := tb_of 705 (by decide +kernel) (by decide +kernel)
theorem ln_706 : Cond.instanceMethod yX6_of ∈ TB := tb_of 706 (by decide +kernel) (by decide +kernel)
theorem ln_707 : Cond.selects RX6 yX6_of yX6_of ∈ TB := tb_of 707 (by decide +kernel) (by decide +kernel)
theorem si_RL_18 : Site RL 18 mX6_of 6 2 := ⟨ln_705, ln_706, ln_707, cw_X6_of, ⟨_, rfl⟩, ⟨_, rfl, rfl⟩, by decide⟩
theorem wc_of : WrC cL_of 18 := ⟨dL_of_0, dL_of_1, dL_of_2, dL_of_3, dL_of_4, dL_of_5, dL_of_8, dL_of_9, dL_of_10, dL_of_13, dL_of_15, dL_of_16, dL_of_17, dL_of_18⟩
