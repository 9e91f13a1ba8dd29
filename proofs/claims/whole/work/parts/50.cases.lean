/-! ===== the law's cases ===== -/
/-- where the loop stands: the class and the reference in one world, and what a call left in 'out' -/
def LG (s : State) (cI cA cL : ClassId) (D : va_G) (ad : Nat → Nat) (A : Nat → Prop) (qo b : Nat) (x4 : Int32) (σ : St) (v : Nat → Int64) (H : Heap) (locs : List Loc) (ls : Array Slot) : Prop :=
  RgS σ ∧ RelS σ σ ∧ va_P D vwCl (Wd cI cA ad σ) H ∧ va_P D vwCl [(qo, oC cL v)] H ∧ va_S A s.heap H locs ∧ lv_has ls 7 [(0, .ref b), (1, .ref (ad 6)), (2, .ref (ad 7)), (3, .ref qo), (4, .int x4)]
section LAWC
variable {p : Program} {l : Launch} {e : Env} {R : Room} {s : State} {m : MethodId} {args : Array Value} {below : List Frame} {meth : Method} {c : Code} {cells slots : Nat} {Q : State → Prop}
variable {cI cA cL : ClassId} {D : va_G} {ad : Nat → Nat} {A : Nat → Prop} {qo b L : Nat} {xs : Nat → Int32} {x4 : Int32} {σ : St} {v : Nat → Int64} {H : Heap} {locs : List Loc} {ls : Array Slot}
/-- what the law's frame stands on, all along -/
def LF (p : Program) (R : Room) (s : State) (m : MethodId) (args : Array Value) (c : Code) (cI cA cL : ClassId) (D : va_G) (ad : Nat → Nat) (A : Nat → Prop) (qo b L : Nat) (xs : Nat → Int32) (cells slots : Nat) : Prop :=
  LC p s m args c cL_law 7 RL cI cA D ad A ∧ va_X b L xs s s.heap ∧ b < s.heap.size ∧ ¬ A b ∧ (∀ k, k < 75 → ad k ≠ qo) ∧ A qo ∧ va_K D vwCl [(cL, .long)] s ∧ ThrOK A s s.heap ∧ (10 ≤ R.frames ∧ 342 ≤ R.locals) ∧ (cells + 1 ≤ R.cells ∧ slots + 6 ≤ R.slots)
theorem L_argS {st : List Value} {pc : Nat} {k : Int} {kv : Int32} (hF : LF p R s m args c cI cA cL D ad A qo b L xs cells slots) (hS : va_S A s.heap H locs) {lr : List (Nat × Value)} (hl : lv_has ls 7 ((0, .ref b) :: (1, .ref (ad 6)) :: (2, .ref (ad 7)) :: (3, .ref qo) :: (4, .int x4) :: lr))
    (d0 : decode cL_law pc = .ok (.aload_n 0, 1)) (d1 : decode cL_law (pc + 1) = .ok (.iload 4, 2)) (d3 : decode cL_law (pc + 3) = .ok (.iconst k, 1)) (hk : Int32.ofInt k = kv) (d4 : decode cL_law (pc + 4) = .ok (.iadd, 1)) (d5 : decode cL_law (pc + 5) = .ok (.iaload, 1)) (hin : vp_in (x4 + kv) L)
    (kk : W p l e R s m args below meth c H locs cells slots Q (F0 m (pc + 6) ls (.int (xs (x4 + kv).toNatClampNeg) :: st))) : W p l e R s m args below meth c H locs cells slots Q (F0 m pc ls st) := by
  obtain ⟨⟨hx, hb, -⟩, hX, hbl, hbA, -⟩ := hF
  refine lv_aload_n hx hb d0 rfl (lv_at hl 0 rfl) ?_
  refine lv_iload hx hb d1 (lv_at hl 4 rfl) ?_
  refine lv_iconst (v := kv) hx hb d3 hk ?_
  refine lv_iadd hx hb d4 ?_
  exact va_sld hx hb hX hbl hbA hS hin d5 kk
theorem L_arg {st : List Value} {pc : Nat} {k : Int} {kv : Int32} (hF : LF p R s m args c cI cA cL D ad A qo b L xs cells slots) (hG : LG s cI cA cL D ad A qo b x4 σ v H locs ls)
    (d0 : decode cL_law pc = .ok (.aload_n 0, 1)) (d1 : decode cL_law (pc + 1) = .ok (.iload 4, 2)) (d3 : decode cL_law (pc + 3) = .ok (.iconst k, 1)) (hk : Int32.ofInt k = kv) (d4 : decode cL_law (pc + 4) = .ok (.iadd, 1)) (d5 : decode cL_law (pc + 5) = .ok (.iaload, 1)) (hin : vp_in (x4 + kv) L)
    (kk : W p l e R s m args below meth c H locs cells slots Q (F0 m (pc + 6) ls (.int (xs (x4 + kv).toNatClampNeg) :: st))) : W p l e R s m args below meth c H locs cells slots Q (F0 m pc ls st) :=
  L_argS (lr := []) hF hG.2.2.2.2.1 hG.2.2.2.2.2 d0 d1 d3 hk d4 d5 hin kk
theorem L_argS2 {r : Value} {st : List Value} {pc : Nat} {k : Int} {kv : Int32} {c1 s1 : Nat} (hF : LF p R s m args c cI cA cL D ad A qo b L xs cells slots) (hS : va_S A s.heap H locs) (hl : lv_has ls 7 [(0, .ref b), (1, .ref (ad 6)), (2, .ref (ad 7)), (3, .ref qo), (4, .int x4), (5, r)])
    (d0 : decode cL_law pc = .ok (.aload_n 0, 1)) (d1 : decode cL_law (pc + 1) = .ok (.iload 4, 2)) (d3 : decode cL_law (pc + 3) = .ok (.iconst k, 1)) (hk : Int32.ofInt k = kv) (d4 : decode cL_law (pc + 4) = .ok (.iadd, 1)) (d5 : decode cL_law (pc + 5) = .ok (.iaload, 1)) (hin : vp_in (x4 + kv) L)
    (kk : W p l e R s m args below meth c H locs c1 s1 Q (F0 m (pc + 6) ls (.int (xs (x4 + kv).toNatClampNeg) :: st))) : W p l e R s m args below meth c H locs c1 s1 Q (F0 m pc ls st) := by
  obtain ⟨⟨hx, hb, -⟩, hX, hbl, hbA, -⟩ := hF
  refine lv_aload_n hx hb d0 rfl (lv_at hl 0 rfl) ?_
  refine lv_iload hx hb d1 (lv_at hl 4 rfl) ?_
  refine lv_iconst (v := kv) hx hb d3 hk ?_
  refine lv_iadd hx hb d4 ?_
  exact va_sld hx hb hX hbl hbA hS hin d5 kk
def C_0 (B i1 i2 : Nat) (off : Int) : Prop := decode cL_law B = .ok (.aload_n 1, 1) ∧ decode cL_law (B + 1) = .ok (.invokevirtual i1, 3) ∧ decode cL_law (B + 4) = .ok (.aload_n 2, 1) ∧ decode cL_law (B + 5) = .ok (.invokevirtual i2, 3) ∧ decode cL_law (B + 8) = .ok (.if_icmp .eq off, 3) ∧ ((B + 8 : Nat) : Int) + off = (970 : Nat)
def C_1 (B i1 i2 : Nat) (off : Int) : Prop := decode cL_law B = .ok (.aload_n 1, 1) ∧ decode cL_law (B + 1) = .ok (.aload_n 0, 1) ∧ decode cL_law (B + 2) = .ok (.iload 4, 2) ∧ decode cL_law (B + 4) = .ok (.iconst 1, 1) ∧ decode cL_law (B + 5) = .ok (.iadd, 1) ∧ decode cL_law (B + 6) = .ok (.iaload, 1) ∧ decode cL_law (B + 7) = .ok (.invokevirtual i1, 3) ∧ decode cL_law (B + 10) = .ok (.aload_n 2, 1) ∧ decode cL_law (B + 11) = .ok (.aload_n 0, 1) ∧ decode cL_law (B + 12) = .ok (.iload 4, 2) ∧ decode cL_law (B + 14) = .ok (.iconst 1, 1) ∧ decode cL_law (B + 15) = .ok (.iadd, 1) ∧ decode cL_law (B + 16) = .ok (.iaload, 1) ∧ decode cL_law (B + 17) = .ok (.invokevirtual i2, 3) ∧ decode cL_law (B + 20) = .ok (.if_icmp .eq off, 3) ∧ ((B + 20 : Nat) : Int) + off = (970 : Nat)
def C_2 (B i1 i2 : Nat) (off : Int) : Prop := decode cL_law B = .ok (.aload_n 1, 1) ∧ decode cL_law (B + 1) = .ok (.aload_n 0, 1) ∧ decode cL_law (B + 2) = .ok (.iload 4, 2) ∧ decode cL_law (B + 4) = .ok (.iconst 1, 1) ∧ decode cL_law (B + 5) = .ok (.iadd, 1) ∧ decode cL_law (B + 6) = .ok (.iaload, 1) ∧ decode cL_law (B + 7) = .ok (.aload_n 0, 1) ∧ decode cL_law (B + 8) = .ok (.iload 4, 2) ∧ decode cL_law (B + 10) = .ok (.iconst 2, 1) ∧ decode cL_law (B + 11) = .ok (.iadd, 1) ∧ decode cL_law (B + 12) = .ok (.iaload, 1) ∧ decode cL_law (B + 13) = .ok (.invokevirtual i1, 3) ∧ decode cL_law (B + 16) = .ok (.aload_n 2, 1) ∧ decode cL_law (B + 17) = .ok (.aload_n 0, 1) ∧ decode cL_law (B + 18) = .ok (.iload 4, 2) ∧ decode cL_law (B + 20) = .ok (.iconst 1, 1) ∧ decode cL_law (B + 21) = .ok (.iadd, 1) ∧ decode cL_law (B + 22) = .ok (.iaload, 1) ∧ decode cL_law (B + 23) = .ok (.aload_n 0, 1) ∧ decode cL_law (B + 24) = .ok (.iload 4, 2) ∧ decode cL_law (B + 26) = .ok (.iconst 2, 1) ∧ decode cL_law (B + 27) = .ok (.iadd, 1) ∧ decode cL_law (B + 28) = .ok (.iaload, 1) ∧ decode cL_law (B + 29) = .ok (.invokevirtual i2, 3) ∧ decode cL_law (B + 32) = .ok (.if_icmp .eq off, 3) ∧ ((B + 32 : Nat) : Int) + off = (970 : Nat)
def C_b (B i1 i2 : Nat) (off : Int) : Prop := decode cL_law B = .ok (.aload_n 1, 1) ∧ decode cL_law (B + 1) = .ok (.aload_n 0, 1) ∧ decode cL_law (B + 2) = .ok (.iload 4, 2) ∧ decode cL_law (B + 4) = .ok (.iconst 1, 1) ∧ decode cL_law (B + 5) = .ok (.iadd, 1) ∧ decode cL_law (B + 6) = .ok (.iaload, 1) ∧ decode cL_law (B + 7) = .ok (.ifCond .eq 7, 3) ∧ decode cL_law (B + 10) = .ok (.iconst 1, 1) ∧ decode cL_law (B + 11) = .ok (.goto 4, 3) ∧ decode cL_law (B + 14) = .ok (.iconst 0, 1) ∧ decode cL_law (B + 15) = .ok (.invokevirtual i1, 3) ∧ decode cL_law (B + 18) = .ok (.aload_n 2, 1) ∧ decode cL_law (B + 19) = .ok (.aload_n 0, 1) ∧ decode cL_law (B + 20) = .ok (.iload 4, 2) ∧ decode cL_law (B + 22) = .ok (.iconst 1, 1) ∧ decode cL_law (B + 23) = .ok (.iadd, 1) ∧ decode cL_law (B + 24) = .ok (.iaload, 1) ∧ decode cL_law (B + 25) = .ok (.ifCond .eq 7, 3) ∧ decode cL_law (B + 28) = .ok (.iconst 1, 1) ∧ decode cL_law (B + 29) = .ok (.goto 4, 3) ∧ decode cL_law (B + 32) = .ok (.iconst 0, 1) ∧ decode cL_law (B + 33) = .ok (.invokevirtual i2, 3) ∧ decode cL_law (B + 36) = .ok (.if_icmp .eq off, 3) ∧ ((B + 36 : Nat) : Int) + off = (970 : Nat)
def C_t (B i1 i2 : Nat) (off : Int) : Prop := decode cL_law B = .ok (.aload_n 1, 1) ∧ decode cL_law (B + 1) = .ok (.aload_n 0, 1) ∧ decode cL_law (B + 2) = .ok (.iload 4, 2) ∧ decode cL_law (B + 4) = .ok (.iconst 1, 1) ∧ decode cL_law (B + 5) = .ok (.iadd, 1) ∧ decode cL_law (B + 6) = .ok (.iaload, 1) ∧ decode cL_law (B + 7) = .ok (.aload_n 0, 1) ∧ decode cL_law (B + 8) = .ok (.iload 4, 2) ∧ decode cL_law (B + 10) = .ok (.iconst 2, 1) ∧ decode cL_law (B + 11) = .ok (.iadd, 1) ∧ decode cL_law (B + 12) = .ok (.iaload, 1) ∧ decode cL_law (B + 13) = .ok (.aload_n 3, 1) ∧ decode cL_law (B + 14) = .ok (.invokestatic i1, 3) ∧ decode cL_law (B + 17) = .ok (.istore 5, 2) ∧ decode cL_law (B + 19) = .ok (.aload_n 2, 1) ∧ decode cL_law (B + 20) = .ok (.aload_n 0, 1) ∧ decode cL_law (B + 21) = .ok (.iload 4, 2) ∧ decode cL_law (B + 23) = .ok (.iconst 1, 1) ∧ decode cL_law (B + 24) = .ok (.iadd, 1) ∧ decode cL_law (B + 25) = .ok (.iaload, 1) ∧ decode cL_law (B + 26) = .ok (.aload_n 0, 1) ∧ decode cL_law (B + 27) = .ok (.iload 4, 2) ∧ decode cL_law (B + 29) = .ok (.iconst 2, 1) ∧ decode cL_law (B + 30) = .ok (.iadd, 1) ∧ decode cL_law (B + 31) = .ok (.iaload, 1) ∧ decode cL_law (B + 32) = .ok (.invokevirtual i2, 3) ∧ decode cL_law (B + 35) = .ok (.istore 6, 2) ∧ decode cL_law (B + 37) = .ok (.aload_n 2, 1) ∧ decode cL_law (B + 38) = .ok (.invokevirtual 66, 3) ∧ decode cL_law (B + 41) = .ok (.iload 5, 2) ∧ decode cL_law (B + 43) = .ok (.if_icmp .eq 5, 3) ∧ decode cL_law (B + 48) = .ok (.iload 5, 2) ∧ decode cL_law (B + 50) = .ok (.ifCond .ne 15, 3) ∧ decode cL_law (B + 53) = .ok (.aload_n 3, 1) ∧ decode cL_law (B + 54) = .ok (.iconst 0, 1) ∧ decode cL_law (B + 55) = .ok (.laload, 1) ∧ decode cL_law (B + 56) = .ok (.iload 6, 2) ∧ decode cL_law (B + 58) = .ok (.i2l, 1) ∧ decode cL_law (B + 59) = .ok (.lcmp, 1) ∧ decode cL_law (B + 60) = .ok (.ifCond .eq 5, 3) ∧ decode cL_law (B + 65) = .ok (.goto off, 3) ∧ ((B + 65 : Nat) : Int) + off = (970 : Nat)
theorem L_case0 {B i1 i2 n1 n2 : Nat} {off : Int} {M1 M2 : MI} {t1 t2 : FieldType} (hF : LF p R s m args c cI cA cL D ad A qo b L xs cells slots) (hG : LG s cI cA cL D ad A qo b x4 σ v H locs ls) (hC : C_0 B i1 i2 off) (s1 : Site RL i1 M1 6 0) (s2 : Site RL i2 M2 7 0) (hr1 : M1.2.2.2 = some t1) (hr2 : M2.2.2.2 = some t2) (hd1 : n1 ≤ 4) (hd2 : n2 ≤ 4) (hm1 : M1.2.2.1 ≤ 60) (hm2 : M2.2.2.1 ≤ 60)
    (hbo : ∀ (σ : St), RelS σ σ → Wp M1 n1 (fun z τ => Wp M2 n2 (fun y υ => y = z ∧ RelS υ υ) 0 (entl M2.2.2.1 [.inr 7]) [] τ) 0 (entl M1.2.2.1 [.inr 6]) [] σ)
    (kk : ∀ (τ : St) (w : Nat → Int64) (H1 : Heap) (locs1 : List Loc) (ls1 : Array Slot), LG s cI cA cL D ad A qo b x4 τ w H1 locs1 ls1 → W p l e R s m args below meth c H1 locs1 (cells + 1) (slots + 6) Q (F0 m 970 ls1 [])) : W p l e R s m args below meth c H locs cells slots Q (F0 m B ls []) := by
  obtain ⟨d0, d1, d4, d5, d8, hoff⟩ := hC
  obtain ⟨hc, hX, hbl, hbA, hqo, hAq, hKL, hT, hR, hcs⟩ := id hF
  obtain ⟨hx, hb, hml, hown, hts, hK, hA, hap⟩ := id hc
  obtain ⟨hrg, hrel, hP, hPo, hS, hl⟩ := id hG
  have hcs0 : cells ≤ R.cells ∧ slots ≤ R.slots := ⟨by omega, by omega⟩
  have hbo1 := hbo σ  hrel
  refine lv_aload_n hx hb d0 rfl (lv_at hl 1 rfl) ?_
  refine L_c0 (M' := M1) (k := 6) (d' := n1) hc hrg hP hS hl.1 d1 s1 hr1 (by omega) (by omega) (Nat.zero_le _) hcs0 hbo1 (fun z τ H1 locs1 hrg1 hz hP1 hS1 hz1 hk1 => ?_)
  have hPo1 := out_keep hqo hPo hk1
  refine lv_aload_n hx hb d4 rfl (lv_at hl 2 rfl) ?_
  refine L_c0 (M' := M2) (k := 7) (d' := n2) hc hrg1 hP1 hS1 hl.1 d5 s2 hr2 (by omega) (by omega) (by simp [Value.category]) hcs0 hz (fun y υ H2 locs2 hrg2 hy hP2 hS2 hz2 hk2 => ?_)
  have hPo2 := out_keep hqo hPo1 hk2
  refine lv_icmp_eq (tgt := 970) hx hb d8 hoff (fun c9 => ?_) (fun c9 => ?_)
  · refine W.widen (k := cells + 1) (n := slots + 6) (by omega) (by omega) ?_
    exact kk υ v H2 locs2 ls ⟨hrg2, hy.2, hP2, hPo2, hS2, hl⟩
  · exact absurd (by rw [hy.1]) c9
theorem L_case1 {B i1 i2 n1 n2 : Nat} {off : Int} {M1 M2 : MI} {t1 t2 : FieldType} (hF : LF p R s m args c cI cA cL D ad A qo b L xs cells slots) (hG : LG s cI cA cL D ad A qo b x4 σ v H locs ls) (hC : C_1 B i1 i2 off) (s1 : Site RL i1 M1 6 1) (s2 : Site RL i2 M2 7 1) (hr1 : M1.2.2.2 = some t1) (hr2 : M2.2.2.2 = some t2) (hd1 : n1 ≤ 4) (hd2 : n2 ≤ 4) (hm1 : M1.2.2.1 ≤ 60) (hm2 : M2.2.2.1 ≤ 60) (hi1 : vp_in (x4 + 1) L)
    (hbo : ∀ (σ : St) (u : Int), InR u → RelS σ σ → Wp M1 n1 (fun z τ => Wp M2 n2 (fun y υ => y = z ∧ RelS υ υ) 0 (entl M2.2.2.1 [.inr 7, .inl u]) [] τ) 0 (entl M1.2.2.1 [.inr 6, .inl u]) [] σ)
    (kk : ∀ (τ : St) (w : Nat → Int64) (H1 : Heap) (locs1 : List Loc) (ls1 : Array Slot), LG s cI cA cL D ad A qo b x4 τ w H1 locs1 ls1 → W p l e R s m args below meth c H1 locs1 (cells + 1) (slots + 6) Q (F0 m 970 ls1 [])) : W p l e R s m args below meth c H locs cells slots Q (F0 m B ls []) := by
  obtain ⟨d0, d1, d2, d4, d5, d6, d7, d10, d11, d12, d14, d15, d16, d17, d20, hoff⟩ := hC
  obtain ⟨hc, hX, hbl, hbA, hqo, hAq, hKL, hT, hR, hcs⟩ := id hF
  obtain ⟨hx, hb, hml, hown, hts, hK, hA, hap⟩ := id hc
  obtain ⟨hrg, hrel, hP, hPo, hS, hl⟩ := id hG
  have hcs0 : cells ≤ R.cells ∧ slots ≤ R.slots := ⟨by omega, by omega⟩
  have hbo1 := hbo σ (xs (x4 + 1).toNatClampNeg).toInt (InR_of _) hrel
  refine lv_aload_n hx hb d0 rfl (lv_at hl 1 rfl) ?_
  refine L_arg (kv := 1) hF hG d1 d2 d4 (by decide) d5 d6 hi1 ?_
  refine L_c1 (M' := M1) (k := 6) (d' := n1) hc hrg hP hS hl.1 d7 s1 hr1 (by omega) (by omega) (Nat.zero_le _) hcs0 hbo1 (fun z τ H1 locs1 hrg1 hz hP1 hS1 hz1 hk1 => ?_)
  have hPo1 := out_keep hqo hPo hk1
  refine lv_aload_n hx hb d10 rfl (lv_at hl 2 rfl) ?_
  refine L_argS (lr := []) (kv := 1) hF hS1 hl d11 d12 d14 (by decide) d15 d16 hi1 ?_
  refine L_c1 (M' := M2) (k := 7) (d' := n2) hc hrg1 hP1 hS1 hl.1 d17 s2 hr2 (by omega) (by omega) (by simp [Value.category]) hcs0 hz (fun y υ H2 locs2 hrg2 hy hP2 hS2 hz2 hk2 => ?_)
  have hPo2 := out_keep hqo hPo1 hk2
  refine lv_icmp_eq (tgt := 970) hx hb d20 hoff (fun c9 => ?_) (fun c9 => ?_)
  · refine W.widen (k := cells + 1) (n := slots + 6) (by omega) (by omega) ?_
    exact kk υ v H2 locs2 ls ⟨hrg2, hy.2, hP2, hPo2, hS2, hl⟩
  · exact absurd (by rw [hy.1]) c9
theorem L_case2 {B i1 i2 n1 n2 : Nat} {off : Int} {M1 M2 : MI} {t1 t2 : FieldType} (hF : LF p R s m args c cI cA cL D ad A qo b L xs cells slots) (hG : LG s cI cA cL D ad A qo b x4 σ v H locs ls) (hC : C_2 B i1 i2 off) (s1 : Site RL i1 M1 6 2) (s2 : Site RL i2 M2 7 2) (hr1 : M1.2.2.2 = some t1) (hr2 : M2.2.2.2 = some t2) (hd1 : n1 ≤ 4) (hd2 : n2 ≤ 4) (hm1 : M1.2.2.1 ≤ 60) (hm2 : M2.2.2.1 ≤ 60) (hi1 : vp_in (x4 + 1) L) (hi2 : vp_in (x4 + 2) L)
    (hbo : ∀ (σ : St) (u w : Int), InR u → InR w → RelS σ σ → Wp M1 n1 (fun z τ => Wp M2 n2 (fun y υ => y = z ∧ RelS υ υ) 0 (entl M2.2.2.1 [.inr 7, .inl u, .inl w]) [] τ) 0 (entl M1.2.2.1 [.inr 6, .inl u, .inl w]) [] σ)
    (kk : ∀ (τ : St) (w : Nat → Int64) (H1 : Heap) (locs1 : List Loc) (ls1 : Array Slot), LG s cI cA cL D ad A qo b x4 τ w H1 locs1 ls1 → W p l e R s m args below meth c H1 locs1 (cells + 1) (slots + 6) Q (F0 m 970 ls1 [])) : W p l e R s m args below meth c H locs cells slots Q (F0 m B ls []) := by
  obtain ⟨d0, d1, d2, d4, d5, d6, d7, d8, d10, d11, d12, d13, d16, d17, d18, d20, d21, d22, d23, d24, d26, d27, d28, d29, d32, hoff⟩ := hC
  obtain ⟨hc, hX, hbl, hbA, hqo, hAq, hKL, hT, hR, hcs⟩ := id hF
  obtain ⟨hx, hb, hml, hown, hts, hK, hA, hap⟩ := id hc
  obtain ⟨hrg, hrel, hP, hPo, hS, hl⟩ := id hG
  have hcs0 : cells ≤ R.cells ∧ slots ≤ R.slots := ⟨by omega, by omega⟩
  have hbo1 := hbo σ (xs (x4 + 1).toNatClampNeg).toInt (xs (x4 + 2).toNatClampNeg).toInt (InR_of _) (InR_of _) hrel
  refine lv_aload_n hx hb d0 rfl (lv_at hl 1 rfl) ?_
  refine L_arg (kv := 1) hF hG d1 d2 d4 (by decide) d5 d6 hi1 ?_
  refine L_arg (kv := 2) hF hG d7 d8 d10 (by decide) d11 d12 hi2 ?_
  refine L_c2 (M' := M1) (k := 6) (d' := n1) hc hrg hP hS hl.1 d13 s1 hr1 (by omega) (by omega) (Nat.zero_le _) hcs0 hbo1 (fun z τ H1 locs1 hrg1 hz hP1 hS1 hz1 hk1 => ?_)
  have hPo1 := out_keep hqo hPo hk1
  refine lv_aload_n hx hb d16 rfl (lv_at hl 2 rfl) ?_
  refine L_argS (lr := []) (kv := 1) hF hS1 hl d17 d18 d20 (by decide) d21 d22 hi1 ?_
  refine L_argS (lr := []) (kv := 2) hF hS1 hl d23 d24 d26 (by decide) d27 d28 hi2 ?_
  refine L_c2 (M' := M2) (k := 7) (d' := n2) hc hrg1 hP1 hS1 hl.1 d29 s2 hr2 (by omega) (by omega) (by simp [Value.category]) hcs0 hz (fun y υ H2 locs2 hrg2 hy hP2 hS2 hz2 hk2 => ?_)
  have hPo2 := out_keep hqo hPo1 hk2
  refine lv_icmp_eq (tgt := 970) hx hb d32 hoff (fun c9 => ?_) (fun c9 => ?_)
  · refine W.widen (k := cells + 1) (n := slots + 6) (by omega) (by omega) ?_
    exact kk υ v H2 locs2 ls ⟨hrg2, hy.2, hP2, hPo2, hS2, hl⟩
  · exact absurd (by rw [hy.1]) c9
theorem L_caseB {B i1 i2 n1 n2 : Nat} {off : Int} {M1 M2 : MI} {t1 t2 : FieldType} (hF : LF p R s m args c cI cA cL D ad A qo b L xs cells slots) (hG : LG s cI cA cL D ad A qo b x4 σ v H locs ls) (hC : C_b B i1 i2 off) (s1 : Site RL i1 M1 6 1) (s2 : Site RL i2 M2 7 1) (hr1 : M1.2.2.2 = some t1) (hr2 : M2.2.2.2 = some t2) (hd1 : n1 ≤ 4) (hd2 : n2 ≤ 4) (hm1 : M1.2.2.1 ≤ 60) (hm2 : M2.2.2.1 ≤ 60) (hi1 : vp_in (x4 + 1) L)
    (hbo : ∀ (σ : St) (u : Int), InR u → RelS σ σ → Wp M1 n1 (fun z τ => Wp M2 n2 (fun y υ => y = z ∧ RelS υ υ) 0 (entl M2.2.2.1 [.inr 7, .inl u]) [] τ) 0 (entl M1.2.2.1 [.inr 6, .inl u]) [] σ)
    (kk : ∀ (τ : St) (w : Nat → Int64) (H1 : Heap) (locs1 : List Loc) (ls1 : Array Slot), LG s cI cA cL D ad A qo b x4 τ w H1 locs1 ls1 → W p l e R s m args below meth c H1 locs1 (cells + 1) (slots + 6) Q (F0 m 970 ls1 [])) : W p l e R s m args below meth c H locs cells slots Q (F0 m B ls []) := by
  obtain ⟨d0, d1, d2, d4, d5, d6, d7, d10, d11, d14, d15, d18, d19, d20, d22, d23, d24, d25, d28, d29, d32, d33, d36, hoff⟩ := hC
  obtain ⟨hc, hX, hbl, hbA, hqo, hAq, hKL, hT, hR, hcs⟩ := id hF
  obtain ⟨hx, hb, hml, hown, hts, hK, hA, hap⟩ := id hc
  obtain ⟨hrg, hrel, hP, hPo, hS, hl⟩ := id hG
  have hcs0 : cells ≤ R.cells ∧ slots ≤ R.slots := ⟨by omega, by omega⟩
  refine lv_aload_n hx hb d0 rfl (lv_at hl 1 rfl) ?_
  refine L_arg (kv := 1) hF hG d1 d2 d4 (by decide) d5 d6 hi1 ?_
  have key : ∀ f : Int32, (∀ {H' : Heap} {locs' : List Loc} {st : List Value}, W p l e R s m args below meth c H' locs' cells slots Q (F0 m (B + 33) ls (.int f :: st)) → W p l e R s m args below meth c H' locs' cells slots Q (F0 m (B + 25) ls (.int (xs (x4 + 1).toNatClampNeg) :: st))) → W p l e R s m args below meth c H locs cells slots Q (F0 m (B + 15) ls (.int f :: .ref (ad 6) :: [])) := by
    intro f hf
    have hbo1 := hbo σ f.toInt (InR_of _) hrel
    refine L_c1 (M' := M1) (k := 6) (d' := n1) hc hrg hP hS hl.1 d15 s1 hr1 (by omega) (by omega) (Nat.zero_le _) hcs0 hbo1 (fun z τ H1 locs1 hrg1 hz hP1 hS1 hz1 hk1 => ?_)
    have hPo1 := out_keep hqo hPo hk1
    refine lv_aload_n hx hb d18 rfl (lv_at hl 2 rfl) ?_
    refine L_argS (lr := []) (kv := 1) hF hS1 hl d19 d20 d22 (by decide) d23 d24 hi1 ?_
    refine hf ?_
    refine L_c1 (M' := M2) (k := 7) (d' := n2) hc hrg1 hP1 hS1 hl.1 d33 s2 hr2 (by omega) (by omega) (by simp [Value.category]) hcs0 hz (fun y υ H2 locs2 hrg2 hy hP2 hS2 hz2 hk2 => ?_)
    have hPo2 := out_keep hqo hPo1 hk2
    refine lv_icmp_eq (tgt := 970) hx hb d36 hoff (fun c9 => ?_) (fun c9 => ?_)
    · refine W.widen (k := cells + 1) (n := slots + 6) (by omega) (by omega) ?_
      exact kk υ v H2 locs2 ls ⟨hrg2, hy.2, hP2, hPo2, hS2, hl⟩
    · exact absurd (by rw [hy.1]) c9
  by_cases h0 : xs (x4 + 1).toNatClampNeg = 0
  · refine lv_if_eq (tgt := B + 14) hx hb d7 (by omega) (fun _ => ?_) (fun h => absurd h0 h)
    refine lv_iconst (v := 0) hx hb d14 (by decide) ?_
    refine key 0 (fun k => ?_)
    refine lv_if_eq (tgt := B + 32) hx hb d25 (by omega) (fun _ => ?_) (fun h => absurd h0 h)
    exact lv_iconst (v := 0) hx hb d32 (by decide) k
  · refine lv_if_eq (tgt := B + 14) hx hb d7 (by omega) (fun h => absurd h h0) (fun _ => ?_)
    refine lv_iconst (v := 1) hx hb d10 (by decide) ?_
    refine lv_goto (tgt := B + 15) hx hb d11 (by omega) ?_
    refine key 1 (fun k => ?_)
    refine lv_if_eq (tgt := B + 32) hx hb d25 (by omega) (fun h => absurd h h0) (fun _ => ?_)
    refine lv_iconst (v := 1) hx hb d28 (by decide) ?_
    exact lv_goto (tgt := B + 33) hx hb d29 (by omega) k
theorem ln_808 : Cond.methodLink RL 66 yX7_thrown ∈ TB := tb_of 808 (by decide +kernel) (by decide +kernel)
theorem ln_809 : Cond.instanceMethod yX7_thrown ∈ TB := tb_of 809 (by decide +kernel) (by decide +kernel)
theorem ln_810 : Cond.selects RX7 yX7_thrown yX7_thrown ∈ TB := tb_of 810 (by decide +kernel) (by decide +kernel)
theorem si_RL_66 : Site RL 66 mX7_thrown 7 0 := ⟨ln_808, ln_809, ln_810, cw_X7_thrown, ⟨_, rfl⟩, ⟨_, rfl, rfl⟩, by decide⟩
theorem ln_59 : Cond.initialized RL ∈ TB := tb_of 59 (by decide +kernel) (by decide +kernel)
theorem L_caseT {yL : MethodName} {cc : ByteArray} {iw B i1 i2 n2 : Nat} {off : Int} {M1 M2 : MI} {t2 : FieldType} {ok : St → Int → Int → Prop} (hl0 : l.stackTraces = false) (hF : LF p R s m args c cI cA cL D ad A qo b L xs cells slots) (hG : LG s cI cA cL D ad A qo b x4 σ v H locs ls) (hC : C_t B i1 i2 off) (hyp : plainName yL.cls = true) (hyc : yL.cls = RL) (hyn : (parseMethodDescriptor yL.desc).map (fun d => d.parameters.length) = some 4) (hWr : WrC cc iw) (s1 : Site RL iw M1 6 2) (w1 : Cond.methodLink RL i1 yL ∈ TB) (w2 : Cond.static yL ∈ TB) (w3 : Cond.codeWith yL cc 5 (some .int) [(0, 10, 13, 13)] ∈ TB) (s2 : Site RL i2 M2 7 2) (hr2 : M2.2.2.2 = some t2) (hd2 : n2 ≤ 4) (hm2 : M2.2.2.1 ≤ 60) (hi1 : vp_in (x4 + 1) L) (hi2 : vp_in (x4 + 2) L)
    (hmt : ∀ (x y : Int32) (sz : Nat), MetT l M1 [.inr 6, .inl x.toInt, .inl y.toInt] (ok σ x.toInt y.toInt) (fun z τ => Wp M2 n2 (fun w υ => w = z ∧ υ 7 0 = 0 ∧ RelS υ υ) 0 (entl M2.2.2.1 [.inr 7, .inl x.toInt, .inl y.toInt]) [] τ) cI cA D ad σ sz)
    (hbx : ∀ (u w : Int), InR u → InR w → ¬ ok σ u w → Wp M2 n2 (fun y υ => υ 7 0 = 1 ∧ RelS υ υ) 0 (entl M2.2.2.1 [.inr 7, .inl u, .inl w]) [] σ)
    (kk : ∀ (τ : St) (w : Nat → Int64) (H1 : Heap) (locs1 : List Loc) (ls1 : Array Slot), LG s cI cA cL D ad A qo b x4 τ w H1 locs1 ls1 → W p l e R s m args below meth c H1 locs1 (cells + 1) (slots + 6) Q (F0 m 970 ls1 [])) : W p l e R s m args below meth c H locs cells slots Q (F0 m B ls []) := by
  obtain ⟨d0, d1, d2, d4, d5, d6, d7, d8, d10, d11, d12, d13, d14, d17, d19, d20, d21, d23, d24, d25, d26, d27, d29, d30, d31, d32, d35, d37, d38, d41, d43, d48, d50, d53, d54, d55, d56, d58, d59, d60, d65, hoff⟩ := hC
  obtain ⟨hc, hX, hbl, hbA, hqo, hAq, hKL, hT, hR, hcs⟩ := id hF
  obtain ⟨hx, hb, hml, hown, hts, hK, hA, hap⟩ := id hc
  obtain ⟨hrg, hrel, hP, hPo, hS, hl⟩ := id hG
  have hcs0 : cells + 1 ≤ R.cells ∧ slots + 6 ≤ R.slots := hcs
  have hAA : ∀ q, va_A (Wd cI cA ad σ ++ [(qo, oC cL v)]) H.size q → A q := by
    intro q hq
    rcases hq with ⟨k, e0, hk⟩ | hq
    · exact (out_D (cL := cL) hap σ v hqo hAq).2 k (q, e0) hk
    · exact hA q (Nat.le_trans hS.1 hq)
  have hTH : ThrOK (va_A (Wd cI cA ad σ ++ [(qo, oC cL v)]) H.size) s H := (hT.kept hS.2.1).narrow hAA
  refine lv_aload_n hx hb d0 rfl (lv_at hl 1 rfl) ?_
  refine L_arg (kv := 1) hF hG d1 d2 d4 (by decide) d5 d6 hi1 ?_
  refine L_arg (kv := 2) hF hG d7 d8 d10 (by decide) d11 d12 hi2 ?_
  refine lv_aload_n hx hb d13 rfl (lv_at hl 3 rfl) ?_
  generalize hx1 : xs (x4 + 1).toNatClampNeg = a1
  generalize hx2 : xs (x4 + 2).toNatClampNeg = a2
  have hmet := c_wr (ok := ok σ a1.toInt a2.toInt) hyp hyc hWr s1 l cI cA cL D hap σ hrg a1 a2 qo v hqo H.size (hmt a1 a2)
  refine va_calli (vx_runSW (As := [.ref (ad 6), .int a1, .int a2, .ref qo]) (rest := []) (hh := [(0, 10, 13, 13)]) ⟨hx, hb, hml, hown, hts⟩ hmet (vx_cwSW 4 hts (tb_goodIn ?_) rfl rfl rfl ⟨?_, ?_, hyn⟩ ⟨by show 7 + 1 ≤ _; omega, by show 8 + (5 + 11) + 260 ≤ _; omega⟩) ⟨fun a U g mk q => ?_, fun U hU hW => ⟨rfl, by rw [hU], by rw [hU]; exact hP, by rw [hU]; exact hPo, va_K.moved hW.alike hK, va_K.moved hW.alike hKL, by rw [hU]; exact hTH.warm hW⟩⟩ rfl rfl hl.1 rfl (lv_room (Nat.le_of_ble_eq_true rfl)) d14 hcs) hS (fun q _ h => hAA q h) hAA (fun r u t H1 locs1 ht hvm hpost hB hz hk hS1 => ?_)
  · intro w hw
    unfold va_wsS at hw
    simp only [List.mem_append, List.mem_cons, List.not_mem_nil, or_false] at hw
    rcases hw with (rfl | rfl | rfl) | rfl | hw
    · exact w1
    · exact w2
    · rw [hyc]; exact ln_59
    · exact w3
    · exact hw
  · rw [hyc]; decide
  · rw [hyc]; decide
  · obtain ⟨q0, q1, q2, q3, q4, q5, q6⟩ := q
    exact ⟨q0, q1, q2, q3, va_K.moved (u := U) (U := U.calling g mk a) (Vm.Alike.refl U.vm) q4, va_K.moved (u := U) (U := U.calling g mk a) (Vm.Alike.refl U.vm) q5, ThrOK.same (s := U) (U := U.calling g mk a) rfl q6⟩
  obtain ⟨z0, τ, v1⟩ := u
  obtain ⟨hP1, hPo1⟩ := hB
  rw [ht] at hP1 hPo1
  obtain ⟨hrg1, hpost⟩ := hpost
  dsimp only at hP1 hPo1 hrg1 hpost
  refine lv_istore (lv' := [(5, .int r), (0, .ref b), (1, .ref (ad 6)), (2, .ref (ad 7)), (3, .ref qo), (4, .int x4)]) hx hb d17 hl (by decide) rfl (fun ls1 hl1 => ?_)
  have hl1 := lv_sub (l' := [(0, .ref b), (1, .ref (ad 6)), (2, .ref (ad 7)), (3, .ref qo), (4, .int x4), (5, .int r)]) hl1 [1, 2, 3, 4, 5, 0] rfl
  have hF1 : LF p R s m args c cI cA cL D ad A qo b L xs cells slots := hF
  refine lv_aload_n hx hb d19 rfl (lv_at hl1 2 rfl) ?_
  refine L_argS2 (kv := 1) hF1 hS1 hl1 d20 d21 d23 (by decide) d24 d25 hi1 ?_
  refine L_argS2 (kv := 2) hF1 hS1 hl1 d26 d27 d29 (by decide) d30 d31 hi2 ?_
  rw [hx1, hx2]
  have hmod : ∃ wz : Int32, Wp M2 n2 (fun y υ => RelS υ υ ∧ Int32.ofInt (υ 7 0) = r ∧ (r = 0 → v1 0 = (Int32.ofInt y).toInt64)) 0 (entl M2.2.2.1 [.inr 7, .inl a1.toInt, .inl a2.toInt]) [] τ := by
    refine ⟨0, ?_⟩
    rcases hpost with ⟨r0, hok, hq, ho⟩ | ⟨r1, hno, rfl⟩
    · refine Wp.mono hq (fun y υ hy => ⟨hy.2.2, by rw [hy.2.1, r0]; rfl, fun _ => by rw [hy.1]; exact ho⟩)
    · refine Wp.mono (hbx a1.toInt a2.toInt (InR_of _) (InR_of _) hno) (fun y υ hy => ⟨hy.2, by rw [hy.1, r1]; rfl, fun h => by rw [r1] at h; exact absurd h (by decide)⟩)
  obtain ⟨-, hmod⟩ := hmod
  refine L_c2 (M' := M2) (k := 7) (d' := n2) hc hrg1 hP1 hS1 hl1.1 d32 s2 hr2 (by omega) (by omega) (Nat.zero_le _) hcs0 hmod (fun y υ H2 locs2 hrg2 hy hP2 hS2 hz2 hk2 => ?_)
  have hPo2 := out_keep hqo hPo1 hk2
  obtain ⟨hrel2, ht2, hv2⟩ := hy
  refine lv_istore (lv' := [(6, .int (Int32.ofInt y)), (0, .ref b), (1, .ref (ad 6)), (2, .ref (ad 7)), (3, .ref qo), (4, .int x4), (5, .int r)]) hx hb d35 hl1 (by decide) rfl (fun ls2 hl2 => ?_)
  refine lv_aload_n hx hb d37 rfl (lv_at hl2 3 rfl) ?_
  refine L_c0 (M' := mX7_thrown) (k := 7) (d' := 0) hc hrg2 hP2 hS2 hl2.1 d38 si_RL_66 rfl (by omega) (by show 8 + (1 + 11) + 36 * 0 ≤ _; omega) (Nat.zero_le _) hcs0 (cm_thrown υ) (fun z3 υ3 H3 locs3 hrg3 hy3 hP3 hS3 hz3 hk3 => ?_)
  have hPo3 := out_keep hqo hPo2 hk3
  obtain ⟨rfl, rfl⟩ := hy3
  refine lv_iload hx hb d41 (lv_at hl2 6 rfl) ?_
  refine lv_icmp_eq (tgt := B + 48) hx hb d43 (by omega) (fun _ => ?_) (fun c9 => absurd ht2 c9)
  refine lv_iload hx hb d48 (lv_at hl2 6 rfl) ?_
  have hend : W p l e R s m args below meth c H3 locs3 (cells + 1) (slots + 6) Q (F0 m (B + 65) ls2 []) := by
    refine lv_goto (tgt := 970) hx hb d65 hoff ?_
    exact kk υ3 v1 H3 locs3 ls2 ⟨hrg3, hrel2, hP3, hPo3, hS3, lv_sub hl2 [1, 2, 3, 4, 5] rfl⟩
  refine lv_if_ne (tgt := B + 65) hx hb d50 (by omega) (fun _ => hend) (fun r0 => ?_)
  refine lv_aload_n hx hb d53 rfl (lv_at hl2 4 rfl) ?_
  refine lv_iconst (v := 0) hx hb d54 (by decide) ?_
  refine va_lald hx hb hKL hPo3 0 0 rfl rfl vp_00 d55 ?_
  refine lv_iload hx hb d56 (lv_at hl2 0 rfl) ?_
  refine lv_i2l (v := (Int32.ofInt y).toInt64) hx hb d58 rfl ?_
  refine W.lcmp hx hb d59 ?_
  refine lv_if_eq (tgt := B + 65) hx hb d60 (by omega) (fun _ => hend) (fun c9 => absurd ?_ c9)
  show lg_cmp (v1 0) _ = 0
  rw [hv2 r0]
  simp [lg_cmp]
end LAWC
