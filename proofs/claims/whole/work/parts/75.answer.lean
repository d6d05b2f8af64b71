/-! answer(): what it needs to throw -/
def TXX (A : Nat → Prop) (U : State) (H : Heap) : Prop := (∃ sa : Nat, vk_R RX9 356 "no such answer" sa U) ∧ va_Nw (.castable "java/util/NoSuchElementException" "java/util/NoSuchElementException") U ∧ va_Nw (.declares (Bundle.initS "java/lang/RuntimeException")) U ∧ va_Nw (.declares (Bundle.initS "java/lang/Exception")) U ∧ va_Nw (.declares (Bundle.initS Bundle.tN)) U ∧ vx_Zq Bundle.tN "UNASSIGNED_STACK" Bundle.steD A U H ∧ vx_Zq Bundle.tN "SUPPRESSED_SENTINEL" Bundle.listD A U H
theorem TXX.use {A : Nat → Prop} {s U : State} {H : Heap} {locs : List Loc} (hW : s.WarmedH U.vm) (hS : va_S A s.heap H locs) (h : TXX A s s.heap) : TXX (fun _ => False) U H := by
  obtain ⟨⟨sa, h1⟩, h2, h3, h4, h5, h6, h7⟩ := h
  exact ⟨⟨sa, vk_R.warm hW h1⟩, h2.warmC hW, h3.warmD hW, h4.warmD hW, h5.warmD hW, (vx_Zq.moved hW.alike (h6.kept hS.2.1)).narrow (fun _ q => q.elim), (vx_Zq.moved hW.alike (h7.kept hS.2.1)).narrow (fun _ q => q.elim)⟩
theorem TXX.call {A : Nat → Prop} {U : State} (g : JFrame) (mk : MethodId) (a : Array Value) (h : TXX A U U.heap) : TXX A (U.calling g mk a) (U.calling g mk a).heap := by
  obtain ⟨⟨sa, h1⟩, h2, h3, h4, h5, h6, h7⟩ := h
  exact ⟨⟨sa, vk_R.same rfl h1⟩, va_Nw.same rfl (u := U) rfl h2, va_Nw.same rfl (u := U) rfl h3, va_Nw.same rfl (u := U) rfl h4, va_Nw.same rfl (u := U) rfl h5, vx_Zq.moved (u := U) (U := U.calling g mk a) (Vm.Alike.refl U.vm) h6, vx_Zq.moved (u := U) (U := U.calling g mk a) (Vm.Alike.refl U.vm) h7⟩
theorem blRT {av : List Value} {D : va_G} {cl : List vw_C} {ws : va_W} {tys : List (ClassId × FieldType)} {A : Nat → Prop} : FrameBlind (va_Pc av (fun U => va_P D cl ws U.heap ∧ va_K D cl tys U ∧ TXX A U U.heap)) := by
  intro a U g mk q
  obtain ⟨q0, qP, qK, qX⟩ := q
  exact ⟨q0, qP, va_K.moved (u := U) (U := U.calling g mk a) (Vm.Alike.refl U.vm) qK, qX.call g mk a⟩
def axW : List Cond := ((axAll RX9 358 "java/util/NoSuchElementException" "java/lang/RuntimeException" 13 prog_32_method_4_code ["java/lang/Exception"]).filter vx_no).filter goodWord
theorem axL : axLinks prog_32_method_4_code 13 := ⟨by decide +kernel, by decide +kernel, by decide +kernel, by decide +kernel⟩
def wsA9 : List Cond := .code yX9_answer cX9_answer 2 (some .long) :: ([.classLink RX9 354 "java/util/NoSuchElementException", .initialized "java/util/NoSuchElementException", .fieldLink RX9 41 "LongRuns" "answers" "LLongRuns$Answers;", .fieldLink RX9 350 "LongRuns$Answers" "size" "I", .fieldLink RX9 361 "LongRuns$Answers" "numbers" "[J"] ++ wsX90 ++ wsX00 ++ axW)
def wsAL : List Cond := .codeWith yL_answer cL_answer 4 (some .int) [(0, 8, 11, 13)] :: ([.classLink RL 13 "java/util/NoSuchElementException", .methodLink RL 7 yX9_answer, .instanceMethod yX9_answer, .selects RX9 yX9_answer yX9_answer, .initialized RX9] ++ wsA9)
set_option maxRecDepth 100000 in
theorem gA_X9 : GoodIn wsAL (wsV RL 7 RX9 yX9_answer wsA9) := goodIn_app (goodIn_of _ (by decide +kernel)) (goodIn_sub (fun _ h => List.mem_cons_of_mem _ (List.mem_append_right _ h)) (by decide +kernel))
def wsAS : List Cond := va_wsS RL 172 yL_answer wsAL
set_option maxRecDepth 100000 in
theorem wsAS_in : ∀ w ∈ wsAS, w ∈ lw_tbl := by decide +kernel
set_option maxRecDepth 100000 in
theorem gAS : GoodIn wsAS (va_wsS RL 172 yL_answer wsAL) := goodIn_sub (fun _ h => h) (by decide +kernel)
abbrev rm_X9_answer : Room := { frames := 0, cells := 0, slots := 0, locals := 0 }
abbrev rm_X9_answerT : Room := { frames := 6, cells := 1, slots := 6, locals := 100 }
abbrev rm_L_answer : Room := { frames := 1, cells := 0, slots := 0, locals := 40 }
abbrev rm_L_answerT : Room := { frames := 7, cells := 1, slots := 6, locals := 140 }
set_option maxHeartbeats 4000000 in
set_option maxRecDepth 100000 in
theorem c_X9_answer_ok (l : Launch) (dC : Nat → ClassId) (dI : Nat → Nat → Nat) (cB cC cI cJ cZ cT : ClassId) (h0 q_now q_past q_kept q_isKept q_text q_answers q_ranks q_order q_line qn : Nat) (v_size : Int32) (nu : Nat → Int64) (x1 : Int32) (h1 : ¬ x1 < 0) (h2 : x1 < v_size) (h3 : vp_in x1 32) : Met l yX9_answer wsA9 rm_X9_answer (va_Pc [.ref h0, .int x1] (fun U => va_P (dC, dI) vwCl [(h0, .inr (7, [.ref q_now, .ref q_past, .ref q_kept, .ref q_isKept, .ref q_text, .ref q_answers, .ref q_ranks, .ref q_order, .ref q_line])), (q_answers, .inr (0, [.ref qn, .int v_size])), (qn, .inl (cJ, 32, .inr (.inl nu)))] U.heap ∧ va_K (dC, dI) vwCl (tyA cB cC cI cJ cZ cT) U)) (vp_Sl (fun r => nu x1.toNatClampNeg = r)) 0 0 (fun _ => False) := by
  refine Met.ofW (cc := cX9_answer) (maxL := 2) (ret := (some .long)) (by decide +kernel) rfl ?_
  intro p e s m args below meth c s₁ B hml hv
  obtain ⟨hav, hP, hK⟩ := hv
  have hx := B.exec
  have hb := B.bytes
  have hr := B.returns
  have hts := atoms_spec (ws := wsA9) B.pre
  have hown : s.vm.findClass RX9 = some m.cls := findClass_of_methodNamed B.named
  have hlocks := B.notSynchronized
  refine wstart (rm := rm_X9_answer) hav (Nat.le_of_ble_eq_true rfl) (fun QQ ls hQQ hl => ?_)
  have hl : lv_has ls 2 [(0, .ref h0), (1, .int x1)] := hl
  have hi_X9 : ∀ w ∈ u_ws RX9 TX9 9, w ∈ wsA9 := by decide +kernel
  have hi_X0 : ∀ w ∈ u_ws RX0 TX0 2, w ∈ wsA9 := by decide +kernel
  refine lv_iload_n hx hb dX9_answer_0 rfl (lv_at hl 1 rfl) ?_
  refine lv_if_lt (tgt := 15) hx hb dX9_answer_1 (by decide) (fun c1 => absurd c1 h1) (fun c1 => ?_)
  refine lv_iload_n hx hb dX9_answer_4 rfl (lv_at hl 1 rfl) ?_
  refine lv_aload_n hx hb dX9_answer_5 rfl (lv_at hl 0 rfl) ?_
  refine va_get (D := (dC, dI)) (ci := 7) (v := .ref q_answers) (C := RX9) (T := TX9) (N := 9) hx hb hts hi_X9 hown hK hP 0 rfl rfl 5 (by decide) (hts _ (List.mem_of_getElem? (i := 3) rfl)) (fun _ h9 => h9) rfl dX9_answer_6 ?_
  refine va_get (D := (dC, dI)) (ci := 0) (v := .int v_size) (C := RX0) (T := TX0) (N := 2) hx hb hts hi_X0 hown hK hP 1 rfl rfl 1 (by decide) (hts _ (List.mem_of_getElem? (i := 4) rfl)) (fun _ h9 => h9) rfl dX9_answer_9 ?_
  refine lv_icmp_lt (tgt := 26) hx hb dX9_answer_12 (by decide) (fun c2 => ?_) (fun c2 => absurd h2 c2)
  refine lv_aload_n hx hb dX9_answer_26 rfl (lv_at hl 0 rfl) ?_
  refine va_get (D := (dC, dI)) (ci := 7) (v := .ref q_answers) (C := RX9) (T := TX9) (N := 9) hx hb hts hi_X9 hown hK hP 0 rfl rfl 5 (by decide) (hts _ (List.mem_of_getElem? (i := 3) rfl)) (fun _ h9 => h9) rfl dX9_answer_27 ?_
  refine va_get (D := (dC, dI)) (ci := 0) (v := .ref qn) (C := RX0) (T := TX0) (N := 2) hx hb hts hi_X0 hown hK hP 1 rfl rfl 0 (by decide) (hts _ (List.mem_of_getElem? (i := 5) rfl)) (fun _ h9 => h9) rfl dX9_answer_30 ?_
  refine lv_iload_n hx hb dX9_answer_33 rfl (lv_at hl 1 rfl) ?_
  refine va_lald hx hb hK hP 2 1 rfl rfl h3 dX9_answer_34 ?_
  rw [hQQ]
  exact W.lret hx hb hr (fun t ht hW => ⟨_, rfl, rfl, ht⟩) (fun q hq => absurd hq List.not_mem_nil) dX9_answer_35
set_option maxHeartbeats 4000000 in
set_option maxRecDepth 100000 in
theorem c_X9_answer_no (l : Launch) (hst : l.stackTraces = false) (dC : Nat → ClassId) (dI : Nat → Nat → Nat) (cB cC cI cJ cZ cT : ClassId) (h0 q_now q_past q_kept q_isKept q_text q_answers q_ranks q_order q_line qn : Nat) (v_size : Int32) (x1 : Int32) (hno : x1 < 0 ∨ ¬ x1 < v_size) : vx_Met l yX9_answer wsA9 rm_X9_answerT (va_Pc [.ref h0, .int x1] (fun U => va_P (dC, dI) vwCl [(h0, .inr (7, [.ref q_now, .ref q_past, .ref q_kept, .ref q_isKept, .ref q_text, .ref q_answers, .ref q_ranks, .ref q_order, .ref q_line])), (q_answers, .inr (0, [.ref qn, .int v_size]))] U.heap ∧ va_K (dC, dI) vwCl (tyA cB cC cI cJ cZ cT) U ∧ TXX (fun _ => False) U U.heap)) (va_Ql (fun (_ : Int64) (_ : Unit) => False) (fun _ _ => True) (fun _ => False)) (vx_X (fun _ : Unit => True) (fun E _ _ => E = "java/util/NoSuchElementException") (fun _ => False)) 1 6 (fun _ => False) := by
  refine vx_ofW (cc := cX9_answer) (maxL := 2) (ret := (some .long)) (by decide +kernel) rfl ?_
  intro p e s m args below meth c s₁ B hml hex hv
  obtain ⟨hav, hP, hK, hT⟩ := hv
  have hx := B.exec
  have hb := B.bytes
  have hr := B.returns
  have hts := atoms_spec (ws := wsA9) B.pre
  have hown : s.vm.findClass RX9 = some m.cls := findClass_of_methodNamed B.named
  have hlocks := B.notSynchronized
  obtain ⟨⟨sa, t1⟩, t2, t3, t4, t5, t6, t7⟩ := hT
  refine wstart (rm := rm_X9_answerT) hav (Nat.le_of_ble_eq_true rfl) (fun QQ ls hQQ hl => ?_)
  have hl : lv_has ls 2 [(0, .ref h0), (1, .int x1)] := hl
  have hi_X9 : ∀ w ∈ u_ws RX9 TX9 9, w ∈ wsA9 := by decide +kernel
  have hi_X0 : ∀ w ∈ u_ws RX0 TX0 2, w ∈ wsA9 := by decide +kernel
  have hat : ∀ w ∈ (axAll RX9 358 "java/util/NoSuchElementException" "java/lang/RuntimeException" 13 prog_32_method_4_code ["java/lang/Exception"]).filter vx_no, w.before args s = true :=
    vx_hat (B := [.castable "java/util/NoSuchElementException" "java/util/NoSuchElementException", .declares (Bundle.initS "java/lang/RuntimeException"), .declares (Bundle.initS "java/lang/Exception"), .declares (Bundle.initS Bundle.tN)]) (fun w hw => hts w (List.mem_cons_of_mem _ (List.mem_append_right _ hw))) (by decide +kernel) (vx_c (va_Nw.use rfl t2) (vx_c (va_Nw.use rfl t3) (vx_c (va_Nw.use rfl t4) (vx_c (va_Nw.use rfl t5) vx_n))))
  have hth : W p l e rm_X9_answerT s m args below meth c s.heap [] 0 0 QQ (F0 m 15 ls []) := by
    rw [hQQ]
    exact ax_throwW (A := fun _ => False) (text := "no such answer") (Y := "java/lang/RuntimeException") (r := ["java/lang/Exception"]) (ik := 354) (is := 356) (ic := 358) (sa := sa) hx hb hst axL hown (by decide +kernel) (by decide +kernel) (by decide +kernel) (hts _ (List.mem_of_getElem? (i := 1) rfl)) (hts _ (List.mem_of_getElem? (i := 2) rfl)) t1 hat (by decide +kernel) t6 t7 va_S.rf (hl.1.trans hml.symm) dX9_answer_15 dX9_answer_18 dX9_answer_19 dX9_answer_22 dX9_answer_25 (fun x hx => (hex x hx).elim) (Nat.le_of_ble_eq_true rfl) (Nat.le_of_ble_eq_true rfl) (Nat.le_of_ble_eq_true rfl) (Nat.le_of_ble_eq_true rfl) hlocks (fun t ht k1 k2 => ⟨(), trivial, rfl, k1, fun q hq _ => k2 q hq⟩) (fun z hz => absurd hz List.not_mem_nil) (Nat.le_refl _) (Nat.le_refl _)
  refine lv_iload_n hx hb dX9_answer_0 rfl (lv_at hl 1 rfl) ?_
  refine lv_if_lt (tgt := 15) hx hb dX9_answer_1 (by decide) (fun c1 => hth) (fun c1 => ?_)
  refine lv_iload_n hx hb dX9_answer_4 rfl (lv_at hl 1 rfl) ?_
  refine lv_aload_n hx hb dX9_answer_5 rfl (lv_at hl 0 rfl) ?_
  refine va_get (D := (dC, dI)) (ci := 7) (v := .ref q_answers) (C := RX9) (T := TX9) (N := 9) hx hb hts hi_X9 hown hK hP 0 rfl rfl 5 (by decide) (hts _ (List.mem_of_getElem? (i := 3) rfl)) (fun _ h9 => h9) rfl dX9_answer_6 ?_
  refine va_get (D := (dC, dI)) (ci := 0) (v := .int v_size) (C := RX0) (T := TX0) (N := 2) hx hb hts hi_X0 hown hK hP 1 rfl rfl 1 (by decide) (hts _ (List.mem_of_getElem? (i := 4) rfl)) (fun _ h9 => h9) rfl dX9_answer_9 ?_
  exact lv_icmp_lt (tgt := 26) hx hb dX9_answer_12 (by decide) (fun c2 => hno.elim (fun z => absurd z c1) (fun z => absurd c2 z)) (fun c2 => hth)
set_option maxHeartbeats 4000000 in
set_option maxRecDepth 100000 in
theorem c_L_answer_ok (l : Launch) (dC : Nat → ClassId) (dI : Nat → Nat → Nat) (cB cC cI cJ cZ cT : ClassId) (h0 q_now q_past q_kept q_isKept q_text q_answers q_ranks q_order q_line qn : Nat) (z sz : Nat) (v_size : Int32) (nu vo : Nat → Int64) (x1 : Int32) (h1 : ¬ x1 < 0) (h2 : x1 < v_size) (h3 : vp_in x1 32) : vx_Met l yL_answer wsAL rm_L_answer (va_Pc [.ref h0, .int x1, .ref z] (fun U => U.heap.size = sz ∧ va_P (dC, dI) vwCl [(h0, .inr (7, [.ref q_now, .ref q_past, .ref q_kept, .ref q_isKept, .ref q_text, .ref q_answers, .ref q_ranks, .ref q_order, .ref q_line])), (q_answers, .inr (0, [.ref qn, .int v_size])), (qn, .inl (cJ, 32, .inr (.inl nu))), (z, .inl (cJ, 1, .inr (.inl vo)))] U.heap ∧ va_K (dC, dI) vwCl (tyA cB cC cI cJ cZ cT) U ∧ va_D (fun _ => True) [(h0, .inr (7, [.ref q_now, .ref q_past, .ref q_kept, .ref q_isKept, .ref q_text, .ref q_answers, .ref q_ranks, .ref q_order, .ref q_line])), (q_answers, .inr (0, [.ref qn, .int v_size])), (qn, .inl (cJ, 32, .inr (.inl nu))), (z, .inl (cJ, 1, .inr (.inl vo)))])) (va_Qi (fun (r : Int32) (_ : Unit) => 0 = r) (fun _ t => va_P (dC, dI) vwCl [(h0, .inr (7, [.ref q_now, .ref q_past, .ref q_kept, .ref q_isKept, .ref q_text, .ref q_answers, .ref q_ranks, .ref q_order, .ref q_line])), (q_answers, .inr (0, [.ref qn, .int v_size])), (qn, .inl (cJ, 32, .inr (.inl nu))), (z, .inl (cJ, 1, .inr (.inl (vp_updL vo (0 : Int32).toNatClampNeg (nu x1.toNatClampNeg)))))] t.heap ∧ va_K (dC, dI) vwCl (tyA cB cC cI cJ cZ cT) t ∧ va_D (va_A [(h0, .inr (7, [.ref q_now, .ref q_past, .ref q_kept, .ref q_isKept, .ref q_text, .ref q_answers, .ref q_ranks, .ref q_order, .ref q_line])), (q_answers, .inr (0, [.ref qn, .int v_size])), (qn, .inl (cJ, 32, .inr (.inl nu))), (z, .inl (cJ, 1, .inr (.inl vo)))] sz) [(h0, .inr (7, [.ref q_now, .ref q_past, .ref q_kept, .ref q_isKept, .ref q_text, .ref q_answers, .ref q_ranks, .ref q_order, .ref q_line])), (q_answers, .inr (0, [.ref qn, .int v_size])), (qn, .inl (cJ, 32, .inr (.inl nu))), (z, .inl (cJ, 1, .inr (.inl (vp_updL vo (0 : Int32).toNatClampNeg (nu x1.toNatClampNeg)))))]) (va_A [(h0, .inr (7, [.ref q_now, .ref q_past, .ref q_kept, .ref q_isKept, .ref q_text, .ref q_answers, .ref q_ranks, .ref q_order, .ref q_line])), (q_answers, .inr (0, [.ref qn, .int v_size])), (qn, .inl (cJ, 32, .inr (.inl nu))), (z, .inl (cJ, 1, .inr (.inl vo)))] sz)) (vx_X (fun _ : Unit => False) (fun _ _ _ => True) (fun _ => False)) 0 0 (va_A [(h0, .inr (7, [.ref q_now, .ref q_past, .ref q_kept, .ref q_isKept, .ref q_text, .ref q_answers, .ref q_ranks, .ref q_order, .ref q_line])), (q_answers, .inr (0, [.ref qn, .int v_size])), (qn, .inl (cJ, 32, .inr (.inl nu))), (z, .inl (cJ, 1, .inr (.inl vo)))] sz) := by
  refine vx_ofWH (cc := cL_answer) (maxL := 4) (ret := (some .int)) (hh := [(0, 8, 11, 13)]) (by decide +kernel) rfl ?_
  intro p e s m args below meth c s₁ B hml hv
  obtain ⟨hav, hsz, hP, hK, hD0⟩ := hv
  have hx := B.exec
  have hb := B.bytes
  have hr := B.returns
  have hts := atoms_spec (ws := wsAL) B.pre
  have hown : s.vm.findClass RL = some m.cls := findClass_of_methodNamed B.named
  have hlocks := B.notSynchronized
  subst hsz
  have hD := hD0.self (sz := s.heap.size)
  generalize hAe : va_A [(h0, .inr (7, [.ref q_now, .ref q_past, .ref q_kept, .ref q_isKept, .ref q_text, .ref q_answers, .ref q_ranks, .ref q_order, .ref q_line])), (q_answers, .inr (0, [.ref qn, .int v_size])), (qn, .inl (cJ, 32, .inr (.inl nu))), (z, .inl (cJ, 1, .inr (.inl vo)))] s.heap.size = A at hD ⊢
  have hA : ∀ q : Nat, s.heap.size ≤ q → A q := fun q h => by rw [← hAe]; exact Or.inr h
  have hS : va_S A s.heap s.heap [] := va_S.rf
  refine wstart (rm := rm_L_answer) hav (Nat.le_of_ble_eq_true rfl) (fun QQ ls hQQ hl => ?_)
  have hl : lv_has ls 4 [(0, .ref h0), (1, .int x1), (2, .ref z)] := hl
  refine lv_aload_n hx hb dL_answer_0 rfl (lv_at hl 2 rfl) ?_
  refine lv_iconst (v := 0) hx hb dL_answer_1 (by decide) ?_
  refine lv_aload_n hx hb dL_answer_2 rfl (lv_at hl 0 rfl) ?_
  refine lv_iload_n hx hb dL_answer_3 rfl (lv_at hl 1 rfl) ?_
  refine vp_callSl (va_Run.run (va_runV (As := [.int x1]) (rest := [.int 0, .ref z]) ⟨hx, hb, hml, hown, hts⟩ (c_X9_answer_ok l dC dI cB cC cI cJ cZ cT h0 q_now q_past q_kept q_isKept q_text q_answers q_ranks q_order q_line qn v_size nu x1 h1 h2 h3) (cwV 1 hts gA_X9 rfl rfl rfl (by decide +kernel) ⟨Nat.le_of_ble_eq_true rfl, Nat.le_of_ble_eq_true rfl⟩) ⟨blR, va_recv hK hP (ci := 7) (q0 := 0) rfl rfl, fun U hU hW => ⟨rfl, by rw [hU]; exact hP.sub [0, 1, 2] rfl, va_K.moved hW.alike hK⟩⟩ rfl rfl hl.1 rfl (lv_room (Nat.le_of_ble_eq_true rfl)) dL_answer_4 ⟨Nat.le_of_ble_eq_true rfl, Nat.le_of_ble_eq_true rfl⟩)) (fun r1 e1 => ?_)
  subst e1
  refine va_last hx hb hK hP hD hS 3 1 rfl rfl (of_decide_eq_false rfl) dL_answer_7 (fun H locs hP hD hS => ?_)
  replace hP : va_P (dC, dI) vwCl [(h0, .inr (7, [.ref q_now, .ref q_past, .ref q_kept, .ref q_isKept, .ref q_text, .ref q_answers, .ref q_ranks, .ref q_order, .ref q_line])), (q_answers, .inr (0, [.ref qn, .int v_size])), (qn, .inl (cJ, 32, .inr (.inl nu))), (z, .inl (cJ, 1, .inr (.inl (vp_updL vo (0 : Int32).toNatClampNeg (nu x1.toNatClampNeg)))))] H := hP
  replace hD : va_D A [(h0, .inr (7, [.ref q_now, .ref q_past, .ref q_kept, .ref q_isKept, .ref q_text, .ref q_answers, .ref q_ranks, .ref q_order, .ref q_line])), (q_answers, .inr (0, [.ref qn, .int v_size])), (qn, .inl (cJ, 32, .inr (.inl nu))), (z, .inl (cJ, 1, .inr (.inl (vp_updL vo (0 : Int32).toNatClampNeg (nu x1.toNatClampNeg)))))] := hD
  refine lv_goto (tgt := 14) hx hb dL_answer_8 (by decide) ?_
  refine lv_iconst (v := 0) hx hb dL_answer_14 (by decide) ?_
  rw [hQQ]
  exact vx_ret (W.iret hx hb hr (fun t ht hW => ⟨⟨_, (), rfl, rfl, by rw [ht]; exact hP, va_K.moved hW.alike hK, hD⟩, hS.F ht⟩) hS.2.2 dL_answer_15)
set_option maxHeartbeats 4000000 in
set_option maxRecDepth 100000 in
theorem c_L_answer_no (l : Launch) (hst : l.stackTraces = false) (dC : Nat → ClassId) (dI : Nat → Nat → Nat) (cB cC cI cJ cZ cT : ClassId) (h0 q_now q_past q_kept q_isKept q_text q_answers q_ranks q_order q_line qn : Nat) (z : Nat) (v_size : Int32) (x1 : Int32) (hno : x1 < 0 ∨ ¬ x1 < v_size) : vx_Met l yL_answer wsAL rm_L_answerT (va_Pc [.ref h0, .int x1, .ref z] (fun U => va_P (dC, dI) vwCl [(h0, .inr (7, [.ref q_now, .ref q_past, .ref q_kept, .ref q_isKept, .ref q_text, .ref q_answers, .ref q_ranks, .ref q_order, .ref q_line])), (q_answers, .inr (0, [.ref qn, .int v_size]))] U.heap ∧ va_K (dC, dI) vwCl (tyA cB cC cI cJ cZ cT) U ∧ TXX (fun _ => False) U U.heap)) (va_Qi (fun (r : Int32) (_ : Unit) => 1 = r) (fun _ _ => True) (fun _ => False)) (vx_X (fun _ : Unit => False) (fun _ _ _ => True) (fun _ => False)) 1 6 (fun _ => False) := by
  refine vx_ofWH (cc := cL_answer) (maxL := 4) (ret := (some .int)) (hh := [(0, 8, 11, 13)]) (by decide +kernel) rfl ?_
  intro p e s m args below meth c s₁ B hml hv
  obtain ⟨hav, hP, hK, hT⟩ := hv
  have hx := B.exec
  have hb := B.bytes
  have hr := B.returns
  have hts := atoms_spec (ws := wsAL) B.pre
  have hown : s.vm.findClass RL = some m.cls := findClass_of_methodNamed B.named
  have hlocks := B.notSynchronized
  have htab : c.exceptionTable.toList = [] ++ (⟨0, 8, 11, 13⟩ : ExceptionTableEntry) :: [] := vx_table (x := yL_answer) B (hts _ (List.mem_of_getElem? (i := 0) rfl))
  have hS : va_S (fun _ => False) s.heap s.heap [] := va_S.rf
  refine wstart (rm := rm_L_answerT) hav (Nat.le_of_ble_eq_true rfl) (fun QQ ls hQQ hl => ?_)
  have hl : lv_has ls 4 [(0, .ref h0), (1, .int x1), (2, .ref z)] := hl
  refine lv_aload_n hx hb dL_answer_0 rfl (lv_at hl 2 rfl) ?_
  refine lv_iconst (v := 0) hx hb dL_answer_1 (by decide) ?_
  refine lv_aload_n hx hb dL_answer_2 rfl (lv_at hl 0 rfl) ?_
  refine lv_iload_n hx hb dL_answer_3 rfl (lv_at hl 1 rfl) ?_
  refine vx_calll (vx_runV (As := [.int x1]) (rest := [.int 0, .ref z]) ⟨hx, hb, hml, hown, hts⟩ (c_X9_answer_no l hst dC dI cB cC cI cJ cZ cT h0 q_now q_past q_kept q_isKept q_text q_answers q_ranks q_order q_line qn v_size x1 hno) (cwV 1 hts gA_X9 rfl rfl rfl (by decide +kernel) ⟨Nat.le_of_ble_eq_true rfl, Nat.le_of_ble_eq_true rfl⟩) ⟨blRT, va_recv hK hP (ci := 7) (q0 := 0) rfl rfl, fun U hU hW => ⟨rfl, by rw [hU]; exact hP.sub [0, 1] rfl, va_K.moved hW.alike hK, by rw [hU]; exact TXX.use hW hS hT⟩⟩ rfl rfl hl.1 rfl (lv_room (Nat.le_of_ble_eq_true rfl)) dL_answer_4 ⟨Nat.le_of_ble_eq_true rfl, Nat.le_of_ble_eq_true rfl⟩) hS (fun q _ h => h) (fun q h => h) (fun q _ h => h) (fun E ce q9 u t H1 locs1 ht hvm hpx hBX hz hk hS1 hcell hvn hfc => ?_) (fun r u t H1 locs1 ht hvm hpo => hpo.elim)
  subst hBX
  refine vx_catch (own := RL) (name := "java/util/NoSuchElementException") hown [] ⟨0, 8, 11, 13⟩ [] htab (fun y hy => absurd hy List.not_mem_nil) (by decide) (by decide) (hts _ (List.mem_of_getElem? (i := 1) rfl)) (va_Nw.use rfl hT.2.1) hcell hvn hfc ?_
  refine lv_astore_n (lv' := [(3, .ref q9), (0, .ref h0), (1, .int x1), (2, .ref z)]) hx hb dL_answer_11 rfl hl (by decide) rfl (fun ls hl => ?_)
  refine lv_iconst (v := 1) hx hb dL_answer_12 (by decide) ?_
  rw [hQQ]
  exact vx_ret (W.iret hx hb hr (fun t ht hW => ⟨⟨_, (), rfl, rfl, trivial⟩, hS1.F ht⟩) hS1.2.2 dL_answer_13)
