def f_X10_store (v_now : Nat → Int64) (x1 : Int32) (x2 : Int32) (x3 : Int32) (x4 : Int64) : Option (Nat → Int64) :=
  ((f_X10_kindOfWay x3).bind (fun o_206 => ((f_X10_cellAt x1 x2).bind (fun o_208 => (if o_206 = (-1 : Int32) then (if o_208 < 0 ∨ 120 ≤ (o_208).toNatClampNeg then none else (some (vp_updL v_now (o_208).toNatClampNeg x4))) else ((f_X10_kindOf v_now x1).bind (fun o_212 => (if o_212 < (8 : Int32) then ((f_X10_kindOf v_now x1).bind (fun o_215 => ((f_X10_widened x4 o_206 o_215).bind (fun o_217 => (if o_208 < 0 ∨ 120 ≤ (o_208).toNatClampNeg then none else (some (vp_updL v_now (o_208).toNatClampNeg o_217))))))) else (if o_208 < 0 ∨ 120 ≤ (o_208).toNatClampNeg then none else (some (vp_updL v_now (o_208).toNatClampNeg x4)))))))))))
abbrev rm_X10_store : Room := { frames := 3, cells := 0, slots := 0, locals := 67 }
set_option maxHeartbeats 4000000 in
set_option maxRecDepth 100000 in
theorem c_X10_store (l : Launch) (dC : Nat → ClassId) (dI : Nat → Nat → Nat) (cB cC cI cJ cZ cT : ClassId) (h0 q_now q_text q_row q_read q_ranks q_distinct q_proper q_line q_order q_then q_bestOrder q_lineThen q_undos q_was q_kept q_isKept : Nat) (sz : Nat) (v_typed : Int32) (v_rowMany : Int32) (v_thrown : Int32) (v_length : Int32) (v_at : Int32) (v_wrong : Int32) (v_properMany : Int32) (v_orderMany : Int32) (v_undoMany : Int32) (v_drawn : Int32) (v_now : Nat → Int64) (x1 : Int32) (x2 : Int32) (x3 : Int32) (x4 : Int64) (o : (Nat → Int64)) (hf : f_X10_store v_now x1 x2 x3 x4 = some o) : Met l yX10_store wsX10_store rm_X10_store (va_Pc [.ref h0, .int x1, .int x2, .int x3, .long x4] (fun U => U.heap.size = sz ∧ va_P (dC, dI) vwCl [(h0, .inr (8, [.ref q_now, .ref q_text, .int v_typed, .ref q_row, .int v_rowMany, .int v_thrown, .int v_length, .int v_at, .int v_wrong, .ref q_read, .ref q_ranks, .ref q_distinct, .ref q_proper, .int v_properMany, .ref q_line, .ref q_order, .int v_orderMany, .ref q_then, .ref q_bestOrder, .ref q_lineThen, .ref q_undos, .ref q_was, .int v_undoMany, .int v_drawn, .ref q_kept, .ref q_isKept])), (q_now, .inl (cJ, 120, .inr (.inl v_now)))] U.heap ∧ va_K (dC, dI) vwCl (tyA cB cC cI cJ cZ cT) U ∧ va_D (fun _ => True) [(h0, .inr (8, [.ref q_now, .ref q_text, .int v_typed, .ref q_row, .int v_rowMany, .int v_thrown, .int v_length, .int v_at, .int v_wrong, .ref q_read, .ref q_ranks, .ref q_distinct, .ref q_proper, .int v_properMany, .ref q_line, .ref q_order, .int v_orderMany, .ref q_then, .ref q_bestOrder, .ref q_lineThen, .ref q_undos, .ref q_was, .int v_undoMany, .int v_drawn, .ref q_kept, .ref q_isKept])), (q_now, .inl (cJ, 120, .inr (.inl v_now)))])) (va_Qv (fun _ : Unit => True) (fun _ t => va_P (dC, dI) vwCl [(h0, .inr (8, [.ref q_now, .ref q_text, .int v_typed, .ref q_row, .int v_rowMany, .int v_thrown, .int v_length, .int v_at, .int v_wrong, .ref q_read, .ref q_ranks, .ref q_distinct, .ref q_proper, .int v_properMany, .ref q_line, .ref q_order, .int v_orderMany, .ref q_then, .ref q_bestOrder, .ref q_lineThen, .ref q_undos, .ref q_was, .int v_undoMany, .int v_drawn, .ref q_kept, .ref q_isKept])), (q_now, .inl (cJ, 120, .inr (.inl o)))] t.heap ∧ va_K (dC, dI) vwCl (tyA cB cC cI cJ cZ cT) t ∧ va_D (va_A [(h0, .inr (8, [.ref q_now, .ref q_text, .int v_typed, .ref q_row, .int v_rowMany, .int v_thrown, .int v_length, .int v_at, .int v_wrong, .ref q_read, .ref q_ranks, .ref q_distinct, .ref q_proper, .int v_properMany, .ref q_line, .ref q_order, .int v_orderMany, .ref q_then, .ref q_bestOrder, .ref q_lineThen, .ref q_undos, .ref q_was, .int v_undoMany, .int v_drawn, .ref q_kept, .ref q_isKept])), (q_now, .inl (cJ, 120, .inr (.inl v_now)))] sz) [(h0, .inr (8, [.ref q_now, .ref q_text, .int v_typed, .ref q_row, .int v_rowMany, .int v_thrown, .int v_length, .int v_at, .int v_wrong, .ref q_read, .ref q_ranks, .ref q_distinct, .ref q_proper, .int v_properMany, .ref q_line, .ref q_order, .int v_orderMany, .ref q_then, .ref q_bestOrder, .ref q_lineThen, .ref q_undos, .ref q_was, .int v_undoMany, .int v_drawn, .ref q_kept, .ref q_isKept])), (q_now, .inl (cJ, 120, .inr (.inl o)))]) (va_A [(h0, .inr (8, [.ref q_now, .ref q_text, .int v_typed, .ref q_row, .int v_rowMany, .int v_thrown, .int v_length, .int v_at, .int v_wrong, .ref q_read, .ref q_ranks, .ref q_distinct, .ref q_proper, .int v_properMany, .ref q_line, .ref q_order, .int v_orderMany, .ref q_then, .ref q_bestOrder, .ref q_lineThen, .ref q_undos, .ref q_was, .int v_undoMany, .int v_drawn, .ref q_kept, .ref q_isKept])), (q_now, .inl (cJ, 120, .inr (.inl v_now)))] sz)) 0 0 (va_A [(h0, .inr (8, [.ref q_now, .ref q_text, .int v_typed, .ref q_row, .int v_rowMany, .int v_thrown, .int v_length, .int v_at, .int v_wrong, .ref q_read, .ref q_ranks, .ref q_distinct, .ref q_proper, .int v_properMany, .ref q_line, .ref q_order, .int v_orderMany, .ref q_then, .ref q_bestOrder, .ref q_lineThen, .ref q_undos, .ref q_was, .int v_undoMany, .int v_drawn, .ref q_kept, .ref q_isKept])), (q_now, .inl (cJ, 120, .inr (.inl v_now)))] sz) := by
  refine Met.ofW (cc := cX10_store) (maxL := 7) (ret := none) (by decide) rfl ?_
  intro p e s m args below meth c s₁ B hml hv
  obtain ⟨hav, hsz, hP, hK, hD0⟩ := hv
  have hx := B.exec
  have hb := B.bytes
  have hr := B.returns
  have hts := atoms_spec (ws := wsX10_store) B.pre
  have hown : s.vm.findClass RX10 = some m.cls := findClass_of_methodNamed B.named
  have hlocks := B.notSynchronized
  subst hsz
  have hD := hD0.self (sz := s.heap.size)
  generalize hAe : va_A [(h0, .inr (8, [.ref q_now, .ref q_text, .int v_typed, .ref q_row, .int v_rowMany, .int v_thrown, .int v_length, .int v_at, .int v_wrong, .ref q_read, .ref q_ranks, .ref q_distinct, .ref q_proper, .int v_properMany, .ref q_line, .ref q_order, .int v_orderMany, .ref q_then, .ref q_bestOrder, .ref q_lineThen, .ref q_undos, .ref q_was, .int v_undoMany, .int v_drawn, .ref q_kept, .ref q_isKept])), (q_now, .inl (cJ, 120, .inr (.inl v_now)))] s.heap.size = A at hD ⊢
  have hA : ∀ q : Nat, s.heap.size ≤ q → A q := fun q h => by rw [← hAe]; exact Or.inr h
  have hS : va_S A s.heap s.heap [] := va_S.rf
  refine wstart (rm := rm_X10_store) hav (Nat.le_of_ble_eq_true rfl) (fun QQ ls hQQ hl => ?_)
  have hl : lv_has ls 7 [(0, .ref h0), (1, .int x1), (2, .int x2), (3, .int x3), (4, .long x4)] := hl
  have hi_X10 : ∀ w ∈ u_ws RX10 TX10 26, w ∈ wsX10_store := by decide +kernel
  have h := hf
  unfold f_X10_store at h
  refine lv_iload_n hx hb dX10_store_0 rfl (lv_at hl 3 rfl) ?_
  obtain ⟨o_206, hr_206, h⟩ := ob h
  refine vp_callSi (va_Run.run (va_runS (As := [.int x3]) (rest := []) ⟨hx, hb, hml, hown, hts⟩ (c_X10_kindOfWay l dC dI cB cC cI cJ cZ cT x3 o_206 hr_206) (va_cwS 1 hts gX10_store_X10_kindOfWay rfl rfl rfl (by decide +kernel) ⟨Nat.le_of_ble_eq_true rfl, Nat.le_of_ble_eq_true rfl⟩) ⟨blT, fun U hU hW => ⟨rfl, trivial⟩⟩ rfl rfl hl.1 rfl (lv_room (Nat.le_of_ble_eq_true rfl)) dX10_store_1 ⟨Nat.le_of_ble_eq_true rfl, Nat.le_of_ble_eq_true rfl⟩)) (fun r_206 e_206 => ?_)
  subst e_206
  refine lv_istore (lv' := [(6, .int o_206), (0, .ref h0), (1, .int x1), (2, .int x2), (3, .int x3), (4, .long x4)]) hx hb dX10_store_4 hl (by decide) rfl (fun ls hl => ?_)
  refine lv_aload_n hx hb dX10_store_6 rfl (lv_at hl 1 rfl) ?_
  refine va_get (D := (dC, dI)) (ci := 8) (v := .ref q_now) (C := RX10) (T := TX10) (N := 26) hx hb hts hi_X10 hown hK hP 0 rfl rfl 0 (by decide) (hts _ (List.mem_of_getElem? (i := 1) rfl)) (fun _ h9 => h9) rfl dX10_store_7 ?_
  refine lv_iload_n hx hb dX10_store_10 rfl (lv_at hl 2 rfl) ?_
  refine lv_iload_n hx hb dX10_store_11 rfl (lv_at hl 3 rfl) ?_
  obtain ⟨o_208, hr_208, h⟩ := ob h
  refine vp_callSi (va_Run.run (va_runS (As := [.int x1, .int x2]) (rest := [.ref q_now]) ⟨hx, hb, hml, hown, hts⟩ (c_X10_cellAt l dC dI cB cC cI cJ cZ cT x1 x2 o_208 hr_208) (va_cwS 2 hts gX10_store_X10_cellAt rfl rfl rfl (by decide +kernel) ⟨Nat.le_of_ble_eq_true rfl, Nat.le_of_ble_eq_true rfl⟩) ⟨blT, fun U hU hW => ⟨rfl, trivial⟩⟩ rfl rfl hl.1 rfl (lv_room (Nat.le_of_ble_eq_true rfl)) dX10_store_12 ⟨Nat.le_of_ble_eq_true rfl, Nat.le_of_ble_eq_true rfl⟩)) (fun r_208 e_208 => ?_)
  subst e_208
  refine lv_iload hx hb dX10_store_15 (lv_at hl 0 rfl) ?_
  refine lv_iconst (v := -1) hx hb dX10_store_17 (by decide) ?_
  refine lv_icmp_eq (tgt := 31) hx hb dX10_store_18 (by decide) (fun c_210 => ?_) (fun c_210 => ?_)
  · replace h := op c_210 h
    refine lv_lload hx hb dX10_store_31 (lv_at hl 5 rfl) ?_
    refine lv_goto (tgt := 48) hx hb dX10_store_33 (by decide) ?_
    obtain ⟨hi_211, h⟩ := og h
    refine va_last hx hb hK hP hD hS 1 1 rfl rfl hi_211 dX10_store_48 (fun H locs hP hD hS => ?_)
    replace hP : va_P (dC, dI) vwCl [(h0, .inr (8, [.ref q_now, .ref q_text, .int v_typed, .ref q_row, .int v_rowMany, .int v_thrown, .int v_length, .int v_at, .int v_wrong, .ref q_read, .ref q_ranks, .ref q_distinct, .ref q_proper, .int v_properMany, .ref q_line, .ref q_order, .int v_orderMany, .ref q_then, .ref q_bestOrder, .ref q_lineThen, .ref q_undos, .ref q_was, .int v_undoMany, .int v_drawn, .ref q_kept, .ref q_isKept])), (q_now, .inl (cJ, 120, .inr (.inl (vp_updL v_now (o_208).toNatClampNeg x4))))] H := hP
    replace hD : va_D A [(h0, .inr (8, [.ref q_now, .ref q_text, .int v_typed, .ref q_row, .int v_rowMany, .int v_thrown, .int v_length, .int v_at, .int v_wrong, .ref q_read, .ref q_ranks, .ref q_distinct, .ref q_proper, .int v_properMany, .ref q_line, .ref q_order, .int v_orderMany, .ref q_then, .ref q_bestOrder, .ref q_lineThen, .ref q_undos, .ref q_was, .int v_undoMany, .int v_drawn, .ref q_kept, .ref q_isKept])), (q_now, .inl (cJ, 120, .inr (.inl (vp_updL v_now (o_208).toNatClampNeg x4))))] := hD
    rw [hQQ]
    have ho := Option.some.inj h
    subst ho
    exact W.vret hx hb hr (fun t ht hW => ⟨⟨(), rfl, trivial, by rw [ht]; exact hP, va_K.moved hW.alike hK, hD⟩, hS.F ht⟩) hS.2.2 dX10_store_49
  · replace h := on c_210 h
    refine lv_aload_n hx hb dX10_store_21 rfl (lv_at hl 1 rfl) ?_
    refine lv_iload_n hx hb dX10_store_22 rfl (lv_at hl 2 rfl) ?_
    obtain ⟨o_212, hr_212, h⟩ := ob h
    refine vp_callSi (va_Run.run (va_runV (As := [.int x1]) (rest := [.int o_208, .ref q_now]) ⟨hx, hb, hml, hown, hts⟩ (c_X10_kindOf l dC dI cB cC cI cJ cZ cT h0 q_now q_text q_row q_read q_ranks q_distinct q_proper q_line q_order q_then q_bestOrder q_lineThen q_undos q_was q_kept q_isKept v_typed v_rowMany v_thrown v_length v_at v_wrong v_properMany v_orderMany v_undoMany v_drawn v_now x1 o_212 hr_212) (cwV 1 hts gX10_store_X10_kindOf rfl rfl rfl (by decide +kernel) ⟨Nat.le_of_ble_eq_true rfl, Nat.le_of_ble_eq_true rfl⟩) ⟨blR, va_recv hK hP (ci := 8) (q0 := 0) rfl rfl, fun U hU hW => ⟨rfl, by rw [hU]; exact hP.sub [0, 1] rfl, va_K.moved hW.alike hK⟩⟩ rfl rfl hl.1 rfl (lv_room (Nat.le_of_ble_eq_true rfl)) dX10_store_23 ⟨Nat.le_of_ble_eq_true rfl, Nat.le_of_ble_eq_true rfl⟩)) (fun r_212 e_212 => ?_)
    subst e_212
    refine lv_bipush (v := 8) hx hb dX10_store_26 (by decide) ?_
    refine lv_icmp_lt (tgt := 36) hx hb dX10_store_28 (by decide) (fun c_214 => ?_) (fun c_214 => ?_)
    · replace h := op c_214 h
      refine lv_lload hx hb dX10_store_36 (lv_at hl 5 rfl) ?_
      refine lv_iload hx hb dX10_store_38 (lv_at hl 0 rfl) ?_
      refine lv_aload_n hx hb dX10_store_40 rfl (lv_at hl 1 rfl) ?_
      refine lv_iload_n hx hb dX10_store_41 rfl (lv_at hl 2 rfl) ?_
      obtain ⟨o_215, hr_215, h⟩ := ob h
      refine vp_callSi (va_Run.run (va_runV (As := [.int x1]) (rest := [.int o_206, .long x4, .int o_208, .ref q_now]) ⟨hx, hb, hml, hown, hts⟩ (c_X10_kindOf l dC dI cB cC cI cJ cZ cT h0 q_now q_text q_row q_read q_ranks q_distinct q_proper q_line q_order q_then q_bestOrder q_lineThen q_undos q_was q_kept q_isKept v_typed v_rowMany v_thrown v_length v_at v_wrong v_properMany v_orderMany v_undoMany v_drawn v_now x1 o_215 hr_215) (cwV 1 hts gX10_store_X10_kindOf rfl rfl rfl (by decide +kernel) ⟨Nat.le_of_ble_eq_true rfl, Nat.le_of_ble_eq_true rfl⟩) ⟨blR, va_recv hK hP (ci := 8) (q0 := 0) rfl rfl, fun U hU hW => ⟨rfl, by rw [hU]; exact hP.sub [0, 1] rfl, va_K.moved hW.alike hK⟩⟩ rfl rfl hl.1 rfl (lv_room (Nat.le_of_ble_eq_true rfl)) dX10_store_42 ⟨Nat.le_of_ble_eq_true rfl, Nat.le_of_ble_eq_true rfl⟩)) (fun r_215 e_215 => ?_)
      subst e_215
      obtain ⟨o_217, hr_217, h⟩ := ob h
      refine vp_callSl (va_Run.run (va_runS (As := [.long x4, .int o_206, .int o_215]) (rest := [.int o_208, .ref q_now]) ⟨hx, hb, hml, hown, hts⟩ (c_X10_widened l dC dI cB cC cI cJ cZ cT x4 o_206 o_215 o_217 hr_217) (va_cwS 3 hts gX10_store_X10_widened rfl rfl rfl (by decide +kernel) ⟨Nat.le_of_ble_eq_true rfl, Nat.le_of_ble_eq_true rfl⟩) ⟨blT, fun U hU hW => ⟨rfl, trivial⟩⟩ rfl rfl hl.1 rfl (lv_room (Nat.le_of_ble_eq_true rfl)) dX10_store_45 ⟨Nat.le_of_ble_eq_true rfl, Nat.le_of_ble_eq_true rfl⟩)) (fun r_217 e_217 => ?_)
      subst e_217
      obtain ⟨hi_219, h⟩ := og h
      refine va_last hx hb hK hP hD hS 1 1 rfl rfl hi_219 dX10_store_48 (fun H locs hP hD hS => ?_)
      replace hP : va_P (dC, dI) vwCl [(h0, .inr (8, [.ref q_now, .ref q_text, .int v_typed, .ref q_row, .int v_rowMany, .int v_thrown, .int v_length, .int v_at, .int v_wrong, .ref q_read, .ref q_ranks, .ref q_distinct, .ref q_proper, .int v_properMany, .ref q_line, .ref q_order, .int v_orderMany, .ref q_then, .ref q_bestOrder, .ref q_lineThen, .ref q_undos, .ref q_was, .int v_undoMany, .int v_drawn, .ref q_kept, .ref q_isKept])), (q_now, .inl (cJ, 120, .inr (.inl (vp_updL v_now (o_208).toNatClampNeg o_217))))] H := hP
      replace hD : va_D A [(h0, .inr (8, [.ref q_now, .ref q_text, .int v_typed, .ref q_row, .int v_rowMany, .int v_thrown, .int v_length, .int v_at, .int v_wrong, .ref q_read, .ref q_ranks, .ref q_distinct, .ref q_proper, .int v_properMany, .ref q_line, .ref q_order, .int v_orderMany, .ref q_then, .ref q_bestOrder, .ref q_lineThen, .ref q_undos, .ref q_was, .int v_undoMany, .int v_drawn, .ref q_kept, .ref q_isKept])), (q_now, .inl (cJ, 120, .inr (.inl (vp_updL v_now (o_208).toNatClampNeg o_217))))] := hD
      rw [hQQ]
      have ho := Option.some.inj h
      subst ho
      exact W.vret hx hb hr (fun t ht hW => ⟨⟨(), rfl, trivial, by rw [ht]; exact hP, va_K.moved hW.alike hK, hD⟩, hS.F ht⟩) hS.2.2 dX10_store_49
    · replace h := on c_214 h
      refine lv_lload hx hb dX10_store_31 (lv_at hl 5 rfl) ?_
      refine lv_goto (tgt := 48) hx hb dX10_store_33 (by decide) ?_
      obtain ⟨hi_220, h⟩ := og h
      refine va_last hx hb hK hP hD hS 1 1 rfl rfl hi_220 dX10_store_48 (fun H locs hP hD hS => ?_)
      replace hP : va_P (dC, dI) vwCl [(h0, .inr (8, [.ref q_now, .ref q_text, .int v_typed, .ref q_row, .int v_rowMany, .int v_thrown, .int v_length, .int v_at, .int v_wrong, .ref q_read, .ref q_ranks, .ref q_distinct, .ref q_proper, .int v_properMany, .ref q_line, .ref q_order, .int v_orderMany, .ref q_then, .ref q_bestOrder, .ref q_lineThen, .ref q_undos, .ref q_was, .int v_undoMany, .int v_drawn, .ref q_kept, .ref q_isKept])), (q_now, .inl (cJ, 120, .inr (.inl (vp_updL v_now (o_208).toNatClampNeg x4))))] H := hP
      replace hD : va_D A [(h0, .inr (8, [.ref q_now, .ref q_text, .int v_typed, .ref q_row, .int v_rowMany, .int v_thrown, .int v_length, .int v_at, .int v_wrong, .ref q_read, .ref q_ranks, .ref q_distinct, .ref q_proper, .int v_properMany, .ref q_line, .ref q_order, .int v_orderMany, .ref q_then, .ref q_bestOrder, .ref q_lineThen, .ref q_undos, .ref q_was, .int v_undoMany, .int v_drawn, .ref q_kept, .ref q_isKept])), (q_now, .inl (cJ, 120, .inr (.inl (vp_updL v_now (o_208).toNatClampNeg x4))))] := hD
      rw [hQQ]
      have ho := Option.some.inj h
      subst ho
      exact W.vret hx hb hr (fun t ht hW => ⟨⟨(), rfl, trivial, by rw [ht]; exact hP, va_K.moved hW.alike hK, hD⟩, hS.F ht⟩) hS.2.2 dX10_store_49
def f_X10_puts (v_now : Nat → Int64) (x1 : Int32) (x2 : Int32) (x3 : Int32) (x4 : Int32) : Option (Int32 × (Nat → Int64)) :=
  ((f_X10_kindOf v_now x1).bind (fun o_221 => ((f_X10_canHold o_221 x3).bind (fun o_223 => ((f_X10_whyNot v_now x1 x2 x3 (b2i o_223)).bind (fun o_225 => (if o_225 = 0 then ((f_X10_thingOf x3 x4).bind (fun o_228 => ((f_X10_store v_now x1 x2 x3 o_228).bind (fun o_230 => (some (o_225, o_230)))))) else (some (o_225, v_now)))))))))
abbrev rm_X10_puts : Room := { frames := 4, cells := 0, slots := 0, locals := 93 }
set_option maxHeartbeats 4000000 in
set_option maxRecDepth 100000 in
theorem c_X10_puts (l : Launch) (dC : Nat → ClassId) (dI : Nat → Nat → Nat) (cB cC cI cJ cZ cT : ClassId) (h0 q_now q_text q_row q_read q_ranks q_distinct q_proper q_line q_order q_then q_bestOrder q_lineThen q_undos q_was q_kept q_isKept : Nat) (sz : Nat) (v_typed : Int32) (v_rowMany : Int32) (v_thrown : Int32) (v_length : Int32) (v_at : Int32) (v_wrong : Int32) (v_properMany : Int32) (v_orderMany : Int32) (v_undoMany : Int32) (v_drawn : Int32) (v_now : Nat → Int64) (x1 : Int32) (x2 : Int32) (x3 : Int32) (x4 : Int32) (o : (Int32 × (Nat → Int64))) (hf : f_X10_puts v_now x1 x2 x3 x4 = some o) : Met l yX10_puts wsX10_puts rm_X10_puts (va_Pc [.ref h0, .int x1, .int x2, .int x3, .int x4] (fun U => U.heap.size = sz ∧ va_P (dC, dI) vwCl [(h0, .inr (8, [.ref q_now, .ref q_text, .int v_typed, .ref q_row, .int v_rowMany, .int v_thrown, .int v_length, .int v_at, .int v_wrong, .ref q_read, .ref q_ranks, .ref q_distinct, .ref q_proper, .int v_properMany, .ref q_line, .ref q_order, .int v_orderMany, .ref q_then, .ref q_bestOrder, .ref q_lineThen, .ref q_undos, .ref q_was, .int v_undoMany, .int v_drawn, .ref q_kept, .ref q_isKept])), (q_now, .inl (cJ, 120, .inr (.inl v_now)))] U.heap ∧ va_K (dC, dI) vwCl (tyA cB cC cI cJ cZ cT) U ∧ va_D (fun _ => True) [(h0, .inr (8, [.ref q_now, .ref q_text, .int v_typed, .ref q_row, .int v_rowMany, .int v_thrown, .int v_length, .int v_at, .int v_wrong, .ref q_read, .ref q_ranks, .ref q_distinct, .ref q_proper, .int v_properMany, .ref q_line, .ref q_order, .int v_orderMany, .ref q_then, .ref q_bestOrder, .ref q_lineThen, .ref q_undos, .ref q_was, .int v_undoMany, .int v_drawn, .ref q_kept, .ref q_isKept])), (q_now, .inl (cJ, 120, .inr (.inl v_now)))] ∧ SX (va_A [(h0, .inr (8, [.ref q_now, .ref q_text, .int v_typed, .ref q_row, .int v_rowMany, .int v_thrown, .int v_length, .int v_at, .int v_wrong, .ref q_read, .ref q_ranks, .ref q_distinct, .ref q_proper, .int v_properMany, .ref q_line, .ref q_order, .int v_orderMany, .ref q_then, .ref q_bestOrder, .ref q_lineThen, .ref q_undos, .ref q_was, .int v_undoMany, .int v_drawn, .ref q_kept, .ref q_isKept])), (q_now, .inl (cJ, 120, .inr (.inl v_now)))] sz) U U.heap)) (va_Qi (fun (r : Int32) (_ : Unit) => o.1 = r) (fun _ t => va_P (dC, dI) vwCl [(h0, .inr (8, [.ref q_now, .ref q_text, .int v_typed, .ref q_row, .int v_rowMany, .int v_thrown, .int v_length, .int v_at, .int v_wrong, .ref q_read, .ref q_ranks, .ref q_distinct, .ref q_proper, .int v_properMany, .ref q_line, .ref q_order, .int v_orderMany, .ref q_then, .ref q_bestOrder, .ref q_lineThen, .ref q_undos, .ref q_was, .int v_undoMany, .int v_drawn, .ref q_kept, .ref q_isKept])), (q_now, .inl (cJ, 120, .inr (.inl o.2)))] t.heap ∧ va_K (dC, dI) vwCl (tyA cB cC cI cJ cZ cT) t ∧ va_D (va_A [(h0, .inr (8, [.ref q_now, .ref q_text, .int v_typed, .ref q_row, .int v_rowMany, .int v_thrown, .int v_length, .int v_at, .int v_wrong, .ref q_read, .ref q_ranks, .ref q_distinct, .ref q_proper, .int v_properMany, .ref q_line, .ref q_order, .int v_orderMany, .ref q_then, .ref q_bestOrder, .ref q_lineThen, .ref q_undos, .ref q_was, .int v_undoMany, .int v_drawn, .ref q_kept, .ref q_isKept])), (q_now, .inl (cJ, 120, .inr (.inl v_now)))] sz) [(h0, .inr (8, [.ref q_now, .ref q_text, .int v_typed, .ref q_row, .int v_rowMany, .int v_thrown, .int v_length, .int v_at, .int v_wrong, .ref q_read, .ref q_ranks, .ref q_distinct, .ref q_proper, .int v_properMany, .ref q_line, .ref q_order, .int v_orderMany, .ref q_then, .ref q_bestOrder, .ref q_lineThen, .ref q_undos, .ref q_was, .int v_undoMany, .int v_drawn, .ref q_kept, .ref q_isKept])), (q_now, .inl (cJ, 120, .inr (.inl o.2)))]) (va_A [(h0, .inr (8, [.ref q_now, .ref q_text, .int v_typed, .ref q_row, .int v_rowMany, .int v_thrown, .int v_length, .int v_at, .int v_wrong, .ref q_read, .ref q_ranks, .ref q_distinct, .ref q_proper, .int v_properMany, .ref q_line, .ref q_order, .int v_orderMany, .ref q_then, .ref q_bestOrder, .ref q_lineThen, .ref q_undos, .ref q_was, .int v_undoMany, .int v_drawn, .ref q_kept, .ref q_isKept])), (q_now, .inl (cJ, 120, .inr (.inl v_now)))] sz)) 0 0 (va_A [(h0, .inr (8, [.ref q_now, .ref q_text, .int v_typed, .ref q_row, .int v_rowMany, .int v_thrown, .int v_length, .int v_at, .int v_wrong, .ref q_read, .ref q_ranks, .ref q_distinct, .ref q_proper, .int v_properMany, .ref q_line, .ref q_order, .int v_orderMany, .ref q_then, .ref q_bestOrder, .ref q_lineThen, .ref q_undos, .ref q_was, .int v_undoMany, .int v_drawn, .ref q_kept, .ref q_isKept])), (q_now, .inl (cJ, 120, .inr (.inl v_now)))] sz) := by
  refine Met.ofW (cc := cX10_puts) (maxL := 6) (ret := (some .int)) (by decide) rfl ?_
  intro p e s m args below meth c s₁ B hml hv
  obtain ⟨hav, hsz, hP, hK, hD0, hX⟩ := hv
  have hx := B.exec
  have hb := B.bytes
  have hr := B.returns
  have hts := atoms_spec (ws := wsX10_puts) B.pre
  have hown : s.vm.findClass RX10 = some m.cls := findClass_of_methodNamed B.named
  have hlocks := B.notSynchronized
  subst hsz
  have hD := hD0.self (sz := s.heap.size)
  generalize hAe : va_A [(h0, .inr (8, [.ref q_now, .ref q_text, .int v_typed, .ref q_row, .int v_rowMany, .int v_thrown, .int v_length, .int v_at, .int v_wrong, .ref q_read, .ref q_ranks, .ref q_distinct, .ref q_proper, .int v_properMany, .ref q_line, .ref q_order, .int v_orderMany, .ref q_then, .ref q_bestOrder, .ref q_lineThen, .ref q_undos, .ref q_was, .int v_undoMany, .int v_drawn, .ref q_kept, .ref q_isKept])), (q_now, .inl (cJ, 120, .inr (.inl v_now)))] s.heap.size = A at hD hX ⊢
  have hA : ∀ q : Nat, s.heap.size ≤ q → A q := fun q h => by rw [← hAe]; exact Or.inr h
  have hS : va_S A s.heap s.heap [] := va_S.rf
  refine wstart (rm := rm_X10_puts) hav (Nat.le_of_ble_eq_true rfl) (fun QQ ls hQQ hl => ?_)
  have hl : lv_has ls 6 [(0, .ref h0), (1, .int x1), (2, .int x2), (3, .int x3), (4, .int x4)] := hl
  have h := hf
  unfold f_X10_puts at h
  refine lv_aload_n hx hb dX10_puts_0 rfl (lv_at hl 0 rfl) ?_
  refine lv_iload_n hx hb dX10_puts_1 rfl (lv_at hl 1 rfl) ?_
  refine lv_iload_n hx hb dX10_puts_2 rfl (lv_at hl 2 rfl) ?_
  refine lv_iload_n hx hb dX10_puts_3 rfl (lv_at hl 3 rfl) ?_
  refine lv_aload_n hx hb dX10_puts_4 rfl (lv_at hl 0 rfl) ?_
  refine lv_aload_n hx hb dX10_puts_5 rfl (lv_at hl 0 rfl) ?_
  refine lv_iload_n hx hb dX10_puts_6 rfl (lv_at hl 1 rfl) ?_
  obtain ⟨o_221, hr_221, h⟩ := ob h
  refine vp_callSi (va_Run.run (va_runV (As := [.int x1]) (rest := [.ref h0, .int x3, .int x2, .int x1, .ref h0]) ⟨hx, hb, hml, hown, hts⟩ (c_X10_kindOf l dC dI cB cC cI cJ cZ cT h0 q_now q_text q_row q_read q_ranks q_distinct q_proper q_line q_order q_then q_bestOrder q_lineThen q_undos q_was q_kept q_isKept v_typed v_rowMany v_thrown v_length v_at v_wrong v_properMany v_orderMany v_undoMany v_drawn v_now x1 o_221 hr_221) (cwV 1 hts gX10_puts_X10_kindOf rfl rfl rfl (by decide +kernel) ⟨Nat.le_of_ble_eq_true rfl, Nat.le_of_ble_eq_true rfl⟩) ⟨blR, va_recv hK hP (ci := 8) (q0 := 0) rfl rfl, fun U hU hW => ⟨rfl, by rw [hU]; exact hP.sub [0, 1] rfl, va_K.moved hW.alike hK⟩⟩ rfl rfl hl.1 rfl (lv_room (Nat.le_of_ble_eq_true rfl)) dX10_puts_7 ⟨Nat.le_of_ble_eq_true rfl, Nat.le_of_ble_eq_true rfl⟩)) (fun r_221 e_221 => ?_)
  subst e_221
  refine lv_iload_n hx hb dX10_puts_10 rfl (lv_at hl 3 rfl) ?_
  obtain ⟨o_223, hr_223, h⟩ := ob h
  refine vp_callSi (va_Run.run (va_runV (As := [.int o_221, .int x3]) (rest := [.int x3, .int x2, .int x1, .ref h0]) ⟨hx, hb, hml, hown, hts⟩ (c_X10_canHold l dC dI cB cC cI cJ cZ cT h0 o_221 x3 o_223 hr_223) (cwV 2 hts gX10_puts_X10_canHold rfl rfl rfl (by decide +kernel) ⟨Nat.le_of_ble_eq_true rfl, Nat.le_of_ble_eq_true rfl⟩) ⟨blTX, va_recv hK hP (ci := 8) (q0 := 0) rfl rfl, fun U hU hW => ⟨rfl, by rw [hU]; exact SX.use hW.alike hS hX⟩⟩ rfl rfl hl.1 rfl (lv_room (Nat.le_of_ble_eq_true rfl)) dX10_puts_11 ⟨Nat.le_of_ble_eq_true rfl, Nat.le_of_ble_eq_true rfl⟩)) (fun r_223 e_223 => ?_)
  subst e_223
  obtain ⟨o_225, hr_225, h⟩ := ob h
  refine vp_callSi (va_Run.run (va_runV (As := [.int x1, .int x2, .int x3, .int (b2i o_223)]) (rest := []) ⟨hx, hb, hml, hown, hts⟩ (c_X10_whyNot l dC dI cB cC cI cJ cZ cT h0 q_now q_text q_row q_read q_ranks q_distinct q_proper q_line q_order q_then q_bestOrder q_lineThen q_undos q_was q_kept q_isKept v_typed v_rowMany v_thrown v_length v_at v_wrong v_properMany v_orderMany v_undoMany v_drawn v_now x1 x2 x3 (b2i o_223) o_225 hr_225) (cwV 4 hts gX10_puts_X10_whyNot rfl rfl rfl (by decide +kernel) ⟨Nat.le_of_ble_eq_true rfl, Nat.le_of_ble_eq_true rfl⟩) ⟨blR, va_recv hK hP (ci := 8) (q0 := 0) rfl rfl, fun U hU hW => ⟨rfl, by rw [hU]; exact hP.sub [0, 1] rfl, va_K.moved hW.alike hK⟩⟩ rfl rfl hl.1 rfl (lv_room (Nat.le_of_ble_eq_true rfl)) dX10_puts_14 ⟨Nat.le_of_ble_eq_true rfl, Nat.le_of_ble_eq_true rfl⟩)) (fun r_225 e_225 => ?_)
  subst e_225
  refine lv_istore (lv' := [(5, .int o_225), (0, .ref h0), (1, .int x1), (2, .int x2), (3, .int x3), (4, .int x4)]) hx hb dX10_puts_17 hl (by decide) rfl (fun ls hl => ?_)
  refine lv_iload hx hb dX10_puts_19 (lv_at hl 0 rfl) ?_
  refine lv_if_ne (tgt := 37) hx hb dX10_puts_21 (by decide) (fun c_227 => ?_) (fun c_227 => ?_)
  · replace h := on c_227 h
    refine lv_iload hx hb dX10_puts_37 (lv_at hl 0 rfl) ?_
    rw [hQQ]
    have ho := Option.some.inj h
    subst ho
    exact W.iret hx hb hr (fun t ht hW => ⟨⟨_, (), rfl, rfl, by rw [ht]; exact hP, va_K.moved hW.alike hK, hD⟩, hS.F ht⟩) hS.2.2 dX10_puts_39
  · replace h := op c_227 h
    refine lv_aload_n hx hb dX10_puts_24 rfl (lv_at hl 1 rfl) ?_
    refine lv_iload_n hx hb dX10_puts_25 rfl (lv_at hl 2 rfl) ?_
    refine lv_iload_n hx hb dX10_puts_26 rfl (lv_at hl 3 rfl) ?_
    refine lv_iload_n hx hb dX10_puts_27 rfl (lv_at hl 4 rfl) ?_
    refine lv_iload_n hx hb dX10_puts_28 rfl (lv_at hl 4 rfl) ?_
    refine lv_iload hx hb dX10_puts_29 (lv_at hl 5 rfl) ?_
    obtain ⟨o_228, hr_228, h⟩ := ob h
    refine vp_callSl (va_Run.run (va_runS (As := [.int x3, .int x4]) (rest := [.int x3, .int x2, .int x1, .ref h0]) ⟨hx, hb, hml, hown, hts⟩ (c_X10_thingOf l dC dI cB cC cI cJ cZ cT x3 x4 o_228 hr_228) (va_cwS 2 hts gX10_puts_X10_thingOf rfl rfl rfl (by decide +kernel) ⟨Nat.le_of_ble_eq_true rfl, Nat.le_of_ble_eq_true rfl⟩) ⟨blT, fun U hU hW => ⟨rfl, trivial⟩⟩ rfl rfl hl.1 rfl (lv_room (Nat.le_of_ble_eq_true rfl)) dX10_puts_31 ⟨Nat.le_of_ble_eq_true rfl, Nat.le_of_ble_eq_true rfl⟩)) (fun r_228 e_228 => ?_)
    subst e_228
    obtain ⟨o_230, hr_230, h⟩ := ob h
    have hPc := hP.sub (ws' := [(h0, .inr (8, [.ref q_now, .ref q_text, .int v_typed, .ref q_row, .int v_rowMany, .int v_thrown, .int v_length, .int v_at, .int v_wrong, .ref q_read, .ref q_ranks, .ref q_distinct, .ref q_proper, .int v_properMany, .ref q_line, .ref q_order, .int v_orderMany, .ref q_then, .ref q_bestOrder, .ref q_lineThen, .ref q_undos, .ref q_was, .int v_undoMany, .int v_drawn, .ref q_kept, .ref q_isKept])), (q_now, .inl (cJ, 120, .inr (.inl v_now)))]) [0, 1] rfl
    have hDc := hD.sub (ws' := [(h0, .inr (8, [.ref q_now, .ref q_text, .int v_typed, .ref q_row, .int v_rowMany, .int v_thrown, .int v_length, .int v_at, .int v_wrong, .ref q_read, .ref q_ranks, .ref q_distinct, .ref q_proper, .int v_properMany, .ref q_line, .ref q_order, .int v_orderMany, .ref q_then, .ref q_bestOrder, .ref q_lineThen, .ref q_undos, .ref q_was, .int v_undoMany, .int v_drawn, .ref q_kept, .ref q_isKept])), (q_now, .inl (cJ, 120, .inr (.inl v_now)))]) [0, 1] (by decide) rfl
    have hFc := va_free (wc := [(h0, .inr (8, [.ref q_now, .ref q_text, .int v_typed, .ref q_row, .int v_rowMany, .int v_thrown, .int v_length, .int v_at, .int v_wrong, .ref q_read, .ref q_ranks, .ref q_distinct, .ref q_proper, .int v_properMany, .ref q_line, .ref q_order, .int v_orderMany, .ref q_then, .ref q_bestOrder, .ref q_lineThen, .ref q_undos, .ref q_was, .int v_undoMany, .int v_drawn, .ref q_kept, .ref q_isKept])), (q_now, .inl (cJ, 120, .inr (.inl v_now)))]) hD hS hA [0, 1] rfl
    refine va_callv (va_runV (As := [.int x1, .int x2, .int x3, .long o_228]) (rest := []) ⟨hx, hb, hml, hown, hts⟩ (c_X10_store l dC dI cB cC cI cJ cZ cT h0 q_now q_text q_row q_read q_ranks q_distinct q_proper q_line q_order q_then q_bestOrder q_lineThen q_undos q_was q_kept q_isKept s.heap.size v_typed v_rowMany v_thrown v_length v_at v_wrong v_properMany v_orderMany v_undoMany v_drawn v_now x1 x2 x3 o_228 o_230 hr_230) (cwV 4 hts gX10_puts_X10_store rfl rfl rfl (by decide +kernel) ⟨Nat.le_of_ble_eq_true rfl, Nat.le_of_ble_eq_true rfl⟩) ⟨blW, va_recv hK hP (ci := 8) (q0 := 0) rfl rfl, fun U hU hW => ⟨rfl, by rw [hU], by rw [hU]; exact hPc, va_K.moved hW.alike hK, hDc.weaken (fun _ _ _ _ => trivial)⟩⟩ rfl rfl hl.1 rfl (lv_room (Nat.le_of_ble_eq_true rfl)) dX10_puts_34 ⟨Nat.le_of_ble_eq_true rfl, Nat.le_of_ble_eq_true rfl⟩) hS (fun q _ h => hFc q h) hFc (fun u_230 t_230 H locs ht hvm e_230 hB hz1 hk1 hS => ?_)
    obtain ⟨hP1, -, hD1⟩ := hB
    rw [ht] at hP1
    obtain ⟨hP, hD⟩ := va_join (wr := []) (w1 := [(h0, .inr (8, [.ref q_now, .ref q_text, .int v_typed, .ref q_row, .int v_rowMany, .int v_thrown, .int v_length, .int v_at, .int v_wrong, .ref q_read, .ref q_ranks, .ref q_distinct, .ref q_proper, .int v_properMany, .ref q_line, .ref q_order, .int v_orderMany, .ref q_then, .ref q_bestOrder, .ref q_lineThen, .ref q_undos, .ref q_was, .int v_undoMany, .int v_drawn, .ref q_kept, .ref q_isKept])), (q_now, .inl (cJ, 120, .inr (.inl o_230)))]) hP hD [0, 1] [] rfl rfl (by decide) (by decide) hk1 hFc hP1 hD1
    replace hP := hP.sub (ws' := [(h0, .inr (8, [.ref q_now, .ref q_text, .int v_typed, .ref q_row, .int v_rowMany, .int v_thrown, .int v_length, .int v_at, .int v_wrong, .ref q_read, .ref q_ranks, .ref q_distinct, .ref q_proper, .int v_properMany, .ref q_line, .ref q_order, .int v_orderMany, .ref q_then, .ref q_bestOrder, .ref q_lineThen, .ref q_undos, .ref q_was, .int v_undoMany, .int v_drawn, .ref q_kept, .ref q_isKept])), (q_now, .inl (cJ, 120, .inr (.inl o_230)))]) [0, 1] rfl
    replace hD := hD.sub (ws' := [(h0, .inr (8, [.ref q_now, .ref q_text, .int v_typed, .ref q_row, .int v_rowMany, .int v_thrown, .int v_length, .int v_at, .int v_wrong, .ref q_read, .ref q_ranks, .ref q_distinct, .ref q_proper, .int v_properMany, .ref q_line, .ref q_order, .int v_orderMany, .ref q_then, .ref q_bestOrder, .ref q_lineThen, .ref q_undos, .ref q_was, .int v_undoMany, .int v_drawn, .ref q_kept, .ref q_isKept])), (q_now, .inl (cJ, 120, .inr (.inl o_230)))]) [0, 1] (by decide) rfl
    refine lv_iload hx hb dX10_puts_37 (lv_at hl 0 rfl) ?_
    rw [hQQ]
    have ho := Option.some.inj h
    subst ho
    exact W.iret hx hb hr (fun t ht hW => ⟨⟨_, (), rfl, rfl, by rw [ht]; exact hP, va_K.moved hW.alike hK, hD⟩, hS.F ht⟩) hS.2.2 dX10_puts_39
def L_X10_sheet_64 (x1 : Int32) (x2 : Int32) (x3 : Int32) (x4 : Int32) (x6 : Int32) : Nat → Int32 → Int32 → Int32 → (Nat → Int64) → Option (Int32 × (Nat → Int64))
  | 0, _, _, _, _ => none
  | n+1, x7_64, x8_64, x9_64, v_now_64 => (if x4 ≤ x9_64 then (some (x7_64, v_now_64)) else (((if x3 = 0 then (some (to_b x8_64)) else (((if x3 = (1 : Int32) then (some (to_s x8_64)) else (some x8_64))).bind (fun v_251 => (some v_251))))).bind (fun v_245 => ((f_X10_puts v_now_64 x1 x9_64 x2 v_245).bind (fun o_254 => (if o_254.1 = 0 then (L_X10_sheet_64 x1 x2 x3 x4 x6 n (x7_64 + 1) (x8_64 + x6) (x9_64 + 1) o_254.2) else (L_X10_sheet_64 x1 x2 x3 x4 x6 n x7_64 (x8_64 + x6) (x9_64 + 1) o_254.2)))))))
def f_X10_sheet (v_now : Nat → Int64) (x1 : Int32) (x2 : Int32) (x3 : Int32) (x4 : Int32) (x5 : Int32) (x6 : Int32) : Option (Int32 × Int32 × (Nat → Int64)) :=
  ((f_X10_isColumn v_now x1).bind (fun o_232 => (if (b2i o_232) = 0 then (some ((-1 : Int32), (0 : Int32), v_now)) else ((f_X10_isWay x2).bind (fun o_235 => (if (b2i o_235) = 0 then (some ((-1 : Int32), (0 : Int32), v_now)) else ((f_X10_in x3 (0 : Int32) (3 : Int32)).bind (fun o_238 => (if (b2i o_238) = 0 then (some ((-1 : Int32), (0 : Int32), v_now)) else (if x4 ≤ (16 : Int32) then (if x3 = (3 : Int32) then (some ((-3 : Int32), (0 : Int32), v_now)) else (if 0 ≤ x4 then ((L_X10_sheet_64 x1 x2 x3 x4 x6 fu (0 : Int32) x5 (0 : Int32) v_now).bind (fun w_257 => (some (w_257.1, (0 : Int32), w_257.2)))) else (some ((-2 : Int32), (0 : Int32), v_now)))) else (some ((-1 : Int32), (0 : Int32), v_now))))))))))))
abbrev rm_X10_sheet : Room := { frames := 5, cells := 0, slots := 0, locals := 118 }
set_option maxHeartbeats 4000000 in
set_option maxRecDepth 100000 in
theorem c_X10_sheet (l : Launch) (dC : Nat → ClassId) (dI : Nat → Nat → Nat) (cB cC cI cJ cZ cT : ClassId) (h0 q_now q_text q_row q_read q_ranks q_distinct q_proper q_line q_order q_then q_bestOrder q_lineThen q_undos q_was q_kept q_isKept : Nat) (sz : Nat) (v_typed : Int32) (v_rowMany : Int32) (v_thrown : Int32) (v_length : Int32) (v_at : Int32) (v_wrong : Int32) (v_properMany : Int32) (v_orderMany : Int32) (v_undoMany : Int32) (v_drawn : Int32) (v_now : Nat → Int64) (x1 : Int32) (x2 : Int32) (x3 : Int32) (x4 : Int32) (x5 : Int32) (x6 : Int32) (o : (Int32 × Int32 × (Nat → Int64))) (hf : f_X10_sheet v_now x1 x2 x3 x4 x5 x6 = some o) : Met l yX10_sheet wsX10_sheet rm_X10_sheet (va_Pc [.ref h0, .int x1, .int x2, .int x3, .int x4, .int x5, .int x6] (fun U => U.heap.size = sz ∧ va_P (dC, dI) vwCl [(h0, .inr (8, [.ref q_now, .ref q_text, .int v_typed, .ref q_row, .int v_rowMany, .int v_thrown, .int v_length, .int v_at, .int v_wrong, .ref q_read, .ref q_ranks, .ref q_distinct, .ref q_proper, .int v_properMany, .ref q_line, .ref q_order, .int v_orderMany, .ref q_then, .ref q_bestOrder, .ref q_lineThen, .ref q_undos, .ref q_was, .int v_undoMany, .int v_drawn, .ref q_kept, .ref q_isKept])), (q_now, .inl (cJ, 120, .inr (.inl v_now)))] U.heap ∧ va_K (dC, dI) vwCl (tyA cB cC cI cJ cZ cT) U ∧ va_D (fun _ => True) [(h0, .inr (8, [.ref q_now, .ref q_text, .int v_typed, .ref q_row, .int v_rowMany, .int v_thrown, .int v_length, .int v_at, .int v_wrong, .ref q_read, .ref q_ranks, .ref q_distinct, .ref q_proper, .int v_properMany, .ref q_line, .ref q_order, .int v_orderMany, .ref q_then, .ref q_bestOrder, .ref q_lineThen, .ref q_undos, .ref q_was, .int v_undoMany, .int v_drawn, .ref q_kept, .ref q_isKept])), (q_now, .inl (cJ, 120, .inr (.inl v_now)))] ∧ SX (va_A [(h0, .inr (8, [.ref q_now, .ref q_text, .int v_typed, .ref q_row, .int v_rowMany, .int v_thrown, .int v_length, .int v_at, .int v_wrong, .ref q_read, .ref q_ranks, .ref q_distinct, .ref q_proper, .int v_properMany, .ref q_line, .ref q_order, .int v_orderMany, .ref q_then, .ref q_bestOrder, .ref q_lineThen, .ref q_undos, .ref q_was, .int v_undoMany, .int v_drawn, .ref q_kept, .ref q_isKept])), (q_now, .inl (cJ, 120, .inr (.inl v_now)))] sz) U U.heap)) (va_Qi (fun (r : Int32) (_ : Unit) => o.1 = r) (fun _ t => va_P (dC, dI) vwCl [(h0, .inr (8, [.ref q_now, .ref q_text, .int v_typed, .ref q_row, .int v_rowMany, .int o.2.1, .int v_length, .int v_at, .int v_wrong, .ref q_read, .ref q_ranks, .ref q_distinct, .ref q_proper, .int v_properMany, .ref q_line, .ref q_order, .int v_orderMany, .ref q_then, .ref q_bestOrder, .ref q_lineThen, .ref q_undos, .ref q_was, .int v_undoMany, .int v_drawn, .ref q_kept, .ref q_isKept])), (q_now, .inl (cJ, 120, .inr (.inl o.2.2)))] t.heap ∧ va_K (dC, dI) vwCl (tyA cB cC cI cJ cZ cT) t ∧ va_D (va_A [(h0, .inr (8, [.ref q_now, .ref q_text, .int v_typed, .ref q_row, .int v_rowMany, .int v_thrown, .int v_length, .int v_at, .int v_wrong, .ref q_read, .ref q_ranks, .ref q_distinct, .ref q_proper, .int v_properMany, .ref q_line, .ref q_order, .int v_orderMany, .ref q_then, .ref q_bestOrder, .ref q_lineThen, .ref q_undos, .ref q_was, .int v_undoMany, .int v_drawn, .ref q_kept, .ref q_isKept])), (q_now, .inl (cJ, 120, .inr (.inl v_now)))] sz) [(h0, .inr (8, [.ref q_now, .ref q_text, .int v_typed, .ref q_row, .int v_rowMany, .int o.2.1, .int v_length, .int v_at, .int v_wrong, .ref q_read, .ref q_ranks, .ref q_distinct, .ref q_proper, .int v_properMany, .ref q_line, .ref q_order, .int v_orderMany, .ref q_then, .ref q_bestOrder, .ref q_lineThen, .ref q_undos, .ref q_was, .int v_undoMany, .int v_drawn, .ref q_kept, .ref q_isKept])), (q_now, .inl (cJ, 120, .inr (.inl o.2.2)))]) (va_A [(h0, .inr (8, [.ref q_now, .ref q_text, .int v_typed, .ref q_row, .int v_rowMany, .int v_thrown, .int v_length, .int v_at, .int v_wrong, .ref q_read, .ref q_ranks, .ref q_distinct, .ref q_proper, .int v_properMany, .ref q_line, .ref q_order, .int v_orderMany, .ref q_then, .ref q_bestOrder, .ref q_lineThen, .ref q_undos, .ref q_was, .int v_undoMany, .int v_drawn, .ref q_kept, .ref q_isKept])), (q_now, .inl (cJ, 120, .inr (.inl v_now)))] sz)) 0 0 (va_A [(h0, .inr (8, [.ref q_now, .ref q_text, .int v_typed, .ref q_row, .int v_rowMany, .int v_thrown, .int v_length, .int v_at, .int v_wrong, .ref q_read, .ref q_ranks, .ref q_distinct, .ref q_proper, .int v_properMany, .ref q_line, .ref q_order, .int v_orderMany, .ref q_then, .ref q_bestOrder, .ref q_lineThen, .ref q_undos, .ref q_was, .int v_undoMany, .int v_drawn, .ref q_kept, .ref q_isKept])), (q_now, .inl (cJ, 120, .inr (.inl v_now)))] sz) := by
  refine Met.ofW (cc := cX10_sheet) (maxL := 11) (ret := (some .int)) (by decide) rfl ?_
  intro p e s m args below meth c s₁ B hml hv
  obtain ⟨hav, hsz, hP, hK, hD0, hX⟩ := hv
  have hx := B.exec
  have hb := B.bytes
  have hr := B.returns
  have hts := atoms_spec (ws := wsX10_sheet) B.pre
  have hown : s.vm.findClass RX10 = some m.cls := findClass_of_methodNamed B.named
  have hlocks := B.notSynchronized
  subst hsz
  have hD := hD0.self (sz := s.heap.size)
  generalize hAe : va_A [(h0, .inr (8, [.ref q_now, .ref q_text, .int v_typed, .ref q_row, .int v_rowMany, .int v_thrown, .int v_length, .int v_at, .int v_wrong, .ref q_read, .ref q_ranks, .ref q_distinct, .ref q_proper, .int v_properMany, .ref q_line, .ref q_order, .int v_orderMany, .ref q_then, .ref q_bestOrder, .ref q_lineThen, .ref q_undos, .ref q_was, .int v_undoMany, .int v_drawn, .ref q_kept, .ref q_isKept])), (q_now, .inl (cJ, 120, .inr (.inl v_now)))] s.heap.size = A at hD hX ⊢
  have hA : ∀ q : Nat, s.heap.size ≤ q → A q := fun q h => by rw [← hAe]; exact Or.inr h
  have hS : va_S A s.heap s.heap [] := va_S.rf
  refine wstart (rm := rm_X10_sheet) hav (Nat.le_of_ble_eq_true rfl) (fun QQ ls hQQ hl => ?_)
  have hl : lv_has ls 11 [(0, .ref h0), (1, .int x1), (2, .int x2), (3, .int x3), (4, .int x4), (5, .int x5), (6, .int x6)] := hl
  have hi_X10 : ∀ w ∈ u_ws RX10 TX10 26, w ∈ wsX10_sheet := by decide +kernel
  have h := hf
  unfold f_X10_sheet at h
  refine lv_aload_n hx hb dX10_sheet_0 rfl (lv_at hl 0 rfl) ?_
  refine lv_iconst (v := 0) hx hb dX10_sheet_1 (by decide) ?_
  refine va_put (D := (dC, dI)) (ci := 8) (v := .int (0 : Int32)) (ty := .int) (C := RX10) (T := TX10) (N := 26) hx hb hts hi_X10 tyX10 tyX10_ok nmX10 hown hK hP hD hS 0 rfl rfl 5 (by decide) (hts _ (List.mem_of_getElem? (i := 1) rfl)) (fun _ h9 => h9) rfl (by decide +kernel) rfl rfl (Nat.le_of_ble_eq_true rfl) dX10_sheet_2 (fun H locs hP hD hS => ?_)
  replace hP : va_P (dC, dI) vwCl [(h0, .inr (8, [.ref q_now, .ref q_text, .int v_typed, .ref q_row, .int v_rowMany, .int (0 : Int32), .int v_length, .int v_at, .int v_wrong, .ref q_read, .ref q_ranks, .ref q_distinct, .ref q_proper, .int v_properMany, .ref q_line, .ref q_order, .int v_orderMany, .ref q_then, .ref q_bestOrder, .ref q_lineThen, .ref q_undos, .ref q_was, .int v_undoMany, .int v_drawn, .ref q_kept, .ref q_isKept])), (q_now, .inl (cJ, 120, .inr (.inl v_now)))] H := hP
  replace hD : va_D A [(h0, .inr (8, [.ref q_now, .ref q_text, .int v_typed, .ref q_row, .int v_rowMany, .int (0 : Int32), .int v_length, .int v_at, .int v_wrong, .ref q_read, .ref q_ranks, .ref q_distinct, .ref q_proper, .int v_properMany, .ref q_line, .ref q_order, .int v_orderMany, .ref q_then, .ref q_bestOrder, .ref q_lineThen, .ref q_undos, .ref q_was, .int v_undoMany, .int v_drawn, .ref q_kept, .ref q_isKept])), (q_now, .inl (cJ, 120, .inr (.inl v_now)))] := hD
  refine lv_aload_n hx hb dX10_sheet_5 rfl (lv_at hl 0 rfl) ?_
  refine lv_iload_n hx hb dX10_sheet_6 rfl (lv_at hl 1 rfl) ?_
  obtain ⟨o_232, hr_232, h⟩ := ob h
  refine vp_callSi (va_Run.run (va_runV (As := [.int x1]) (rest := []) ⟨hx, hb, hml, hown, hts⟩ (c_X10_isColumn l dC dI cB cC cI cJ cZ cT h0 q_now q_text q_row q_read q_ranks q_distinct q_proper q_line q_order q_then q_bestOrder q_lineThen q_undos q_was q_kept q_isKept v_typed v_rowMany (0 : Int32) v_length v_at v_wrong v_properMany v_orderMany v_undoMany v_drawn v_now x1 o_232 hr_232) (cwV 1 hts gX10_sheet_X10_isColumn rfl rfl rfl (by decide +kernel) ⟨Nat.le_of_ble_eq_true rfl, Nat.le_of_ble_eq_true rfl⟩) ⟨blR, va_recv hK hP (ci := 8) (q0 := 0) rfl rfl, fun U hU hW => ⟨rfl, by rw [hU]; exact hP.sub [0, 1] rfl, va_K.moved hW.alike hK⟩⟩ rfl rfl hl.1 rfl (lv_room (Nat.le_of_ble_eq_true rfl)) dX10_sheet_7 ⟨Nat.le_of_ble_eq_true rfl, Nat.le_of_ble_eq_true rfl⟩)) (fun r_232 e_232 => ?_)
  subst e_232
  refine lv_if_eq (tgt := 36) hx hb dX10_sheet_10 (by decide) (fun c_234 => ?_) (fun c_234 => ?_)
  · replace h := op c_234 h
    refine lv_iconst (v := -1) hx hb dX10_sheet_36 (by decide) ?_
    rw [hQQ]
    have ho := Option.some.inj h
    subst ho
    exact W.iret hx hb hr (fun t ht hW => ⟨⟨_, (), rfl, rfl, by rw [ht]; exact hP, va_K.moved hW.alike hK, hD⟩, hS.F ht⟩) hS.2.2 dX10_sheet_37
  · replace h := on c_234 h
    refine lv_iload_n hx hb dX10_sheet_13 rfl (lv_at hl 2 rfl) ?_
    obtain ⟨o_235, hr_235, h⟩ := ob h
    refine vp_callSi (va_Run.run (va_runS (As := [.int x2]) (rest := []) ⟨hx, hb, hml, hown, hts⟩ (c_X10_isWay l dC dI cB cC cI cJ cZ cT x2 o_235 hr_235) (va_cwS 1 hts gX10_sheet_X10_isWay rfl rfl rfl (by decide +kernel) ⟨Nat.le_of_ble_eq_true rfl, Nat.le_of_ble_eq_true rfl⟩) ⟨blT, fun U hU hW => ⟨rfl, trivial⟩⟩ rfl rfl hl.1 rfl (lv_room (Nat.le_of_ble_eq_true rfl)) dX10_sheet_14 ⟨Nat.le_of_ble_eq_true rfl, Nat.le_of_ble_eq_true rfl⟩)) (fun r_235 e_235 => ?_)
    subst e_235
    refine lv_if_eq (tgt := 36) hx hb dX10_sheet_17 (by decide) (fun c_237 => ?_) (fun c_237 => ?_)
    · replace h := op c_237 h
      refine lv_iconst (v := -1) hx hb dX10_sheet_36 (by decide) ?_
      rw [hQQ]
      have ho := Option.some.inj h
      subst ho
      exact W.iret hx hb hr (fun t ht hW => ⟨⟨_, (), rfl, rfl, by rw [ht]; exact hP, va_K.moved hW.alike hK, hD⟩, hS.F ht⟩) hS.2.2 dX10_sheet_37
    · replace h := on c_237 h
      refine lv_iload_n hx hb dX10_sheet_20 rfl (lv_at hl 3 rfl) ?_
      refine lv_iconst (v := 0) hx hb dX10_sheet_21 (by decide) ?_
      refine lv_iconst (v := 3) hx hb dX10_sheet_22 (by decide) ?_
      obtain ⟨o_238, hr_238, h⟩ := ob h
      refine vp_callSi (va_Run.run (va_runS (As := [.int x3, .int (0 : Int32), .int (3 : Int32)]) (rest := []) ⟨hx, hb, hml, hown, hts⟩ (c_X10_in l dC dI cB cC cI cJ cZ cT x3 (0 : Int32) (3 : Int32) o_238 hr_238) (va_cwS 3 hts gX10_sheet_X10_in rfl rfl rfl (by decide +kernel) ⟨Nat.le_of_ble_eq_true rfl, Nat.le_of_ble_eq_true rfl⟩) ⟨blT, fun U hU hW => ⟨rfl, trivial⟩⟩ rfl rfl hl.1 rfl (lv_room (Nat.le_of_ble_eq_true rfl)) dX10_sheet_23 ⟨Nat.le_of_ble_eq_true rfl, Nat.le_of_ble_eq_true rfl⟩)) (fun r_238 e_238 => ?_)
      subst e_238
      refine lv_if_eq (tgt := 36) hx hb dX10_sheet_26 (by decide) (fun c_240 => ?_) (fun c_240 => ?_)
      · replace h := op c_240 h
        refine lv_iconst (v := -1) hx hb dX10_sheet_36 (by decide) ?_
        rw [hQQ]
        have ho := Option.some.inj h
        subst ho
        exact W.iret hx hb hr (fun t ht hW => ⟨⟨_, (), rfl, rfl, by rw [ht]; exact hP, va_K.moved hW.alike hK, hD⟩, hS.F ht⟩) hS.2.2 dX10_sheet_37
      · replace h := on c_240 h
        refine lv_iload hx hb dX10_sheet_29 (lv_at hl 4 rfl) ?_
        refine lv_bipush (v := 16) hx hb dX10_sheet_31 (by decide) ?_
        refine lv_icmp_le (tgt := 38) hx hb dX10_sheet_33 (by decide) (fun c_241 => ?_) (fun c_241 => ?_)
        · replace h := op c_241 h
          refine lv_iload_n hx hb dX10_sheet_38 rfl (lv_at hl 3 rfl) ?_
          refine lv_iconst (v := 3) hx hb dX10_sheet_39 (by decide) ?_
          refine lv_icmp_ne (tgt := 46) hx hb dX10_sheet_40 (by decide) (fun c_242 => ?_) (fun c_242 => ?_)
          · replace h := on c_242 h
            refine lv_iload hx hb dX10_sheet_46 (lv_at hl 4 rfl) ?_
            refine lv_if_ge (tgt := 54) hx hb dX10_sheet_48 (by decide) (fun c_243 => ?_) (fun c_243 => ?_)
            · replace h := op c_243 h
              refine lv_iconst (v := 0) hx hb dX10_sheet_54 (by decide) ?_
              refine lv_istore (lv' := [(7, .int (0 : Int32)), (0, .ref h0), (1, .int x1), (2, .int x2), (3, .int x3), (4, .int x4), (5, .int x5), (6, .int x6)]) hx hb dX10_sheet_55 hl (by decide) rfl (fun ls hl => ?_)
              refine lv_iload hx hb dX10_sheet_57 (lv_at hl 6 rfl) ?_
              refine lv_istore (lv' := [(8, .int x5), (7, .int (0 : Int32)), (0, .ref h0), (1, .int x1), (2, .int x2), (3, .int x3), (4, .int x4), (5, .int x5), (6, .int x6)]) hx hb dX10_sheet_59 hl (by decide) rfl (fun ls hl => ?_)
              refine lv_iconst (v := 0) hx hb dX10_sheet_61 (by decide) ?_
              refine lv_istore (lv' := [(9, .int (0 : Int32)), (8, .int x5), (7, .int (0 : Int32)), (0, .ref h0), (1, .int x1), (2, .int x2), (3, .int x3), (4, .int x4), (5, .int x5), (6, .int x6)]) hx hb dX10_sheet_62 hl (by decide) rfl (fun ls hl => ?_)
              have LP_257 : ∀ (n : Nat) (x7_64 : Int32) (x8_64 : Int32) (x9_64 : Int32) (v_now_64 : (Nat → Int64)) (w : (Int32 × (Nat → Int64))) (H : Heap) (locs : List Loc) (ls : Array Slot), L_X10_sheet_64 x1 x2 x3 x4 x6 n x7_64 x8_64 x9_64 v_now_64 = some w → va_P (dC, dI) vwCl [(h0, .inr (8, [.ref q_now, .ref q_text, .int v_typed, .ref q_row, .int v_rowMany, .int (0 : Int32), .int v_length, .int v_at, .int v_wrong, .ref q_read, .ref q_ranks, .ref q_distinct, .ref q_proper, .int v_properMany, .ref q_line, .ref q_order, .int v_orderMany, .ref q_then, .ref q_bestOrder, .ref q_lineThen, .ref q_undos, .ref q_was, .int v_undoMany, .int v_drawn, .ref q_kept, .ref q_isKept])), (q_now, .inl (cJ, 120, .inr (.inl v_now_64)))] H → va_D A [(h0, .inr (8, [.ref q_now, .ref q_text, .int v_typed, .ref q_row, .int v_rowMany, .int (0 : Int32), .int v_length, .int v_at, .int v_wrong, .ref q_read, .ref q_ranks, .ref q_distinct, .ref q_proper, .int v_properMany, .ref q_line, .ref q_order, .int v_orderMany, .ref q_then, .ref q_bestOrder, .ref q_lineThen, .ref q_undos, .ref q_was, .int v_undoMany, .int v_drawn, .ref q_kept, .ref q_isKept])), (q_now, .inl (cJ, 120, .inr (.inl v_now_64)))] → va_S A s.heap H locs → lv_has ls 11 [(0, .ref h0), (1, .int x1), (2, .int x2), (3, .int x3), (4, .int x4), (6, .int x6), (7, .int x7_64), (8, .int x8_64), (9, .int x9_64)] → (∀ (H : Heap) (locs : List Loc) (ls : Array Slot), va_P (dC, dI) vwCl [(h0, .inr (8, [.ref q_now, .ref q_text, .int v_typed, .ref q_row, .int v_rowMany, .int (0 : Int32), .int v_length, .int v_at, .int v_wrong, .ref q_read, .ref q_ranks, .ref q_distinct, .ref q_proper, .int v_properMany, .ref q_line, .ref q_order, .int v_orderMany, .ref q_then, .ref q_bestOrder, .ref q_lineThen, .ref q_undos, .ref q_was, .int v_undoMany, .int v_drawn, .ref q_kept, .ref q_isKept])), (q_now, .inl (cJ, 120, .inr (.inl w.2)))] H → va_D A [(h0, .inr (8, [.ref q_now, .ref q_text, .int v_typed, .ref q_row, .int v_rowMany, .int (0 : Int32), .int v_length, .int v_at, .int v_wrong, .ref q_read, .ref q_ranks, .ref q_distinct, .ref q_proper, .int v_properMany, .ref q_line, .ref q_order, .int v_orderMany, .ref q_then, .ref q_bestOrder, .ref q_lineThen, .ref q_undos, .ref q_was, .int v_undoMany, .int v_drawn, .ref q_kept, .ref q_isKept])), (q_now, .inl (cJ, 120, .inr (.inl w.2)))] → va_S A s.heap H locs → lv_has ls 11 [(7, .int w.1)] → W p l e rm_X10_sheet s m args below meth c H locs 0 0 QQ (F0 m 125 ls [])) → W p l e rm_X10_sheet s m args below meth c H locs 0 0 QQ (F0 m 64 ls []) := by
                intro n
                induction n with
                | zero => intro x7_64 x8_64 x9_64 v_now_64 w H locs ls h; exact absurd (show none = some w from h) nofun
                | succ n ih =>
                  intro x7_64 x8_64 x9_64 v_now_64 w H locs ls h hP hD hS hl K
                  rw [L_X10_sheet_64] at h
                  refine lv_iload hx hb dX10_sheet_64 (lv_at hl 8 rfl) ?_
                  refine lv_iload hx hb dX10_sheet_66 (lv_at hl 4 rfl) ?_
                  refine lv_icmp_ge (tgt := 125) hx hb dX10_sheet_68 (by decide) (fun c_244 => ?_) (fun c_244 => ?_)
                  · replace h := op c_244 h
                    have ho := Option.some.inj h
                    subst ho
                    exact K H _ ls hP hD hS (lv_sub hl [6] rfl)
                  · replace h := on c_244 h
                    refine lv_iload_n hx hb dX10_sheet_71 rfl (lv_at hl 3 rfl) ?_
                    obtain ⟨v_245, hv_245, h⟩ := ob h
                    have J_245 : ∀ (H : Heap) (locs : List Loc) (ls : Array Slot), va_P (dC, dI) vwCl [(h0, .inr (8, [.ref q_now, .ref q_text, .int v_typed, .ref q_row, .int v_rowMany, .int (0 : Int32), .int v_length, .int v_at, .int v_wrong, .ref q_read, .ref q_ranks, .ref q_distinct, .ref q_proper, .int v_properMany, .ref q_line, .ref q_order, .int v_orderMany, .ref q_then, .ref q_bestOrder, .ref q_lineThen, .ref q_undos, .ref q_was, .int v_undoMany, .int v_drawn, .ref q_kept, .ref q_isKept])), (q_now, .inl (cJ, 120, .inr (.inl v_now_64)))] H → va_D A [(h0, .inr (8, [.ref q_now, .ref q_text, .int v_typed, .ref q_row, .int v_rowMany, .int (0 : Int32), .int v_length, .int v_at, .int v_wrong, .ref q_read, .ref q_ranks, .ref q_distinct, .ref q_proper, .int v_properMany, .ref q_line, .ref q_order, .int v_orderMany, .ref q_then, .ref q_bestOrder, .ref q_lineThen, .ref q_undos, .ref q_was, .int v_undoMany, .int v_drawn, .ref q_kept, .ref q_isKept])), (q_now, .inl (cJ, 120, .inr (.inl v_now_64)))] → va_S A s.heap H locs → lv_has ls 11 [(0, .ref h0), (1, .int x1), (2, .int x2), (3, .int x3), (4, .int x4), (6, .int x6), (7, .int x7_64), (8, .int x8_64), (9, .int x9_64)] → W p l e rm_X10_sheet s m args below meth c H locs 0 0 QQ (F0 m 94 ls [.int v_245]) := by
                      intro H locs ls hP hD hS hl
                      refine lv_istore (lv' := [(10, .int v_245), (0, .ref h0), (1, .int x1), (2, .int x2), (3, .int x3), (4, .int x4), (6, .int x6), (7, .int x7_64), (8, .int x8_64), (9, .int x9_64)]) hx hb dX10_sheet_94 hl (by decide) rfl (fun ls hl => ?_)
                      refine lv_aload_n hx hb dX10_sheet_96 rfl (lv_at hl 1 rfl) ?_
                      refine lv_iload_n hx hb dX10_sheet_97 rfl (lv_at hl 2 rfl) ?_
                      refine lv_iload hx hb dX10_sheet_98 (lv_at hl 9 rfl) ?_
                      refine lv_iload_n hx hb dX10_sheet_100 rfl (lv_at hl 3 rfl) ?_
                      refine lv_iload hx hb dX10_sheet_101 (lv_at hl 0 rfl) ?_
                      obtain ⟨o_254, hr_254, h⟩ := ob h
                      have hPc := hP.sub (ws' := [(h0, .inr (8, [.ref q_now, .ref q_text, .int v_typed, .ref q_row, .int v_rowMany, .int (0 : Int32), .int v_length, .int v_at, .int v_wrong, .ref q_read, .ref q_ranks, .ref q_distinct, .ref q_proper, .int v_properMany, .ref q_line, .ref q_order, .int v_orderMany, .ref q_then, .ref q_bestOrder, .ref q_lineThen, .ref q_undos, .ref q_was, .int v_undoMany, .int v_drawn, .ref q_kept, .ref q_isKept])), (q_now, .inl (cJ, 120, .inr (.inl v_now_64)))]) [0, 1] rfl
                      have hDc := hD.sub (ws' := [(h0, .inr (8, [.ref q_now, .ref q_text, .int v_typed, .ref q_row, .int v_rowMany, .int (0 : Int32), .int v_length, .int v_at, .int v_wrong, .ref q_read, .ref q_ranks, .ref q_distinct, .ref q_proper, .int v_properMany, .ref q_line, .ref q_order, .int v_orderMany, .ref q_then, .ref q_bestOrder, .ref q_lineThen, .ref q_undos, .ref q_was, .int v_undoMany, .int v_drawn, .ref q_kept, .ref q_isKept])), (q_now, .inl (cJ, 120, .inr (.inl v_now_64)))]) [0, 1] (by decide) rfl
                      have hFc := va_free (wc := [(h0, .inr (8, [.ref q_now, .ref q_text, .int v_typed, .ref q_row, .int v_rowMany, .int (0 : Int32), .int v_length, .int v_at, .int v_wrong, .ref q_read, .ref q_ranks, .ref q_distinct, .ref q_proper, .int v_properMany, .ref q_line, .ref q_order, .int v_orderMany, .ref q_then, .ref q_bestOrder, .ref q_lineThen, .ref q_undos, .ref q_was, .int v_undoMany, .int v_drawn, .ref q_kept, .ref q_isKept])), (q_now, .inl (cJ, 120, .inr (.inl v_now_64)))]) hD hS hA [0, 1] rfl
                      refine va_calli (va_runV (As := [.int x1, .int x9_64, .int x2, .int v_245]) (rest := []) ⟨hx, hb, hml, hown, hts⟩ (c_X10_puts l dC dI cB cC cI cJ cZ cT h0 q_now q_text q_row q_read q_ranks q_distinct q_proper q_line q_order q_then q_bestOrder q_lineThen q_undos q_was q_kept q_isKept H.size v_typed v_rowMany (0 : Int32) v_length v_at v_wrong v_properMany v_orderMany v_undoMany v_drawn v_now_64 x1 x9_64 x2 v_245 o_254 hr_254) (cwV 4 hts gX10_sheet_X10_puts rfl rfl rfl (by decide +kernel) ⟨Nat.le_of_ble_eq_true rfl, Nat.le_of_ble_eq_true rfl⟩) ⟨blWX, va_recv hK hP (ci := 8) (q0 := 0) rfl rfl, fun U hU hW => ⟨rfl, by rw [hU], by rw [hU]; exact hPc, va_K.moved hW.alike hK, hDc.weaken (fun _ _ _ _ => trivial), by rw [hU]; exact SX.useW hW.alike hS hFc hX⟩⟩ rfl rfl hl.1 rfl (lv_room (Nat.le_of_ble_eq_true rfl)) dX10_sheet_103 ⟨Nat.le_of_ble_eq_true rfl, Nat.le_of_ble_eq_true rfl⟩) hS (fun q _ h => hFc q h) hFc (fun r_254 u_254 t_254 H locs ht hvm e_254 hB hz1 hk1 hS => ?_)
                      obtain ⟨hP1, -, hD1⟩ := hB
                      rw [ht] at hP1
                      obtain ⟨hP, hD⟩ := va_join (wr := []) (w1 := [(h0, .inr (8, [.ref q_now, .ref q_text, .int v_typed, .ref q_row, .int v_rowMany, .int (0 : Int32), .int v_length, .int v_at, .int v_wrong, .ref q_read, .ref q_ranks, .ref q_distinct, .ref q_proper, .int v_properMany, .ref q_line, .ref q_order, .int v_orderMany, .ref q_then, .ref q_bestOrder, .ref q_lineThen, .ref q_undos, .ref q_was, .int v_undoMany, .int v_drawn, .ref q_kept, .ref q_isKept])), (q_now, .inl (cJ, 120, .inr (.inl o_254.2)))]) hP hD [0, 1] [] rfl rfl (by decide) (by decide) hk1 hFc hP1 hD1
                      replace hP := hP.sub (ws' := [(h0, .inr (8, [.ref q_now, .ref q_text, .int v_typed, .ref q_row, .int v_rowMany, .int (0 : Int32), .int v_length, .int v_at, .int v_wrong, .ref q_read, .ref q_ranks, .ref q_distinct, .ref q_proper, .int v_properMany, .ref q_line, .ref q_order, .int v_orderMany, .ref q_then, .ref q_bestOrder, .ref q_lineThen, .ref q_undos, .ref q_was, .int v_undoMany, .int v_drawn, .ref q_kept, .ref q_isKept])), (q_now, .inl (cJ, 120, .inr (.inl o_254.2)))]) [0, 1] rfl
                      replace hD := hD.sub (ws' := [(h0, .inr (8, [.ref q_now, .ref q_text, .int v_typed, .ref q_row, .int v_rowMany, .int (0 : Int32), .int v_length, .int v_at, .int v_wrong, .ref q_read, .ref q_ranks, .ref q_distinct, .ref q_proper, .int v_properMany, .ref q_line, .ref q_order, .int v_orderMany, .ref q_then, .ref q_bestOrder, .ref q_lineThen, .ref q_undos, .ref q_was, .int v_undoMany, .int v_drawn, .ref q_kept, .ref q_isKept])), (q_now, .inl (cJ, 120, .inr (.inl o_254.2)))]) [0, 1] (by decide) rfl
                      subst e_254
                      refine lv_if_ne (tgt := 112) hx hb dX10_sheet_106 (by decide) (fun c_256 => ?_) (fun c_256 => ?_)
                      · replace h := on c_256 h
                        refine lv_iload hx hb dX10_sheet_112 (lv_at hl 8 rfl) ?_
                        refine lv_iload hx hb dX10_sheet_114 (lv_at hl 6 rfl) ?_
                        refine lv_iadd hx hb dX10_sheet_116 ?_
                        refine lv_istore (lv' := [(8, .int (x8_64 + x6)), (10, .int v_245), (0, .ref h0), (1, .int x1), (2, .int x2), (3, .int x3), (4, .int x4), (6, .int x6), (7, .int x7_64), (9, .int x9_64)]) hx hb dX10_sheet_117 hl (by decide) rfl (fun ls hl => ?_)
                        refine lv_iinc (v := (x9_64 + 1)) (lv' := [(9, .int (x9_64 + 1)), (8, .int (x8_64 + x6)), (10, .int v_245), (0, .ref h0), (1, .int x1), (2, .int x2), (3, .int x3), (4, .int x4), (6, .int x6), (7, .int x7_64)]) hx hb dX10_sheet_119 hl (k := 9) rfl (by rfl) (by decide) rfl (fun ls hl => ?_)
                        refine lv_goto (tgt := 64) hx hb dX10_sheet_122 (by decide) ?_
                        exact ih x7_64 (x8_64 + x6) (x9_64 + 1) o_254.2 w H _ ls h hP hD hS (lv_sub hl [3, 4, 5, 6, 7, 8, 9, 1, 0] rfl) K
                      · replace h := op c_256 h
                        refine lv_iinc (v := (x7_64 + 1)) (lv' := [(7, .int (x7_64 + 1)), (10, .int v_245), (0, .ref h0), (1, .int x1), (2, .int x2), (3, .int x3), (4, .int x4), (6, .int x6), (8, .int x8_64), (9, .int x9_64)]) hx hb dX10_sheet_109 hl (k := 7) rfl (by rfl) (by decide) rfl (fun ls hl => ?_)
                        refine lv_iload hx hb dX10_sheet_112 (lv_at hl 8 rfl) ?_
                        refine lv_iload hx hb dX10_sheet_114 (lv_at hl 7 rfl) ?_
                        refine lv_iadd hx hb dX10_sheet_116 ?_
                        refine lv_istore (lv' := [(8, .int (x8_64 + x6)), (7, .int (x7_64 + 1)), (10, .int v_245), (0, .ref h0), (1, .int x1), (2, .int x2), (3, .int x3), (4, .int x4), (6, .int x6), (9, .int x9_64)]) hx hb dX10_sheet_117 hl (by decide) rfl (fun ls hl => ?_)
                        refine lv_iinc (v := (x9_64 + 1)) (lv' := [(9, .int (x9_64 + 1)), (8, .int (x8_64 + x6)), (7, .int (x7_64 + 1)), (10, .int v_245), (0, .ref h0), (1, .int x1), (2, .int x2), (3, .int x3), (4, .int x4), (6, .int x6)]) hx hb dX10_sheet_119 hl (k := 9) rfl (by rfl) (by decide) rfl (fun ls hl => ?_)
                        refine lv_goto (tgt := 64) hx hb dX10_sheet_122 (by decide) ?_
                        exact ih (x7_64 + 1) (x8_64 + x6) (x9_64 + 1) o_254.2 w H _ ls h hP hD hS (lv_sub hl [4, 5, 6, 7, 8, 9, 2, 1, 0] rfl) K
                    replace h := hv_245
                    refine lv_if_ne (tgt := 81) hx hb dX10_sheet_72 (by decide) (fun c_250 => ?_) (fun c_250 => ?_)
                    · replace h := on c_250 h
                      refine lv_iload_n hx hb dX10_sheet_81 rfl (lv_at hl 3 rfl) ?_
                      refine lv_iconst (v := 1) hx hb dX10_sheet_82 (by decide) ?_
                      obtain ⟨v_251, hv_251, h⟩ := ob h
                      have J_251 : ∀ (H : Heap) (locs : List Loc) (ls : Array Slot), va_P (dC, dI) vwCl [(h0, .inr (8, [.ref q_now, .ref q_text, .int v_typed, .ref q_row, .int v_rowMany, .int (0 : Int32), .int v_length, .int v_at, .int v_wrong, .ref q_read, .ref q_ranks, .ref q_distinct, .ref q_proper, .int v_properMany, .ref q_line, .ref q_order, .int v_orderMany, .ref q_then, .ref q_bestOrder, .ref q_lineThen, .ref q_undos, .ref q_was, .int v_undoMany, .int v_drawn, .ref q_kept, .ref q_isKept])), (q_now, .inl (cJ, 120, .inr (.inl v_now_64)))] H → va_D A [(h0, .inr (8, [.ref q_now, .ref q_text, .int v_typed, .ref q_row, .int v_rowMany, .int (0 : Int32), .int v_length, .int v_at, .int v_wrong, .ref q_read, .ref q_ranks, .ref q_distinct, .ref q_proper, .int v_properMany, .ref q_line, .ref q_order, .int v_orderMany, .ref q_then, .ref q_bestOrder, .ref q_lineThen, .ref q_undos, .ref q_was, .int v_undoMany, .int v_drawn, .ref q_kept, .ref q_isKept])), (q_now, .inl (cJ, 120, .inr (.inl v_now_64)))] → va_S A s.heap H locs → lv_has ls 11 [(0, .ref h0), (1, .int x1), (2, .int x2), (3, .int x3), (4, .int x4), (6, .int x6), (7, .int x7_64), (8, .int x8_64), (9, .int x9_64)] → W p l e rm_X10_sheet s m args below meth c H locs 0 0 QQ (F0 m 94 ls [.int v_251]) := by
                        intro H locs ls hP hD hS hl
                        have ho := Option.some.inj h
                        subst ho
                        exact J_245 H _ ls hP hD hS (lv_sub hl [0, 1, 2, 3, 4, 5, 6, 7, 8] rfl)
                      replace h := hv_251
                      refine lv_icmp_ne (tgt := 92) hx hb dX10_sheet_83 (by decide) (fun c_253 => ?_) (fun c_253 => ?_)
                      · replace h := on c_253 h
                        refine lv_iload hx hb dX10_sheet_92 (lv_at hl 7 rfl) ?_
                        have ho := Option.some.inj h
                        subst ho
                        exact J_251 H _ ls hP hD hS (lv_sub hl [0, 1, 2, 3, 4, 5, 6, 7, 8] rfl)
                      · replace h := op c_253 h
                        refine lv_iload hx hb dX10_sheet_86 (lv_at hl 7 rfl) ?_
                        refine lv_i2s (v := (to_s x8_64)) hx hb dX10_sheet_88 rfl ?_
                        refine lv_goto (tgt := 94) hx hb dX10_sheet_89 (by decide) ?_
                        have ho := Option.some.inj h
                        subst ho
                        exact J_251 H _ ls hP hD hS (lv_sub hl [0, 1, 2, 3, 4, 5, 6, 7, 8] rfl)
                    · replace h := op c_250 h
                      refine lv_iload hx hb dX10_sheet_75 (lv_at hl 7 rfl) ?_
                      refine lv_i2b (v := (to_b x8_64)) hx hb dX10_sheet_77 rfl ?_
                      refine lv_goto (tgt := 94) hx hb dX10_sheet_78 (by decide) ?_
                      have ho := Option.some.inj h
                      subst ho
                      exact J_245 H _ ls hP hD hS (lv_sub hl [0, 1, 2, 3, 4, 5, 6, 7, 8] rfl)
              obtain ⟨w_257, hw_257, h⟩ := ob h
              refine LP_257 fu (0 : Int32) x5 (0 : Int32) v_now w_257 H _ ls hw_257 hP hD hS (lv_sub hl [3, 4, 5, 6, 7, 9, 2, 1, 0] rfl) (fun H locs ls hP hD hS hl => ?_)
              refine lv_iload hx hb dX10_sheet_125 (lv_at hl 0 rfl) ?_
              rw [hQQ]
              have ho := Option.some.inj h
              subst ho
              exact W.iret hx hb hr (fun t ht hW => ⟨⟨_, (), rfl, rfl, by rw [ht]; exact hP, va_K.moved hW.alike hK, hD⟩, hS.F ht⟩) hS.2.2 dX10_sheet_127
            · replace h := on c_243 h
              refine lv_bipush (v := -2) hx hb dX10_sheet_51 (by decide) ?_
              rw [hQQ]
              have ho := Option.some.inj h
              subst ho
              exact W.iret hx hb hr (fun t ht hW => ⟨⟨_, (), rfl, rfl, by rw [ht]; exact hP, va_K.moved hW.alike hK, hD⟩, hS.F ht⟩) hS.2.2 dX10_sheet_53
          · replace h := op c_242 h
            refine lv_bipush (v := -3) hx hb dX10_sheet_43 (by decide) ?_
            rw [hQQ]
            have ho := Option.some.inj h
            subst ho
            exact W.iret hx hb hr (fun t ht hW => ⟨⟨_, (), rfl, rfl, by rw [ht]; exact hP, va_K.moved hW.alike hK, hD⟩, hS.F ht⟩) hS.2.2 dX10_sheet_45
        · replace h := on c_241 h
          refine lv_iconst (v := -1) hx hb dX10_sheet_36 (by decide) ?_
          rw [hQQ]
          have ho := Option.some.inj h
          subst ho
          exact W.iret hx hb hr (fun t ht hW => ⟨⟨_, (), rfl, rfl, by rw [ht]; exact hP, va_K.moved hW.alike hK, hD⟩, hS.F ht⟩) hS.2.2 dX10_sheet_37
def L_X10_lay_2 (v_now : (Nat → Int64)) : Nat → Int32 → (Nat → Int64) → Option (Nat → Int64)
  | 0, _, _ => none
  | n+1, x1_2, v_was_2 => (if (120 : Int32) ≤ x1_2 then (some v_was_2) else (if x1_2 < 0 ∨ 120 ≤ (x1_2).toNatClampNeg then none else (if x1_2 < 0 ∨ 120 ≤ (x1_2).toNatClampNeg then none else (L_X10_lay_2 v_now n (x1_2 + 1) (vp_updL v_was_2 (x1_2).toNatClampNeg (v_now (x1_2).toNatClampNeg))))))
def f_X10_lay (v_now : Nat → Int64) (v_was : Nat → Int64) : Option (Nat → Int64) :=
  ((L_X10_lay_2 v_now fu (0 : Int32) v_was).bind (fun w_261 => (some w_261)))
abbrev rm_X10_lay : Room := { frames := 0, cells := 0, slots := 0, locals := 0 }
set_option maxHeartbeats 4000000 in
set_option maxRecDepth 100000 in
theorem c_X10_lay (l : Launch) (dC : Nat → ClassId) (dI : Nat → Nat → Nat) (cB cC cI cJ cZ cT : ClassId) (h0 q_now q_text q_row q_read q_ranks q_distinct q_proper q_line q_order q_then q_bestOrder q_lineThen q_undos q_was q_kept q_isKept : Nat) (sz : Nat) (v_typed : Int32) (v_rowMany : Int32) (v_thrown : Int32) (v_length : Int32) (v_at : Int32) (v_wrong : Int32) (v_properMany : Int32) (v_orderMany : Int32) (v_undoMany : Int32) (v_drawn : Int32) (v_now : Nat → Int64) (v_was : Nat → Int64) (o : (Nat → Int64)) (hf : f_X10_lay v_now v_was = some o) : Met l yX10_lay wsX10_lay rm_X10_lay (va_Pc [.ref h0] (fun U => U.heap.size = sz ∧ va_P (dC, dI) vwCl [(h0, .inr (8, [.ref q_now, .ref q_text, .int v_typed, .ref q_row, .int v_rowMany, .int v_thrown, .int v_length, .int v_at, .int v_wrong, .ref q_read, .ref q_ranks, .ref q_distinct, .ref q_proper, .int v_properMany, .ref q_line, .ref q_order, .int v_orderMany, .ref q_then, .ref q_bestOrder, .ref q_lineThen, .ref q_undos, .ref q_was, .int v_undoMany, .int v_drawn, .ref q_kept, .ref q_isKept])), (q_now, .inl (cJ, 120, .inr (.inl v_now))), (q_was, .inl (cJ, 120, .inr (.inl v_was)))] U.heap ∧ va_K (dC, dI) vwCl (tyA cB cC cI cJ cZ cT) U ∧ va_D (fun _ => True) [(h0, .inr (8, [.ref q_now, .ref q_text, .int v_typed, .ref q_row, .int v_rowMany, .int v_thrown, .int v_length, .int v_at, .int v_wrong, .ref q_read, .ref q_ranks, .ref q_distinct, .ref q_proper, .int v_properMany, .ref q_line, .ref q_order, .int v_orderMany, .ref q_then, .ref q_bestOrder, .ref q_lineThen, .ref q_undos, .ref q_was, .int v_undoMany, .int v_drawn, .ref q_kept, .ref q_isKept])), (q_now, .inl (cJ, 120, .inr (.inl v_now))), (q_was, .inl (cJ, 120, .inr (.inl v_was)))])) (va_Qv (fun _ : Unit => True) (fun _ t => va_P (dC, dI) vwCl [(h0, .inr (8, [.ref q_now, .ref q_text, .int v_typed, .ref q_row, .int v_rowMany, .int v_thrown, .int v_length, .int v_at, .int v_wrong, .ref q_read, .ref q_ranks, .ref q_distinct, .ref q_proper, .int v_properMany, .ref q_line, .ref q_order, .int v_orderMany, .ref q_then, .ref q_bestOrder, .ref q_lineThen, .ref q_undos, .ref q_was, .int v_undoMany, .int v_drawn, .ref q_kept, .ref q_isKept])), (q_now, .inl (cJ, 120, .inr (.inl v_now))), (q_was, .inl (cJ, 120, .inr (.inl o)))] t.heap ∧ va_K (dC, dI) vwCl (tyA cB cC cI cJ cZ cT) t ∧ va_D (va_A [(h0, .inr (8, [.ref q_now, .ref q_text, .int v_typed, .ref q_row, .int v_rowMany, .int v_thrown, .int v_length, .int v_at, .int v_wrong, .ref q_read, .ref q_ranks, .ref q_distinct, .ref q_proper, .int v_properMany, .ref q_line, .ref q_order, .int v_orderMany, .ref q_then, .ref q_bestOrder, .ref q_lineThen, .ref q_undos, .ref q_was, .int v_undoMany, .int v_drawn, .ref q_kept, .ref q_isKept])), (q_now, .inl (cJ, 120, .inr (.inl v_now))), (q_was, .inl (cJ, 120, .inr (.inl v_was)))] sz) [(h0, .inr (8, [.ref q_now, .ref q_text, .int v_typed, .ref q_row, .int v_rowMany, .int v_thrown, .int v_length, .int v_at, .int v_wrong, .ref q_read, .ref q_ranks, .ref q_distinct, .ref q_proper, .int v_properMany, .ref q_line, .ref q_order, .int v_orderMany, .ref q_then, .ref q_bestOrder, .ref q_lineThen, .ref q_undos, .ref q_was, .int v_undoMany, .int v_drawn, .ref q_kept, .ref q_isKept])), (q_now, .inl (cJ, 120, .inr (.inl v_now))), (q_was, .inl (cJ, 120, .inr (.inl o)))]) (va_A [(h0, .inr (8, [.ref q_now, .ref q_text, .int v_typed, .ref q_row, .int v_rowMany, .int v_thrown, .int v_length, .int v_at, .int v_wrong, .ref q_read, .ref q_ranks, .ref q_distinct, .ref q_proper, .int v_properMany, .ref q_line, .ref q_order, .int v_orderMany, .ref q_then, .ref q_bestOrder, .ref q_lineThen, .ref q_undos, .ref q_was, .int v_undoMany, .int v_drawn, .ref q_kept, .ref q_isKept])), (q_now, .inl (cJ, 120, .inr (.inl v_now))), (q_was, .inl (cJ, 120, .inr (.inl v_was)))] sz)) 0 0 (va_A [(h0, .inr (8, [.ref q_now, .ref q_text, .int v_typed, .ref q_row, .int v_rowMany, .int v_thrown, .int v_length, .int v_at, .int v_wrong, .ref q_read, .ref q_ranks, .ref q_distinct, .ref q_proper, .int v_properMany, .ref q_line, .ref q_order, .int v_orderMany, .ref q_then, .ref q_bestOrder, .ref q_lineThen, .ref q_undos, .ref q_was, .int v_undoMany, .int v_drawn, .ref q_kept, .ref q_isKept])), (q_now, .inl (cJ, 120, .inr (.inl v_now))), (q_was, .inl (cJ, 120, .inr (.inl v_was)))] sz) := by
  refine Met.ofW (cc := cX10_lay) (maxL := 2) (ret := none) (by decide) rfl ?_
  intro p e s m args below meth c s₁ B hml hv
  obtain ⟨hav, hsz, hP, hK, hD0⟩ := hv
  have hx := B.exec
  have hb := B.bytes
  have hr := B.returns
  have hts := atoms_spec (ws := wsX10_lay) B.pre
  have hown : s.vm.findClass RX10 = some m.cls := findClass_of_methodNamed B.named
  have hlocks := B.notSynchronized
  subst hsz
  have hD := hD0.self (sz := s.heap.size)
  generalize hAe : va_A [(h0, .inr (8, [.ref q_now, .ref q_text, .int v_typed, .ref q_row, .int v_rowMany, .int v_thrown, .int v_length, .int v_at, .int v_wrong, .ref q_read, .ref q_ranks, .ref q_distinct, .ref q_proper, .int v_properMany, .ref q_line, .ref q_order, .int v_orderMany, .ref q_then, .ref q_bestOrder, .ref q_lineThen, .ref q_undos, .ref q_was, .int v_undoMany, .int v_drawn, .ref q_kept, .ref q_isKept])), (q_now, .inl (cJ, 120, .inr (.inl v_now))), (q_was, .inl (cJ, 120, .inr (.inl v_was)))] s.heap.size = A at hD ⊢
  have hA : ∀ q : Nat, s.heap.size ≤ q → A q := fun q h => by rw [← hAe]; exact Or.inr h
  have hS : va_S A s.heap s.heap [] := va_S.rf
  refine wstart (rm := rm_X10_lay) hav (Nat.le_of_ble_eq_true rfl) (fun QQ ls hQQ hl => ?_)
  have hl : lv_has ls 2 [(0, .ref h0)] := hl
  have hi_X10 : ∀ w ∈ u_ws RX10 TX10 26, w ∈ wsX10_lay := by decide +kernel
  have h := hf
  unfold f_X10_lay at h
  refine lv_iconst (v := 0) hx hb dX10_lay_0 (by decide) ?_
  refine lv_istore_n (lv' := [(1, .int (0 : Int32)), (0, .ref h0)]) hx hb dX10_lay_1 rfl hl (by decide) rfl (fun ls hl => ?_)
  have LP_261 : ∀ (n : Nat) (x1_2 : Int32) (v_was_2 : (Nat → Int64)) (w : (Nat → Int64)) (H : Heap) (locs : List Loc) (ls : Array Slot), L_X10_lay_2 v_now n x1_2 v_was_2 = some w → va_P (dC, dI) vwCl [(h0, .inr (8, [.ref q_now, .ref q_text, .int v_typed, .ref q_row, .int v_rowMany, .int v_thrown, .int v_length, .int v_at, .int v_wrong, .ref q_read, .ref q_ranks, .ref q_distinct, .ref q_proper, .int v_properMany, .ref q_line, .ref q_order, .int v_orderMany, .ref q_then, .ref q_bestOrder, .ref q_lineThen, .ref q_undos, .ref q_was, .int v_undoMany, .int v_drawn, .ref q_kept, .ref q_isKept])), (q_now, .inl (cJ, 120, .inr (.inl v_now))), (q_was, .inl (cJ, 120, .inr (.inl v_was_2)))] H → va_D A [(h0, .inr (8, [.ref q_now, .ref q_text, .int v_typed, .ref q_row, .int v_rowMany, .int v_thrown, .int v_length, .int v_at, .int v_wrong, .ref q_read, .ref q_ranks, .ref q_distinct, .ref q_proper, .int v_properMany, .ref q_line, .ref q_order, .int v_orderMany, .ref q_then, .ref q_bestOrder, .ref q_lineThen, .ref q_undos, .ref q_was, .int v_undoMany, .int v_drawn, .ref q_kept, .ref q_isKept])), (q_now, .inl (cJ, 120, .inr (.inl v_now))), (q_was, .inl (cJ, 120, .inr (.inl v_was_2)))] → va_S A s.heap H locs → lv_has ls 2 [(0, .ref h0), (1, .int x1_2)] → (∀ (H : Heap) (locs : List Loc) (ls : Array Slot), va_P (dC, dI) vwCl [(h0, .inr (8, [.ref q_now, .ref q_text, .int v_typed, .ref q_row, .int v_rowMany, .int v_thrown, .int v_length, .int v_at, .int v_wrong, .ref q_read, .ref q_ranks, .ref q_distinct, .ref q_proper, .int v_properMany, .ref q_line, .ref q_order, .int v_orderMany, .ref q_then, .ref q_bestOrder, .ref q_lineThen, .ref q_undos, .ref q_was, .int v_undoMany, .int v_drawn, .ref q_kept, .ref q_isKept])), (q_now, .inl (cJ, 120, .inr (.inl v_now))), (q_was, .inl (cJ, 120, .inr (.inl w)))] H → va_D A [(h0, .inr (8, [.ref q_now, .ref q_text, .int v_typed, .ref q_row, .int v_rowMany, .int v_thrown, .int v_length, .int v_at, .int v_wrong, .ref q_read, .ref q_ranks, .ref q_distinct, .ref q_proper, .int v_properMany, .ref q_line, .ref q_order, .int v_orderMany, .ref q_then, .ref q_bestOrder, .ref q_lineThen, .ref q_undos, .ref q_was, .int v_undoMany, .int v_drawn, .ref q_kept, .ref q_isKept])), (q_now, .inl (cJ, 120, .inr (.inl v_now))), (q_was, .inl (cJ, 120, .inr (.inl w)))] → va_S A s.heap H locs → lv_has ls 2 [] → W p l e rm_X10_lay s m args below meth c H locs 0 0 QQ (F0 m 26 ls [])) → W p l e rm_X10_lay s m args below meth c H locs 0 0 QQ (F0 m 2 ls []) := by
    intro n
    induction n with
    | zero => intro x1_2 v_was_2 w H locs ls h; exact absurd (show none = some w from h) nofun
    | succ n ih =>
      intro x1_2 v_was_2 w H locs ls h hP hD hS hl K
      rw [L_X10_lay_2] at h
      refine lv_iload_n hx hb dX10_lay_2 rfl (lv_at hl 1 rfl) ?_
      refine lv_bipush (v := 120) hx hb dX10_lay_3 (by decide) ?_
      refine lv_icmp_ge (tgt := 26) hx hb dX10_lay_5 (by decide) (fun c_258 => ?_) (fun c_258 => ?_)
      · replace h := op c_258 h
        have ho := Option.some.inj h
        subst ho
        exact K H _ ls hP hD hS (lv_sub hl [] rfl)
      · replace h := on c_258 h
        refine lv_aload_n hx hb dX10_lay_8 rfl (lv_at hl 0 rfl) ?_
        refine va_get (D := (dC, dI)) (ci := 8) (v := .ref q_was) (C := RX10) (T := TX10) (N := 26) hx hb hts hi_X10 hown hK hP 0 rfl rfl 21 (by decide) (hts _ (List.mem_of_getElem? (i := 1) rfl)) (fun _ h9 => h9) rfl dX10_lay_9 ?_
        refine lv_iload_n hx hb dX10_lay_12 rfl (lv_at hl 1 rfl) ?_
        refine lv_aload_n hx hb dX10_lay_13 rfl (lv_at hl 0 rfl) ?_
        refine va_get (D := (dC, dI)) (ci := 8) (v := .ref q_now) (C := RX10) (T := TX10) (N := 26) hx hb hts hi_X10 hown hK hP 0 rfl rfl 0 (by decide) (hts _ (List.mem_of_getElem? (i := 2) rfl)) (fun _ h9 => h9) rfl dX10_lay_14 ?_
        refine lv_iload_n hx hb dX10_lay_17 rfl (lv_at hl 1 rfl) ?_
        obtain ⟨hi_259, h⟩ := og h
        refine va_lald hx hb hK hP 1 1 rfl rfl hi_259 dX10_lay_18 ?_
        obtain ⟨hi_260, h⟩ := og h
        refine va_last hx hb hK hP hD hS 2 1 rfl rfl hi_260 dX10_lay_19 (fun H locs hP hD hS => ?_)
        replace hP : va_P (dC, dI) vwCl [(h0, .inr (8, [.ref q_now, .ref q_text, .int v_typed, .ref q_row, .int v_rowMany, .int v_thrown, .int v_length, .int v_at, .int v_wrong, .ref q_read, .ref q_ranks, .ref q_distinct, .ref q_proper, .int v_properMany, .ref q_line, .ref q_order, .int v_orderMany, .ref q_then, .ref q_bestOrder, .ref q_lineThen, .ref q_undos, .ref q_was, .int v_undoMany, .int v_drawn, .ref q_kept, .ref q_isKept])), (q_now, .inl (cJ, 120, .inr (.inl v_now))), (q_was, .inl (cJ, 120, .inr (.inl (vp_updL v_was_2 (x1_2).toNatClampNeg (v_now (x1_2).toNatClampNeg)))))] H := hP
        replace hD : va_D A [(h0, .inr (8, [.ref q_now, .ref q_text, .int v_typed, .ref q_row, .int v_rowMany, .int v_thrown, .int v_length, .int v_at, .int v_wrong, .ref q_read, .ref q_ranks, .ref q_distinct, .ref q_proper, .int v_properMany, .ref q_line, .ref q_order, .int v_orderMany, .ref q_then, .ref q_bestOrder, .ref q_lineThen, .ref q_undos, .ref q_was, .int v_undoMany, .int v_drawn, .ref q_kept, .ref q_isKept])), (q_now, .inl (cJ, 120, .inr (.inl v_now))), (q_was, .inl (cJ, 120, .inr (.inl (vp_updL v_was_2 (x1_2).toNatClampNeg (v_now (x1_2).toNatClampNeg)))))] := hD
        refine lv_iinc (v := (x1_2 + 1)) (lv' := [(1, .int (x1_2 + 1)), (0, .ref h0)]) hx hb dX10_lay_20 hl (k := 1) rfl (by rfl) (by decide) rfl (fun ls hl => ?_)
        refine lv_goto (tgt := 2) hx hb dX10_lay_23 (by decide) ?_
        exact ih (x1_2 + 1) (vp_updL v_was_2 (x1_2).toNatClampNeg (v_now (x1_2).toNatClampNeg)) w H _ ls h hP hD hS (lv_sub hl [1, 0] rfl) K
  obtain ⟨w_261, hw_261, h⟩ := ob h
  refine LP_261 fu (0 : Int32) v_was w_261 s.heap _ ls hw_261 hP hD hS (lv_sub hl [1, 0] rfl) (fun H locs ls hP hD hS hl => ?_)
  rw [hQQ]
  have ho := Option.some.inj h
  subst ho
  exact W.vret hx hb hr (fun t ht hW => ⟨⟨(), rfl, trivial, by rw [ht]; exact hP, va_K.moved hW.alike hK, hD⟩, hS.F ht⟩) hS.2.2 dX10_lay_26
def L_X10_note_11  : Nat → Int32 → (Nat → Int64) → Option (Nat → Int64)
  | 0, _, _ => none
  | n+1, x1_11, v_undos_11 => (if (840 : Int32) ≤ x1_11 then (some v_undos_11) else (if (x1_11 + (120 : Int32)) < 0 ∨ 960 ≤ ((x1_11 + (120 : Int32))).toNatClampNeg then none else (if x1_11 < 0 ∨ 960 ≤ (x1_11).toNatClampNeg then none else (L_X10_note_11 n (x1_11 + 1) (vp_updL v_undos_11 (x1_11).toNatClampNeg (v_undos_11 ((x1_11 + (120 : Int32))).toNatClampNeg))))))
def L_X10_note_51 (v_was : (Nat → Int64)) (v_262 : (Int32 × (Nat → Int64))) : Nat → Int32 → (Nat → Int64) → Option (Nat → Int64)
  | 0, _, _ => none
  | n+1, x1_51, v_undos_51 => (if (120 : Int32) ≤ x1_51 then (some v_undos_51) else (if x1_51 < 0 ∨ 120 ≤ (x1_51).toNatClampNeg then none else (if (((120 : Int32) * v_262.1) + x1_51) < 0 ∨ 960 ≤ ((((120 : Int32) * v_262.1) + x1_51)).toNatClampNeg then none else (L_X10_note_51 v_was v_262 n (x1_51 + 1) (vp_updL v_undos_51 ((((120 : Int32) * v_262.1) + x1_51)).toNatClampNeg (v_was (x1_51).toNatClampNeg))))))
def f_X10_note (v_undoMany : Int32) (v_undos : Nat → Int64) (v_was : Nat → Int64) : Option (Int32 × (Nat → Int64)) :=
  (((if v_undoMany = (8 : Int32) then ((L_X10_note_11 fu (0 : Int32) v_undos).bind (fun w_272 => (some ((v_undoMany - (1 : Int32)), w_272)))) else (some (v_undoMany, v_undos)))).bind (fun v_262 => ((L_X10_note_51 v_was v_262 fu (0 : Int32) v_262.2).bind (fun w_276 => (some ((v_262.1 + (1 : Int32)), w_276))))))
abbrev rm_X10_note : Room := { frames := 0, cells := 0, slots := 0, locals := 0 }
set_option maxHeartbeats 4000000 in
set_option maxRecDepth 100000 in
theorem c_X10_note (l : Launch) (dC : Nat → ClassId) (dI : Nat → Nat → Nat) (cB cC cI cJ cZ cT : ClassId) (h0 q_now q_text q_row q_read q_ranks q_distinct q_proper q_line q_order q_then q_bestOrder q_lineThen q_undos q_was q_kept q_isKept : Nat) (sz : Nat) (v_typed : Int32) (v_rowMany : Int32) (v_thrown : Int32) (v_length : Int32) (v_at : Int32) (v_wrong : Int32) (v_properMany : Int32) (v_orderMany : Int32) (v_undoMany : Int32) (v_drawn : Int32) (v_undos : Nat → Int64) (v_was : Nat → Int64) (o : (Int32 × (Nat → Int64))) (hf : f_X10_note v_undoMany v_undos v_was = some o) : Met l yX10_note wsX10_note rm_X10_note (va_Pc [.ref h0] (fun U => U.heap.size = sz ∧ va_P (dC, dI) vwCl [(h0, .inr (8, [.ref q_now, .ref q_text, .int v_typed, .ref q_row, .int v_rowMany, .int v_thrown, .int v_length, .int v_at, .int v_wrong, .ref q_read, .ref q_ranks, .ref q_distinct, .ref q_proper, .int v_properMany, .ref q_line, .ref q_order, .int v_orderMany, .ref q_then, .ref q_bestOrder, .ref q_lineThen, .ref q_undos, .ref q_was, .int v_undoMany, .int v_drawn, .ref q_kept, .ref q_isKept])), (q_undos, .inl (cJ, 960, .inr (.inl v_undos))), (q_was, .inl (cJ, 120, .inr (.inl v_was)))] U.heap ∧ va_K (dC, dI) vwCl (tyA cB cC cI cJ cZ cT) U ∧ va_D (fun _ => True) [(h0, .inr (8, [.ref q_now, .ref q_text, .int v_typed, .ref q_row, .int v_rowMany, .int v_thrown, .int v_length, .int v_at, .int v_wrong, .ref q_read, .ref q_ranks, .ref q_distinct, .ref q_proper, .int v_properMany, .ref q_line, .ref q_order, .int v_orderMany, .ref q_then, .ref q_bestOrder, .ref q_lineThen, .ref q_undos, .ref q_was, .int v_undoMany, .int v_drawn, .ref q_kept, .ref q_isKept])), (q_undos, .inl (cJ, 960, .inr (.inl v_undos))), (q_was, .inl (cJ, 120, .inr (.inl v_was)))])) (va_Qv (fun _ : Unit => True) (fun _ t => va_P (dC, dI) vwCl [(h0, .inr (8, [.ref q_now, .ref q_text, .int v_typed, .ref q_row, .int v_rowMany, .int v_thrown, .int v_length, .int v_at, .int v_wrong, .ref q_read, .ref q_ranks, .ref q_distinct, .ref q_proper, .int v_properMany, .ref q_line, .ref q_order, .int v_orderMany, .ref q_then, .ref q_bestOrder, .ref q_lineThen, .ref q_undos, .ref q_was, .int o.1, .int v_drawn, .ref q_kept, .ref q_isKept])), (q_undos, .inl (cJ, 960, .inr (.inl o.2))), (q_was, .inl (cJ, 120, .inr (.inl v_was)))] t.heap ∧ va_K (dC, dI) vwCl (tyA cB cC cI cJ cZ cT) t ∧ va_D (va_A [(h0, .inr (8, [.ref q_now, .ref q_text, .int v_typed, .ref q_row, .int v_rowMany, .int v_thrown, .int v_length, .int v_at, .int v_wrong, .ref q_read, .ref q_ranks, .ref q_distinct, .ref q_proper, .int v_properMany, .ref q_line, .ref q_order, .int v_orderMany, .ref q_then, .ref q_bestOrder, .ref q_lineThen, .ref q_undos, .ref q_was, .int v_undoMany, .int v_drawn, .ref q_kept, .ref q_isKept])), (q_undos, .inl (cJ, 960, .inr (.inl v_undos))), (q_was, .inl (cJ, 120, .inr (.inl v_was)))] sz) [(h0, .inr (8, [.ref q_now, .ref q_text, .int v_typed, .ref q_row, .int v_rowMany, .int v_thrown, .int v_length, .int v_at, .int v_wrong, .ref q_read, .ref q_ranks, .ref q_distinct, .ref q_proper, .int v_properMany, .ref q_line, .ref q_order, .int v_orderMany, .ref q_then, .ref q_bestOrder, .ref q_lineThen, .ref q_undos, .ref q_was, .int o.1, .int v_drawn, .ref q_kept, .ref q_isKept])), (q_undos, .inl (cJ, 960, .inr (.inl o.2))), (q_was, .inl (cJ, 120, .inr (.inl v_was)))]) (va_A [(h0, .inr (8, [.ref q_now, .ref q_text, .int v_typed, .ref q_row, .int v_rowMany, .int v_thrown, .int v_length, .int v_at, .int v_wrong, .ref q_read, .ref q_ranks, .ref q_distinct, .ref q_proper, .int v_properMany, .ref q_line, .ref q_order, .int v_orderMany, .ref q_then, .ref q_bestOrder, .ref q_lineThen, .ref q_undos, .ref q_was, .int v_undoMany, .int v_drawn, .ref q_kept, .ref q_isKept])), (q_undos, .inl (cJ, 960, .inr (.inl v_undos))), (q_was, .inl (cJ, 120, .inr (.inl v_was)))] sz)) 0 0 (va_A [(h0, .inr (8, [.ref q_now, .ref q_text, .int v_typed, .ref q_row, .int v_rowMany, .int v_thrown, .int v_length, .int v_at, .int v_wrong, .ref q_read, .ref q_ranks, .ref q_distinct, .ref q_proper, .int v_properMany, .ref q_line, .ref q_order, .int v_orderMany, .ref q_then, .ref q_bestOrder, .ref q_lineThen, .ref q_undos, .ref q_was, .int v_undoMany, .int v_drawn, .ref q_kept, .ref q_isKept])), (q_undos, .inl (cJ, 960, .inr (.inl v_undos))), (q_was, .inl (cJ, 120, .inr (.inl v_was)))] sz) := by
  refine Met.ofW (cc := cX10_note) (maxL := 2) (ret := none) (by decide) rfl ?_
  intro p e s m args below meth c s₁ B hml hv
  obtain ⟨hav, hsz, hP, hK, hD0⟩ := hv
  have hx := B.exec
  have hb := B.bytes
  have hr := B.returns
  have hts := atoms_spec (ws := wsX10_note) B.pre
  have hown : s.vm.findClass RX10 = some m.cls := findClass_of_methodNamed B.named
  have hlocks := B.notSynchronized
  subst hsz
  have hD := hD0.self (sz := s.heap.size)
  generalize hAe : va_A [(h0, .inr (8, [.ref q_now, .ref q_text, .int v_typed, .ref q_row, .int v_rowMany, .int v_thrown, .int v_length, .int v_at, .int v_wrong, .ref q_read, .ref q_ranks, .ref q_distinct, .ref q_proper, .int v_properMany, .ref q_line, .ref q_order, .int v_orderMany, .ref q_then, .ref q_bestOrder, .ref q_lineThen, .ref q_undos, .ref q_was, .int v_undoMany, .int v_drawn, .ref q_kept, .ref q_isKept])), (q_undos, .inl (cJ, 960, .inr (.inl v_undos))), (q_was, .inl (cJ, 120, .inr (.inl v_was)))] s.heap.size = A at hD ⊢
  have hA : ∀ q : Nat, s.heap.size ≤ q → A q := fun q h => by rw [← hAe]; exact Or.inr h
  have hS : va_S A s.heap s.heap [] := va_S.rf
  refine wstart (rm := rm_X10_note) hav (Nat.le_of_ble_eq_true rfl) (fun QQ ls hQQ hl => ?_)
  have hl : lv_has ls 2 [(0, .ref h0)] := hl
  have hi_X10 : ∀ w ∈ u_ws RX10 TX10 26, w ∈ wsX10_note := by decide +kernel
  have h := hf
  unfold f_X10_note at h
  refine lv_aload_n hx hb dX10_note_0 rfl (lv_at hl 0 rfl) ?_
  refine va_get (D := (dC, dI)) (ci := 8) (v := .int v_undoMany) (C := RX10) (T := TX10) (N := 26) hx hb hts hi_X10 hown hK hP 0 rfl rfl 22 (by decide) (hts _ (List.mem_of_getElem? (i := 1) rfl)) (fun _ h9 => h9) rfl dX10_note_1 ?_
  refine lv_bipush (v := 8) hx hb dX10_note_4 (by decide) ?_
  obtain ⟨v_262, hv_262, h⟩ := ob h
  have J_262 : ∀ (H : Heap) (locs : List Loc) (ls : Array Slot), va_P (dC, dI) vwCl [(h0, .inr (8, [.ref q_now, .ref q_text, .int v_typed, .ref q_row, .int v_rowMany, .int v_thrown, .int v_length, .int v_at, .int v_wrong, .ref q_read, .ref q_ranks, .ref q_distinct, .ref q_proper, .int v_properMany, .ref q_line, .ref q_order, .int v_orderMany, .ref q_then, .ref q_bestOrder, .ref q_lineThen, .ref q_undos, .ref q_was, .int v_262.1, .int v_drawn, .ref q_kept, .ref q_isKept])), (q_undos, .inl (cJ, 960, .inr (.inl v_262.2))), (q_was, .inl (cJ, 120, .inr (.inl v_was)))] H → va_D A [(h0, .inr (8, [.ref q_now, .ref q_text, .int v_typed, .ref q_row, .int v_rowMany, .int v_thrown, .int v_length, .int v_at, .int v_wrong, .ref q_read, .ref q_ranks, .ref q_distinct, .ref q_proper, .int v_properMany, .ref q_line, .ref q_order, .int v_orderMany, .ref q_then, .ref q_bestOrder, .ref q_lineThen, .ref q_undos, .ref q_was, .int v_262.1, .int v_drawn, .ref q_kept, .ref q_isKept])), (q_undos, .inl (cJ, 960, .inr (.inl v_262.2))), (q_was, .inl (cJ, 120, .inr (.inl v_was)))] → va_S A s.heap H locs → lv_has ls 2 [(0, .ref h0)] → W p l e rm_X10_note s m args below meth c H locs 0 0 QQ (F0 m 49 ls []) := by
    intro H locs ls hP hD hS hl
    refine lv_iconst (v := 0) hx hb dX10_note_49 (by decide) ?_
    refine lv_istore_n (lv' := [(1, .int (0 : Int32)), (0, .ref h0)]) hx hb dX10_note_50 rfl hl (by decide) rfl (fun ls hl => ?_)
    have LP_276 : ∀ (n : Nat) (x1_51 : Int32) (v_undos_51 : (Nat → Int64)) (w : (Nat → Int64)) (H : Heap) (locs : List Loc) (ls : Array Slot), L_X10_note_51 v_was v_262 n x1_51 v_undos_51 = some w → va_P (dC, dI) vwCl [(h0, .inr (8, [.ref q_now, .ref q_text, .int v_typed, .ref q_row, .int v_rowMany, .int v_thrown, .int v_length, .int v_at, .int v_wrong, .ref q_read, .ref q_ranks, .ref q_distinct, .ref q_proper, .int v_properMany, .ref q_line, .ref q_order, .int v_orderMany, .ref q_then, .ref q_bestOrder, .ref q_lineThen, .ref q_undos, .ref q_was, .int v_262.1, .int v_drawn, .ref q_kept, .ref q_isKept])), (q_undos, .inl (cJ, 960, .inr (.inl v_undos_51))), (q_was, .inl (cJ, 120, .inr (.inl v_was)))] H → va_D A [(h0, .inr (8, [.ref q_now, .ref q_text, .int v_typed, .ref q_row, .int v_rowMany, .int v_thrown, .int v_length, .int v_at, .int v_wrong, .ref q_read, .ref q_ranks, .ref q_distinct, .ref q_proper, .int v_properMany, .ref q_line, .ref q_order, .int v_orderMany, .ref q_then, .ref q_bestOrder, .ref q_lineThen, .ref q_undos, .ref q_was, .int v_262.1, .int v_drawn, .ref q_kept, .ref q_isKept])), (q_undos, .inl (cJ, 960, .inr (.inl v_undos_51))), (q_was, .inl (cJ, 120, .inr (.inl v_was)))] → va_S A s.heap H locs → lv_has ls 2 [(0, .ref h0), (1, .int x1_51)] → (∀ (H : Heap) (locs : List Loc) (ls : Array Slot), va_P (dC, dI) vwCl [(h0, .inr (8, [.ref q_now, .ref q_text, .int v_typed, .ref q_row, .int v_rowMany, .int v_thrown, .int v_length, .int v_at, .int v_wrong, .ref q_read, .ref q_ranks, .ref q_distinct, .ref q_proper, .int v_properMany, .ref q_line, .ref q_order, .int v_orderMany, .ref q_then, .ref q_bestOrder, .ref q_lineThen, .ref q_undos, .ref q_was, .int v_262.1, .int v_drawn, .ref q_kept, .ref q_isKept])), (q_undos, .inl (cJ, 960, .inr (.inl w))), (q_was, .inl (cJ, 120, .inr (.inl v_was)))] H → va_D A [(h0, .inr (8, [.ref q_now, .ref q_text, .int v_typed, .ref q_row, .int v_rowMany, .int v_thrown, .int v_length, .int v_at, .int v_wrong, .ref q_read, .ref q_ranks, .ref q_distinct, .ref q_proper, .int v_properMany, .ref q_line, .ref q_order, .int v_orderMany, .ref q_then, .ref q_bestOrder, .ref q_lineThen, .ref q_undos, .ref q_was, .int v_262.1, .int v_drawn, .ref q_kept, .ref q_isKept])), (q_undos, .inl (cJ, 960, .inr (.inl w))), (q_was, .inl (cJ, 120, .inr (.inl v_was)))] → va_S A s.heap H locs → lv_has ls 2 [(0, .ref h0)] → W p l e rm_X10_note s m args below meth c H locs 0 0 QQ (F0 m 83 ls [])) → W p l e rm_X10_note s m args below meth c H locs 0 0 QQ (F0 m 51 ls []) := by
      intro n
      induction n with
      | zero => intro x1_51 v_undos_51 w H locs ls h; exact absurd (show none = some w from h) nofun
      | succ n ih =>
        intro x1_51 v_undos_51 w H locs ls h hP hD hS hl K
        rw [L_X10_note_51] at h
        refine lv_iload_n hx hb dX10_note_51 rfl (lv_at hl 1 rfl) ?_
        refine lv_bipush (v := 120) hx hb dX10_note_52 (by decide) ?_
        refine lv_icmp_ge (tgt := 83) hx hb dX10_note_54 (by decide) (fun c_273 => ?_) (fun c_273 => ?_)
        · replace h := op c_273 h
          have ho := Option.some.inj h
          subst ho
          exact K H _ ls hP hD hS (lv_sub hl [0] rfl)
        · replace h := on c_273 h
          refine lv_aload_n hx hb dX10_note_57 rfl (lv_at hl 0 rfl) ?_
          refine va_get (D := (dC, dI)) (ci := 8) (v := .ref q_undos) (C := RX10) (T := TX10) (N := 26) hx hb hts hi_X10 hown hK hP 0 rfl rfl 20 (by decide) (hts _ (List.mem_of_getElem? (i := 2) rfl)) (fun _ h9 => h9) rfl dX10_note_58 ?_
          refine lv_bipush (v := 120) hx hb dX10_note_61 (by decide) ?_
          refine lv_aload_n hx hb dX10_note_63 rfl (lv_at hl 0 rfl) ?_
          refine va_get (D := (dC, dI)) (ci := 8) (v := .int v_262.1) (C := RX10) (T := TX10) (N := 26) hx hb hts hi_X10 hown hK hP 0 rfl rfl 22 (by decide) (hts _ (List.mem_of_getElem? (i := 1) rfl)) (fun _ h9 => h9) rfl dX10_note_64 ?_
          refine lv_imul hx hb dX10_note_67 ?_
          refine lv_iload_n hx hb dX10_note_68 rfl (lv_at hl 1 rfl) ?_
          refine lv_iadd hx hb dX10_note_69 ?_
          refine lv_aload_n hx hb dX10_note_70 rfl (lv_at hl 0 rfl) ?_
          refine va_get (D := (dC, dI)) (ci := 8) (v := .ref q_was) (C := RX10) (T := TX10) (N := 26) hx hb hts hi_X10 hown hK hP 0 rfl rfl 21 (by decide) (hts _ (List.mem_of_getElem? (i := 3) rfl)) (fun _ h9 => h9) rfl dX10_note_71 ?_
          refine lv_iload_n hx hb dX10_note_74 rfl (lv_at hl 1 rfl) ?_
          obtain ⟨hi_274, h⟩ := og h
          refine va_lald hx hb hK hP 2 1 rfl rfl hi_274 dX10_note_75 ?_
          obtain ⟨hi_275, h⟩ := og h
          refine va_last hx hb hK hP hD hS 1 1 rfl rfl hi_275 dX10_note_76 (fun H locs hP hD hS => ?_)
          replace hP : va_P (dC, dI) vwCl [(h0, .inr (8, [.ref q_now, .ref q_text, .int v_typed, .ref q_row, .int v_rowMany, .int v_thrown, .int v_length, .int v_at, .int v_wrong, .ref q_read, .ref q_ranks, .ref q_distinct, .ref q_proper, .int v_properMany, .ref q_line, .ref q_order, .int v_orderMany, .ref q_then, .ref q_bestOrder, .ref q_lineThen, .ref q_undos, .ref q_was, .int v_262.1, .int v_drawn, .ref q_kept, .ref q_isKept])), (q_undos, .inl (cJ, 960, .inr (.inl (vp_updL v_undos_51 ((((120 : Int32) * v_262.1) + x1_51)).toNatClampNeg (v_was (x1_51).toNatClampNeg))))), (q_was, .inl (cJ, 120, .inr (.inl v_was)))] H := hP
          replace hD : va_D A [(h0, .inr (8, [.ref q_now, .ref q_text, .int v_typed, .ref q_row, .int v_rowMany, .int v_thrown, .int v_length, .int v_at, .int v_wrong, .ref q_read, .ref q_ranks, .ref q_distinct, .ref q_proper, .int v_properMany, .ref q_line, .ref q_order, .int v_orderMany, .ref q_then, .ref q_bestOrder, .ref q_lineThen, .ref q_undos, .ref q_was, .int v_262.1, .int v_drawn, .ref q_kept, .ref q_isKept])), (q_undos, .inl (cJ, 960, .inr (.inl (vp_updL v_undos_51 ((((120 : Int32) * v_262.1) + x1_51)).toNatClampNeg (v_was (x1_51).toNatClampNeg))))), (q_was, .inl (cJ, 120, .inr (.inl v_was)))] := hD
          refine lv_iinc (v := (x1_51 + 1)) (lv' := [(1, .int (x1_51 + 1)), (0, .ref h0)]) hx hb dX10_note_77 hl (k := 1) rfl (by rfl) (by decide) rfl (fun ls hl => ?_)
          refine lv_goto (tgt := 51) hx hb dX10_note_80 (by decide) ?_
          exact ih (x1_51 + 1) (vp_updL v_undos_51 ((((120 : Int32) * v_262.1) + x1_51)).toNatClampNeg (v_was (x1_51).toNatClampNeg)) w H _ ls h hP hD hS (lv_sub hl [1, 0] rfl) K
    obtain ⟨w_276, hw_276, h⟩ := ob h
    refine LP_276 fu (0 : Int32) v_262.2 w_276 H _ ls hw_276 hP hD hS (lv_sub hl [1, 0] rfl) (fun H locs ls hP hD hS hl => ?_)
    refine lv_aload_n hx hb dX10_note_83 rfl (lv_at hl 0 rfl) ?_
    refine lv_dup hx hb dX10_note_84 rfl ?_
    refine va_get (D := (dC, dI)) (ci := 8) (v := .int v_262.1) (C := RX10) (T := TX10) (N := 26) hx hb hts hi_X10 hown hK hP 0 rfl rfl 22 (by decide) (hts _ (List.mem_of_getElem? (i := 1) rfl)) (fun _ h9 => h9) rfl dX10_note_85 ?_
    refine lv_iconst (v := 1) hx hb dX10_note_88 (by decide) ?_
    refine lv_iadd hx hb dX10_note_89 ?_
    refine va_put (D := (dC, dI)) (ci := 8) (v := .int (v_262.1 + (1 : Int32))) (ty := .int) (C := RX10) (T := TX10) (N := 26) hx hb hts hi_X10 tyX10 tyX10_ok nmX10 hown hK hP hD hS 0 rfl rfl 22 (by decide) (hts _ (List.mem_of_getElem? (i := 1) rfl)) (fun _ h9 => h9) rfl (by decide +kernel) rfl rfl (Nat.le_of_ble_eq_true rfl) dX10_note_90 (fun H locs hP hD hS => ?_)
    replace hP : va_P (dC, dI) vwCl [(h0, .inr (8, [.ref q_now, .ref q_text, .int v_typed, .ref q_row, .int v_rowMany, .int v_thrown, .int v_length, .int v_at, .int v_wrong, .ref q_read, .ref q_ranks, .ref q_distinct, .ref q_proper, .int v_properMany, .ref q_line, .ref q_order, .int v_orderMany, .ref q_then, .ref q_bestOrder, .ref q_lineThen, .ref q_undos, .ref q_was, .int (v_262.1 + (1 : Int32)), .int v_drawn, .ref q_kept, .ref q_isKept])), (q_undos, .inl (cJ, 960, .inr (.inl w_276))), (q_was, .inl (cJ, 120, .inr (.inl v_was)))] H := hP
    replace hD : va_D A [(h0, .inr (8, [.ref q_now, .ref q_text, .int v_typed, .ref q_row, .int v_rowMany, .int v_thrown, .int v_length, .int v_at, .int v_wrong, .ref q_read, .ref q_ranks, .ref q_distinct, .ref q_proper, .int v_properMany, .ref q_line, .ref q_order, .int v_orderMany, .ref q_then, .ref q_bestOrder, .ref q_lineThen, .ref q_undos, .ref q_was, .int (v_262.1 + (1 : Int32)), .int v_drawn, .ref q_kept, .ref q_isKept])), (q_undos, .inl (cJ, 960, .inr (.inl w_276))), (q_was, .inl (cJ, 120, .inr (.inl v_was)))] := hD
    rw [hQQ]
    have ho := Option.some.inj h
    subst ho
    exact W.vret hx hb hr (fun t ht hW => ⟨⟨(), rfl, trivial, by rw [ht]; exact hP, va_K.moved hW.alike hK, hD⟩, hS.F ht⟩) hS.2.2 dX10_note_93
  replace h := hv_262
  refine lv_icmp_ne (tgt := 49) hx hb dX10_note_6 (by decide) (fun c_268 => ?_) (fun c_268 => ?_)
  · replace h := on c_268 h
    have ho := Option.some.inj h
    subst ho
    exact J_262 s.heap _ ls hP hD hS (lv_sub hl [0] rfl)
  · replace h := op c_268 h
    refine lv_iconst (v := 0) hx hb dX10_note_9 (by decide) ?_
    refine lv_istore_n (lv' := [(1, .int (0 : Int32)), (0, .ref h0)]) hx hb dX10_note_10 rfl hl (by decide) rfl (fun ls hl => ?_)
    have LP_272 : ∀ (n : Nat) (x1_11 : Int32) (v_undos_11 : (Nat → Int64)) (w : (Nat → Int64)) (H : Heap) (locs : List Loc) (ls : Array Slot), L_X10_note_11 n x1_11 v_undos_11 = some w → va_P (dC, dI) vwCl [(h0, .inr (8, [.ref q_now, .ref q_text, .int v_typed, .ref q_row, .int v_rowMany, .int v_thrown, .int v_length, .int v_at, .int v_wrong, .ref q_read, .ref q_ranks, .ref q_distinct, .ref q_proper, .int v_properMany, .ref q_line, .ref q_order, .int v_orderMany, .ref q_then, .ref q_bestOrder, .ref q_lineThen, .ref q_undos, .ref q_was, .int v_undoMany, .int v_drawn, .ref q_kept, .ref q_isKept])), (q_undos, .inl (cJ, 960, .inr (.inl v_undos_11))), (q_was, .inl (cJ, 120, .inr (.inl v_was)))] H → va_D A [(h0, .inr (8, [.ref q_now, .ref q_text, .int v_typed, .ref q_row, .int v_rowMany, .int v_thrown, .int v_length, .int v_at, .int v_wrong, .ref q_read, .ref q_ranks, .ref q_distinct, .ref q_proper, .int v_properMany, .ref q_line, .ref q_order, .int v_orderMany, .ref q_then, .ref q_bestOrder, .ref q_lineThen, .ref q_undos, .ref q_was, .int v_undoMany, .int v_drawn, .ref q_kept, .ref q_isKept])), (q_undos, .inl (cJ, 960, .inr (.inl v_undos_11))), (q_was, .inl (cJ, 120, .inr (.inl v_was)))] → va_S A s.heap H locs → lv_has ls 2 [(0, .ref h0), (1, .int x1_11)] → (∀ (H : Heap) (locs : List Loc) (ls : Array Slot), va_P (dC, dI) vwCl [(h0, .inr (8, [.ref q_now, .ref q_text, .int v_typed, .ref q_row, .int v_rowMany, .int v_thrown, .int v_length, .int v_at, .int v_wrong, .ref q_read, .ref q_ranks, .ref q_distinct, .ref q_proper, .int v_properMany, .ref q_line, .ref q_order, .int v_orderMany, .ref q_then, .ref q_bestOrder, .ref q_lineThen, .ref q_undos, .ref q_was, .int v_undoMany, .int v_drawn, .ref q_kept, .ref q_isKept])), (q_undos, .inl (cJ, 960, .inr (.inl w))), (q_was, .inl (cJ, 120, .inr (.inl v_was)))] H → va_D A [(h0, .inr (8, [.ref q_now, .ref q_text, .int v_typed, .ref q_row, .int v_rowMany, .int v_thrown, .int v_length, .int v_at, .int v_wrong, .ref q_read, .ref q_ranks, .ref q_distinct, .ref q_proper, .int v_properMany, .ref q_line, .ref q_order, .int v_orderMany, .ref q_then, .ref q_bestOrder, .ref q_lineThen, .ref q_undos, .ref q_was, .int v_undoMany, .int v_drawn, .ref q_kept, .ref q_isKept])), (q_undos, .inl (cJ, 960, .inr (.inl w))), (q_was, .inl (cJ, 120, .inr (.inl v_was)))] → va_S A s.heap H locs → lv_has ls 2 [(0, .ref h0)] → W p l e rm_X10_note s m args below meth c H locs 0 0 QQ (F0 m 39 ls [])) → W p l e rm_X10_note s m args below meth c H locs 0 0 QQ (F0 m 11 ls []) := by
      intro n
      induction n with
      | zero => intro x1_11 v_undos_11 w H locs ls h; exact absurd (show none = some w from h) nofun
      | succ n ih =>
        intro x1_11 v_undos_11 w H locs ls h hP hD hS hl K
        rw [L_X10_note_11] at h
        refine lv_iload_n hx hb dX10_note_11 rfl (lv_at hl 1 rfl) ?_
        refine lv_sipush (v := 840) hx hb dX10_note_12 (by decide) ?_
        refine lv_icmp_ge (tgt := 39) hx hb dX10_note_15 (by decide) (fun c_269 => ?_) (fun c_269 => ?_)
        · replace h := op c_269 h
          have ho := Option.some.inj h
          subst ho
          exact K H _ ls hP hD hS (lv_sub hl [0] rfl)
        · replace h := on c_269 h
          refine lv_aload_n hx hb dX10_note_18 rfl (lv_at hl 0 rfl) ?_
          refine va_get (D := (dC, dI)) (ci := 8) (v := .ref q_undos) (C := RX10) (T := TX10) (N := 26) hx hb hts hi_X10 hown hK hP 0 rfl rfl 20 (by decide) (hts _ (List.mem_of_getElem? (i := 2) rfl)) (fun _ h9 => h9) rfl dX10_note_19 ?_
          refine lv_iload_n hx hb dX10_note_22 rfl (lv_at hl 1 rfl) ?_
          refine lv_aload_n hx hb dX10_note_23 rfl (lv_at hl 0 rfl) ?_
          refine va_get (D := (dC, dI)) (ci := 8) (v := .ref q_undos) (C := RX10) (T := TX10) (N := 26) hx hb hts hi_X10 hown hK hP 0 rfl rfl 20 (by decide) (hts _ (List.mem_of_getElem? (i := 2) rfl)) (fun _ h9 => h9) rfl dX10_note_24 ?_
          refine lv_iload_n hx hb dX10_note_27 rfl (lv_at hl 1 rfl) ?_
          refine lv_bipush (v := 120) hx hb dX10_note_28 (by decide) ?_
          refine lv_iadd hx hb dX10_note_30 ?_
          obtain ⟨hi_270, h⟩ := og h
          refine va_lald hx hb hK hP 1 1 rfl rfl hi_270 dX10_note_31 ?_
          obtain ⟨hi_271, h⟩ := og h
          refine va_last hx hb hK hP hD hS 1 1 rfl rfl hi_271 dX10_note_32 (fun H locs hP hD hS => ?_)
          replace hP : va_P (dC, dI) vwCl [(h0, .inr (8, [.ref q_now, .ref q_text, .int v_typed, .ref q_row, .int v_rowMany, .int v_thrown, .int v_length, .int v_at, .int v_wrong, .ref q_read, .ref q_ranks, .ref q_distinct, .ref q_proper, .int v_properMany, .ref q_line, .ref q_order, .int v_orderMany, .ref q_then, .ref q_bestOrder, .ref q_lineThen, .ref q_undos, .ref q_was, .int v_undoMany, .int v_drawn, .ref q_kept, .ref q_isKept])), (q_undos, .inl (cJ, 960, .inr (.inl (vp_updL v_undos_11 (x1_11).toNatClampNeg (v_undos_11 ((x1_11 + (120 : Int32))).toNatClampNeg))))), (q_was, .inl (cJ, 120, .inr (.inl v_was)))] H := hP
          replace hD : va_D A [(h0, .inr (8, [.ref q_now, .ref q_text, .int v_typed, .ref q_row, .int v_rowMany, .int v_thrown, .int v_length, .int v_at, .int v_wrong, .ref q_read, .ref q_ranks, .ref q_distinct, .ref q_proper, .int v_properMany, .ref q_line, .ref q_order, .int v_orderMany, .ref q_then, .ref q_bestOrder, .ref q_lineThen, .ref q_undos, .ref q_was, .int v_undoMany, .int v_drawn, .ref q_kept, .ref q_isKept])), (q_undos, .inl (cJ, 960, .inr (.inl (vp_updL v_undos_11 (x1_11).toNatClampNeg (v_undos_11 ((x1_11 + (120 : Int32))).toNatClampNeg))))), (q_was, .inl (cJ, 120, .inr (.inl v_was)))] := hD
          refine lv_iinc (v := (x1_11 + 1)) (lv' := [(1, .int (x1_11 + 1)), (0, .ref h0)]) hx hb dX10_note_33 hl (k := 1) rfl (by rfl) (by decide) rfl (fun ls hl => ?_)
          refine lv_goto (tgt := 11) hx hb dX10_note_36 (by decide) ?_
          exact ih (x1_11 + 1) (vp_updL v_undos_11 (x1_11).toNatClampNeg (v_undos_11 ((x1_11 + (120 : Int32))).toNatClampNeg)) w H _ ls h hP hD hS (lv_sub hl [1, 0] rfl) K
    obtain ⟨w_272, hw_272, h⟩ := ob h
    refine LP_272 fu (0 : Int32) v_undos w_272 s.heap _ ls hw_272 hP hD hS (lv_sub hl [1, 0] rfl) (fun H locs ls hP hD hS hl => ?_)
    refine lv_aload_n hx hb dX10_note_39 rfl (lv_at hl 0 rfl) ?_
    refine lv_dup hx hb dX10_note_40 rfl ?_
    refine va_get (D := (dC, dI)) (ci := 8) (v := .int v_undoMany) (C := RX10) (T := TX10) (N := 26) hx hb hts hi_X10 hown hK hP 0 rfl rfl 22 (by decide) (hts _ (List.mem_of_getElem? (i := 1) rfl)) (fun _ h9 => h9) rfl dX10_note_41 ?_
    refine lv_iconst (v := 1) hx hb dX10_note_44 (by decide) ?_
    refine lv_isub hx hb dX10_note_45 ?_
    refine va_put (D := (dC, dI)) (ci := 8) (v := .int (v_undoMany - (1 : Int32))) (ty := .int) (C := RX10) (T := TX10) (N := 26) hx hb hts hi_X10 tyX10 tyX10_ok nmX10 hown hK hP hD hS 0 rfl rfl 22 (by decide) (hts _ (List.mem_of_getElem? (i := 1) rfl)) (fun _ h9 => h9) rfl (by decide +kernel) rfl rfl (Nat.le_of_ble_eq_true rfl) dX10_note_46 (fun H locs hP hD hS => ?_)
    replace hP : va_P (dC, dI) vwCl [(h0, .inr (8, [.ref q_now, .ref q_text, .int v_typed, .ref q_row, .int v_rowMany, .int v_thrown, .int v_length, .int v_at, .int v_wrong, .ref q_read, .ref q_ranks, .ref q_distinct, .ref q_proper, .int v_properMany, .ref q_line, .ref q_order, .int v_orderMany, .ref q_then, .ref q_bestOrder, .ref q_lineThen, .ref q_undos, .ref q_was, .int (v_undoMany - (1 : Int32)), .int v_drawn, .ref q_kept, .ref q_isKept])), (q_undos, .inl (cJ, 960, .inr (.inl w_272))), (q_was, .inl (cJ, 120, .inr (.inl v_was)))] H := hP
    replace hD : va_D A [(h0, .inr (8, [.ref q_now, .ref q_text, .int v_typed, .ref q_row, .int v_rowMany, .int v_thrown, .int v_length, .int v_at, .int v_wrong, .ref q_read, .ref q_ranks, .ref q_distinct, .ref q_proper, .int v_properMany, .ref q_line, .ref q_order, .int v_orderMany, .ref q_then, .ref q_bestOrder, .ref q_lineThen, .ref q_undos, .ref q_was, .int (v_undoMany - (1 : Int32)), .int v_drawn, .ref q_kept, .ref q_isKept])), (q_undos, .inl (cJ, 960, .inr (.inl w_272))), (q_was, .inl (cJ, 120, .inr (.inl v_was)))] := hD
    have ho := Option.some.inj h
    subst ho
    exact J_262 H _ ls hP hD hS (lv_sub hl [0] rfl)
def f_X10_put (v_undoMany : Int32) (v_now : Nat → Int64) (v_undos : Nat → Int64) (v_was : Nat → Int64) (x1 : Int32) (x2 : Int32) (x3 : Int32) (x4 : Int32) : Option (Int32 × Int32 × Int32 × (Nat → Int64) × (Nat → Int64) × (Nat → Int64)) :=
  ((f_X10_isColumn v_now x1).bind (fun o_277 => (if (b2i o_277) = 0 then (some ((-1 : Int32), (0 : Int32), v_undoMany, v_now, v_undos, v_was)) else ((f_X10_isWay x3).bind (fun o_280 => (if (b2i o_280) = 0 then (some ((-1 : Int32), (0 : Int32), v_undoMany, v_now, v_undos, v_was)) else ((f_X10_lay v_now v_was).bind (fun o_283 => ((f_X10_puts v_now x1 x2 x3 x4).bind (fun o_285 => (if o_285.1 ≤ 0 then ((f_X10_note v_undoMany v_undos o_283).bind (fun o_288 => (some ((0 : Int32), (0 : Int32), o_288.1, o_285.2, o_288.2, o_283)))) else (some ((-o_285.1), (0 : Int32), v_undoMany, o_285.2, v_undos, o_283)))))))))))))
abbrev rm_X10_put : Room := { frames := 5, cells := 0, slots := 0, locals := 118 }
set_option maxHeartbeats 4000000 in
set_option maxRecDepth 100000 in
theorem c_X10_put (l : Launch) (dC : Nat → ClassId) (dI : Nat → Nat → Nat) (cB cC cI cJ cZ cT : ClassId) (h0 q_now q_text q_row q_read q_ranks q_distinct q_proper q_line q_order q_then q_bestOrder q_lineThen q_undos q_was q_kept q_isKept : Nat) (sz : Nat) (v_typed : Int32) (v_rowMany : Int32) (v_thrown : Int32) (v_length : Int32) (v_at : Int32) (v_wrong : Int32) (v_properMany : Int32) (v_orderMany : Int32) (v_undoMany : Int32) (v_drawn : Int32) (v_now : Nat → Int64) (v_undos : Nat → Int64) (v_was : Nat → Int64) (x1 : Int32) (x2 : Int32) (x3 : Int32) (x4 : Int32) (o : (Int32 × Int32 × Int32 × (Nat → Int64) × (Nat → Int64) × (Nat → Int64))) (hf : f_X10_put v_undoMany v_now v_undos v_was x1 x2 x3 x4 = some o) : Met l yX10_put wsX10_put rm_X10_put (va_Pc [.ref h0, .int x1, .int x2, .int x3, .int x4] (fun U => U.heap.size = sz ∧ va_P (dC, dI) vwCl [(h0, .inr (8, [.ref q_now, .ref q_text, .int v_typed, .ref q_row, .int v_rowMany, .int v_thrown, .int v_length, .int v_at, .int v_wrong, .ref q_read, .ref q_ranks, .ref q_distinct, .ref q_proper, .int v_properMany, .ref q_line, .ref q_order, .int v_orderMany, .ref q_then, .ref q_bestOrder, .ref q_lineThen, .ref q_undos, .ref q_was, .int v_undoMany, .int v_drawn, .ref q_kept, .ref q_isKept])), (q_now, .inl (cJ, 120, .inr (.inl v_now))), (q_undos, .inl (cJ, 960, .inr (.inl v_undos))), (q_was, .inl (cJ, 120, .inr (.inl v_was)))] U.heap ∧ va_K (dC, dI) vwCl (tyA cB cC cI cJ cZ cT) U ∧ va_D (fun _ => True) [(h0, .inr (8, [.ref q_now, .ref q_text, .int v_typed, .ref q_row, .int v_rowMany, .int v_thrown, .int v_length, .int v_at, .int v_wrong, .ref q_read, .ref q_ranks, .ref q_distinct, .ref q_proper, .int v_properMany, .ref q_line, .ref q_order, .int v_orderMany, .ref q_then, .ref q_bestOrder, .ref q_lineThen, .ref q_undos, .ref q_was, .int v_undoMany, .int v_drawn, .ref q_kept, .ref q_isKept])), (q_now, .inl (cJ, 120, .inr (.inl v_now))), (q_undos, .inl (cJ, 960, .inr (.inl v_undos))), (q_was, .inl (cJ, 120, .inr (.inl v_was)))] ∧ SX (va_A [(h0, .inr (8, [.ref q_now, .ref q_text, .int v_typed, .ref q_row, .int v_rowMany, .int v_thrown, .int v_length, .int v_at, .int v_wrong, .ref q_read, .ref q_ranks, .ref q_distinct, .ref q_proper, .int v_properMany, .ref q_line, .ref q_order, .int v_orderMany, .ref q_then, .ref q_bestOrder, .ref q_lineThen, .ref q_undos, .ref q_was, .int v_undoMany, .int v_drawn, .ref q_kept, .ref q_isKept])), (q_now, .inl (cJ, 120, .inr (.inl v_now))), (q_undos, .inl (cJ, 960, .inr (.inl v_undos))), (q_was, .inl (cJ, 120, .inr (.inl v_was)))] sz) U U.heap)) (va_Qi (fun (r : Int32) (_ : Unit) => o.1 = r) (fun _ t => va_P (dC, dI) vwCl [(h0, .inr (8, [.ref q_now, .ref q_text, .int v_typed, .ref q_row, .int v_rowMany, .int o.2.1, .int v_length, .int v_at, .int v_wrong, .ref q_read, .ref q_ranks, .ref q_distinct, .ref q_proper, .int v_properMany, .ref q_line, .ref q_order, .int v_orderMany, .ref q_then, .ref q_bestOrder, .ref q_lineThen, .ref q_undos, .ref q_was, .int o.2.2.1, .int v_drawn, .ref q_kept, .ref q_isKept])), (q_now, .inl (cJ, 120, .inr (.inl o.2.2.2.1))), (q_undos, .inl (cJ, 960, .inr (.inl o.2.2.2.2.1))), (q_was, .inl (cJ, 120, .inr (.inl o.2.2.2.2.2)))] t.heap ∧ va_K (dC, dI) vwCl (tyA cB cC cI cJ cZ cT) t ∧ va_D (va_A [(h0, .inr (8, [.ref q_now, .ref q_text, .int v_typed, .ref q_row, .int v_rowMany, .int v_thrown, .int v_length, .int v_at, .int v_wrong, .ref q_read, .ref q_ranks, .ref q_distinct, .ref q_proper, .int v_properMany, .ref q_line, .ref q_order, .int v_orderMany, .ref q_then, .ref q_bestOrder, .ref q_lineThen, .ref q_undos, .ref q_was, .int v_undoMany, .int v_drawn, .ref q_kept, .ref q_isKept])), (q_now, .inl (cJ, 120, .inr (.inl v_now))), (q_undos, .inl (cJ, 960, .inr (.inl v_undos))), (q_was, .inl (cJ, 120, .inr (.inl v_was)))] sz) [(h0, .inr (8, [.ref q_now, .ref q_text, .int v_typed, .ref q_row, .int v_rowMany, .int o.2.1, .int v_length, .int v_at, .int v_wrong, .ref q_read, .ref q_ranks, .ref q_distinct, .ref q_proper, .int v_properMany, .ref q_line, .ref q_order, .int v_orderMany, .ref q_then, .ref q_bestOrder, .ref q_lineThen, .ref q_undos, .ref q_was, .int o.2.2.1, .int v_drawn, .ref q_kept, .ref q_isKept])), (q_now, .inl (cJ, 120, .inr (.inl o.2.2.2.1))), (q_undos, .inl (cJ, 960, .inr (.inl o.2.2.2.2.1))), (q_was, .inl (cJ, 120, .inr (.inl o.2.2.2.2.2)))]) (va_A [(h0, .inr (8, [.ref q_now, .ref q_text, .int v_typed, .ref q_row, .int v_rowMany, .int v_thrown, .int v_length, .int v_at, .int v_wrong, .ref q_read, .ref q_ranks, .ref q_distinct, .ref q_proper, .int v_properMany, .ref q_line, .ref q_order, .int v_orderMany, .ref q_then, .ref q_bestOrder, .ref q_lineThen, .ref q_undos, .ref q_was, .int v_undoMany, .int v_drawn, .ref q_kept, .ref q_isKept])), (q_now, .inl (cJ, 120, .inr (.inl v_now))), (q_undos, .inl (cJ, 960, .inr (.inl v_undos))), (q_was, .inl (cJ, 120, .inr (.inl v_was)))] sz)) 0 0 (va_A [(h0, .inr (8, [.ref q_now, .ref q_text, .int v_typed, .ref q_row, .int v_rowMany, .int v_thrown, .int v_length, .int v_at, .int v_wrong, .ref q_read, .ref q_ranks, .ref q_distinct, .ref q_proper, .int v_properMany, .ref q_line, .ref q_order, .int v_orderMany, .ref q_then, .ref q_bestOrder, .ref q_lineThen, .ref q_undos, .ref q_was, .int v_undoMany, .int v_drawn, .ref q_kept, .ref q_isKept])), (q_now, .inl (cJ, 120, .inr (.inl v_now))), (q_undos, .inl (cJ, 960, .inr (.inl v_undos))), (q_was, .inl (cJ, 120, .inr (.inl v_was)))] sz) := by
  refine Met.ofW (cc := cX10_put) (maxL := 6) (ret := (some .int)) (by decide) rfl ?_
  intro p e s m args below meth c s₁ B hml hv
  obtain ⟨hav, hsz, hP, hK, hD0, hX⟩ := hv
  have hx := B.exec
  have hb := B.bytes
  have hr := B.returns
  have hts := atoms_spec (ws := wsX10_put) B.pre
  have hown : s.vm.findClass RX10 = some m.cls := findClass_of_methodNamed B.named
  have hlocks := B.notSynchronized
  subst hsz
  have hD := hD0.self (sz := s.heap.size)
  generalize hAe : va_A [(h0, .inr (8, [.ref q_now, .ref q_text, .int v_typed, .ref q_row, .int v_rowMany, .int v_thrown, .int v_length, .int v_at, .int v_wrong, .ref q_read, .ref q_ranks, .ref q_distinct, .ref q_proper, .int v_properMany, .ref q_line, .ref q_order, .int v_orderMany, .ref q_then, .ref q_bestOrder, .ref q_lineThen, .ref q_undos, .ref q_was, .int v_undoMany, .int v_drawn, .ref q_kept, .ref q_isKept])), (q_now, .inl (cJ, 120, .inr (.inl v_now))), (q_undos, .inl (cJ, 960, .inr (.inl v_undos))), (q_was, .inl (cJ, 120, .inr (.inl v_was)))] s.heap.size = A at hD hX ⊢
  have hA : ∀ q : Nat, s.heap.size ≤ q → A q := fun q h => by rw [← hAe]; exact Or.inr h
  have hS : va_S A s.heap s.heap [] := va_S.rf
  refine wstart (rm := rm_X10_put) hav (Nat.le_of_ble_eq_true rfl) (fun QQ ls hQQ hl => ?_)
  have hl : lv_has ls 6 [(0, .ref h0), (1, .int x1), (2, .int x2), (3, .int x3), (4, .int x4)] := hl
  have hi_X10 : ∀ w ∈ u_ws RX10 TX10 26, w ∈ wsX10_put := by decide +kernel
  have h := hf
  unfold f_X10_put at h
  refine lv_aload_n hx hb dX10_put_0 rfl (lv_at hl 0 rfl) ?_
  refine lv_iconst (v := 0) hx hb dX10_put_1 (by decide) ?_
  refine va_put (D := (dC, dI)) (ci := 8) (v := .int (0 : Int32)) (ty := .int) (C := RX10) (T := TX10) (N := 26) hx hb hts hi_X10 tyX10 tyX10_ok nmX10 hown hK hP hD hS 0 rfl rfl 5 (by decide) (hts _ (List.mem_of_getElem? (i := 1) rfl)) (fun _ h9 => h9) rfl (by decide +kernel) rfl rfl (Nat.le_of_ble_eq_true rfl) dX10_put_2 (fun H locs hP hD hS => ?_)
  replace hP : va_P (dC, dI) vwCl [(h0, .inr (8, [.ref q_now, .ref q_text, .int v_typed, .ref q_row, .int v_rowMany, .int (0 : Int32), .int v_length, .int v_at, .int v_wrong, .ref q_read, .ref q_ranks, .ref q_distinct, .ref q_proper, .int v_properMany, .ref q_line, .ref q_order, .int v_orderMany, .ref q_then, .ref q_bestOrder, .ref q_lineThen, .ref q_undos, .ref q_was, .int v_undoMany, .int v_drawn, .ref q_kept, .ref q_isKept])), (q_now, .inl (cJ, 120, .inr (.inl v_now))), (q_undos, .inl (cJ, 960, .inr (.inl v_undos))), (q_was, .inl (cJ, 120, .inr (.inl v_was)))] H := hP
  replace hD : va_D A [(h0, .inr (8, [.ref q_now, .ref q_text, .int v_typed, .ref q_row, .int v_rowMany, .int (0 : Int32), .int v_length, .int v_at, .int v_wrong, .ref q_read, .ref q_ranks, .ref q_distinct, .ref q_proper, .int v_properMany, .ref q_line, .ref q_order, .int v_orderMany, .ref q_then, .ref q_bestOrder, .ref q_lineThen, .ref q_undos, .ref q_was, .int v_undoMany, .int v_drawn, .ref q_kept, .ref q_isKept])), (q_now, .inl (cJ, 120, .inr (.inl v_now))), (q_undos, .inl (cJ, 960, .inr (.inl v_undos))), (q_was, .inl (cJ, 120, .inr (.inl v_was)))] := hD
  refine lv_aload_n hx hb dX10_put_5 rfl (lv_at hl 0 rfl) ?_
  refine lv_iload_n hx hb dX10_put_6 rfl (lv_at hl 1 rfl) ?_
  obtain ⟨o_277, hr_277, h⟩ := ob h
  refine vp_callSi (va_Run.run (va_runV (As := [.int x1]) (rest := []) ⟨hx, hb, hml, hown, hts⟩ (c_X10_isColumn l dC dI cB cC cI cJ cZ cT h0 q_now q_text q_row q_read q_ranks q_distinct q_proper q_line q_order q_then q_bestOrder q_lineThen q_undos q_was q_kept q_isKept v_typed v_rowMany (0 : Int32) v_length v_at v_wrong v_properMany v_orderMany v_undoMany v_drawn v_now x1 o_277 hr_277) (cwV 1 hts gX10_put_X10_isColumn rfl rfl rfl (by decide +kernel) ⟨Nat.le_of_ble_eq_true rfl, Nat.le_of_ble_eq_true rfl⟩) ⟨blR, va_recv hK hP (ci := 8) (q0 := 0) rfl rfl, fun U hU hW => ⟨rfl, by rw [hU]; exact hP.sub [0, 1] rfl, va_K.moved hW.alike hK⟩⟩ rfl rfl hl.1 rfl (lv_room (Nat.le_of_ble_eq_true rfl)) dX10_put_7 ⟨Nat.le_of_ble_eq_true rfl, Nat.le_of_ble_eq_true rfl⟩)) (fun r_277 e_277 => ?_)
  subst e_277
  refine lv_if_eq (tgt := 20) hx hb dX10_put_10 (by decide) (fun c_279 => ?_) (fun c_279 => ?_)
  · replace h := op c_279 h
    refine lv_iconst (v := -1) hx hb dX10_put_20 (by decide) ?_
    rw [hQQ]
    have ho := Option.some.inj h
    subst ho
    exact W.iret hx hb hr (fun t ht hW => ⟨⟨_, (), rfl, rfl, by rw [ht]; exact hP, va_K.moved hW.alike hK, hD⟩, hS.F ht⟩) hS.2.2 dX10_put_21
  · replace h := on c_279 h
    refine lv_iload_n hx hb dX10_put_13 rfl (lv_at hl 3 rfl) ?_
    obtain ⟨o_280, hr_280, h⟩ := ob h
    refine vp_callSi (va_Run.run (va_runS (As := [.int x3]) (rest := []) ⟨hx, hb, hml, hown, hts⟩ (c_X10_isWay l dC dI cB cC cI cJ cZ cT x3 o_280 hr_280) (va_cwS 1 hts gX10_put_X10_isWay rfl rfl rfl (by decide +kernel) ⟨Nat.le_of_ble_eq_true rfl, Nat.le_of_ble_eq_true rfl⟩) ⟨blT, fun U hU hW => ⟨rfl, trivial⟩⟩ rfl rfl hl.1 rfl (lv_room (Nat.le_of_ble_eq_true rfl)) dX10_put_14 ⟨Nat.le_of_ble_eq_true rfl, Nat.le_of_ble_eq_true rfl⟩)) (fun r_280 e_280 => ?_)
    subst e_280
    refine lv_if_ne (tgt := 22) hx hb dX10_put_17 (by decide) (fun c_282 => ?_) (fun c_282 => ?_)
    · replace h := on c_282 h
      refine lv_aload_n hx hb dX10_put_22 rfl (lv_at hl 0 rfl) ?_
      obtain ⟨o_283, hr_283, h⟩ := ob h
      have hPc := hP.sub (ws' := [(h0, .inr (8, [.ref q_now, .ref q_text, .int v_typed, .ref q_row, .int v_rowMany, .int (0 : Int32), .int v_length, .int v_at, .int v_wrong, .ref q_read, .ref q_ranks, .ref q_distinct, .ref q_proper, .int v_properMany, .ref q_line, .ref q_order, .int v_orderMany, .ref q_then, .ref q_bestOrder, .ref q_lineThen, .ref q_undos, .ref q_was, .int v_undoMany, .int v_drawn, .ref q_kept, .ref q_isKept])), (q_now, .inl (cJ, 120, .inr (.inl v_now))), (q_was, .inl (cJ, 120, .inr (.inl v_was)))]) [0, 1, 3] rfl
      have hDc := hD.sub (ws' := [(h0, .inr (8, [.ref q_now, .ref q_text, .int v_typed, .ref q_row, .int v_rowMany, .int (0 : Int32), .int v_length, .int v_at, .int v_wrong, .ref q_read, .ref q_ranks, .ref q_distinct, .ref q_proper, .int v_properMany, .ref q_line, .ref q_order, .int v_orderMany, .ref q_then, .ref q_bestOrder, .ref q_lineThen, .ref q_undos, .ref q_was, .int v_undoMany, .int v_drawn, .ref q_kept, .ref q_isKept])), (q_now, .inl (cJ, 120, .inr (.inl v_now))), (q_was, .inl (cJ, 120, .inr (.inl v_was)))]) [0, 1, 3] (by decide) rfl
      have hFc := va_free (wc := [(h0, .inr (8, [.ref q_now, .ref q_text, .int v_typed, .ref q_row, .int v_rowMany, .int (0 : Int32), .int v_length, .int v_at, .int v_wrong, .ref q_read, .ref q_ranks, .ref q_distinct, .ref q_proper, .int v_properMany, .ref q_line, .ref q_order, .int v_orderMany, .ref q_then, .ref q_bestOrder, .ref q_lineThen, .ref q_undos, .ref q_was, .int v_undoMany, .int v_drawn, .ref q_kept, .ref q_isKept])), (q_now, .inl (cJ, 120, .inr (.inl v_now))), (q_was, .inl (cJ, 120, .inr (.inl v_was)))]) hD hS hA [0, 1, 3] rfl
      refine va_callv (va_runV (As := []) (rest := []) ⟨hx, hb, hml, hown, hts⟩ (c_X10_lay l dC dI cB cC cI cJ cZ cT h0 q_now q_text q_row q_read q_ranks q_distinct q_proper q_line q_order q_then q_bestOrder q_lineThen q_undos q_was q_kept q_isKept H.size v_typed v_rowMany (0 : Int32) v_length v_at v_wrong v_properMany v_orderMany v_undoMany v_drawn v_now v_was o_283 hr_283) (cwV 0 hts gX10_put_X10_lay rfl rfl rfl (by decide +kernel) ⟨Nat.le_of_ble_eq_true rfl, Nat.le_of_ble_eq_true rfl⟩) ⟨blW, va_recv hK hP (ci := 8) (q0 := 0) rfl rfl, fun U hU hW => ⟨rfl, by rw [hU], by rw [hU]; exact hPc, va_K.moved hW.alike hK, hDc.weaken (fun _ _ _ _ => trivial)⟩⟩ rfl rfl hl.1 rfl (lv_room (Nat.le_of_ble_eq_true rfl)) dX10_put_23 ⟨Nat.le_of_ble_eq_true rfl, Nat.le_of_ble_eq_true rfl⟩) hS (fun q _ h => hFc q h) hFc (fun u_283 t_283 H locs ht hvm e_283 hB hz1 hk1 hS => ?_)
      obtain ⟨hP1, -, hD1⟩ := hB
      rw [ht] at hP1
      obtain ⟨hP, hD⟩ := va_join (wr := [(q_undos, .inl (cJ, 960, .inr (.inl v_undos)))]) (w1 := [(h0, .inr (8, [.ref q_now, .ref q_text, .int v_typed, .ref q_row, .int v_rowMany, .int (0 : Int32), .int v_length, .int v_at, .int v_wrong, .ref q_read, .ref q_ranks, .ref q_distinct, .ref q_proper, .int v_properMany, .ref q_line, .ref q_order, .int v_orderMany, .ref q_then, .ref q_bestOrder, .ref q_lineThen, .ref q_undos, .ref q_was, .int v_undoMany, .int v_drawn, .ref q_kept, .ref q_isKept])), (q_now, .inl (cJ, 120, .inr (.inl v_now))), (q_was, .inl (cJ, 120, .inr (.inl o_283)))]) hP hD [0, 1, 3] [2] rfl rfl (by decide) (by decide) hk1 hFc hP1 hD1
      replace hP := hP.sub (ws' := [(h0, .inr (8, [.ref q_now, .ref q_text, .int v_typed, .ref q_row, .int v_rowMany, .int (0 : Int32), .int v_length, .int v_at, .int v_wrong, .ref q_read, .ref q_ranks, .ref q_distinct, .ref q_proper, .int v_properMany, .ref q_line, .ref q_order, .int v_orderMany, .ref q_then, .ref q_bestOrder, .ref q_lineThen, .ref q_undos, .ref q_was, .int v_undoMany, .int v_drawn, .ref q_kept, .ref q_isKept])), (q_now, .inl (cJ, 120, .inr (.inl v_now))), (q_undos, .inl (cJ, 960, .inr (.inl v_undos))), (q_was, .inl (cJ, 120, .inr (.inl o_283)))]) [1, 2, 0, 3] rfl
      replace hD := hD.sub (ws' := [(h0, .inr (8, [.ref q_now, .ref q_text, .int v_typed, .ref q_row, .int v_rowMany, .int (0 : Int32), .int v_length, .int v_at, .int v_wrong, .ref q_read, .ref q_ranks, .ref q_distinct, .ref q_proper, .int v_properMany, .ref q_line, .ref q_order, .int v_orderMany, .ref q_then, .ref q_bestOrder, .ref q_lineThen, .ref q_undos, .ref q_was, .int v_undoMany, .int v_drawn, .ref q_kept, .ref q_isKept])), (q_now, .inl (cJ, 120, .inr (.inl v_now))), (q_undos, .inl (cJ, 960, .inr (.inl v_undos))), (q_was, .inl (cJ, 120, .inr (.inl o_283)))]) [1, 2, 0, 3] (by decide) rfl
      refine lv_aload_n hx hb dX10_put_26 rfl (lv_at hl 0 rfl) ?_
      refine lv_iload_n hx hb dX10_put_27 rfl (lv_at hl 1 rfl) ?_
      refine lv_iload_n hx hb dX10_put_28 rfl (lv_at hl 2 rfl) ?_
      refine lv_iload_n hx hb dX10_put_29 rfl (lv_at hl 3 rfl) ?_
      refine lv_iload hx hb dX10_put_30 (lv_at hl 4 rfl) ?_
      obtain ⟨o_285, hr_285, h⟩ := ob h
      have hPc := hP.sub (ws' := [(h0, .inr (8, [.ref q_now, .ref q_text, .int v_typed, .ref q_row, .int v_rowMany, .int (0 : Int32), .int v_length, .int v_at, .int v_wrong, .ref q_read, .ref q_ranks, .ref q_distinct, .ref q_proper, .int v_properMany, .ref q_line, .ref q_order, .int v_orderMany, .ref q_then, .ref q_bestOrder, .ref q_lineThen, .ref q_undos, .ref q_was, .int v_undoMany, .int v_drawn, .ref q_kept, .ref q_isKept])), (q_now, .inl (cJ, 120, .inr (.inl v_now)))]) [0, 1] rfl
      have hDc := hD.sub (ws' := [(h0, .inr (8, [.ref q_now, .ref q_text, .int v_typed, .ref q_row, .int v_rowMany, .int (0 : Int32), .int v_length, .int v_at, .int v_wrong, .ref q_read, .ref q_ranks, .ref q_distinct, .ref q_proper, .int v_properMany, .ref q_line, .ref q_order, .int v_orderMany, .ref q_then, .ref q_bestOrder, .ref q_lineThen, .ref q_undos, .ref q_was, .int v_undoMany, .int v_drawn, .ref q_kept, .ref q_isKept])), (q_now, .inl (cJ, 120, .inr (.inl v_now)))]) [0, 1] (by decide) rfl
      have hFc := va_free (wc := [(h0, .inr (8, [.ref q_now, .ref q_text, .int v_typed, .ref q_row, .int v_rowMany, .int (0 : Int32), .int v_length, .int v_at, .int v_wrong, .ref q_read, .ref q_ranks, .ref q_distinct, .ref q_proper, .int v_properMany, .ref q_line, .ref q_order, .int v_orderMany, .ref q_then, .ref q_bestOrder, .ref q_lineThen, .ref q_undos, .ref q_was, .int v_undoMany, .int v_drawn, .ref q_kept, .ref q_isKept])), (q_now, .inl (cJ, 120, .inr (.inl v_now)))]) hD hS hA [0, 1] rfl
      refine va_calli (va_runV (As := [.int x1, .int x2, .int x3, .int x4]) (rest := []) ⟨hx, hb, hml, hown, hts⟩ (c_X10_puts l dC dI cB cC cI cJ cZ cT h0 q_now q_text q_row q_read q_ranks q_distinct q_proper q_line q_order q_then q_bestOrder q_lineThen q_undos q_was q_kept q_isKept H.size v_typed v_rowMany (0 : Int32) v_length v_at v_wrong v_properMany v_orderMany v_undoMany v_drawn v_now x1 x2 x3 x4 o_285 hr_285) (cwV 4 hts gX10_put_X10_puts rfl rfl rfl (by decide +kernel) ⟨Nat.le_of_ble_eq_true rfl, Nat.le_of_ble_eq_true rfl⟩) ⟨blWX, va_recv hK hP (ci := 8) (q0 := 0) rfl rfl, fun U hU hW => ⟨rfl, by rw [hU], by rw [hU]; exact hPc, va_K.moved hW.alike hK, hDc.weaken (fun _ _ _ _ => trivial), by rw [hU]; exact SX.useW hW.alike hS hFc hX⟩⟩ rfl rfl hl.1 rfl (lv_room (Nat.le_of_ble_eq_true rfl)) dX10_put_32 ⟨Nat.le_of_ble_eq_true rfl, Nat.le_of_ble_eq_true rfl⟩) hS (fun q _ h => hFc q h) hFc (fun r_285 u_285 t_285 H locs ht hvm e_285 hB hz1 hk1 hS => ?_)
      obtain ⟨hP1, -, hD1⟩ := hB
      rw [ht] at hP1
      obtain ⟨hP, hD⟩ := va_join (wr := [(q_undos, .inl (cJ, 960, .inr (.inl v_undos))), (q_was, .inl (cJ, 120, .inr (.inl o_283)))]) (w1 := [(h0, .inr (8, [.ref q_now, .ref q_text, .int v_typed, .ref q_row, .int v_rowMany, .int (0 : Int32), .int v_length, .int v_at, .int v_wrong, .ref q_read, .ref q_ranks, .ref q_distinct, .ref q_proper, .int v_properMany, .ref q_line, .ref q_order, .int v_orderMany, .ref q_then, .ref q_bestOrder, .ref q_lineThen, .ref q_undos, .ref q_was, .int v_undoMany, .int v_drawn, .ref q_kept, .ref q_isKept])), (q_now, .inl (cJ, 120, .inr (.inl o_285.2)))]) hP hD [0, 1] [2, 3] rfl rfl (by decide) (by decide) hk1 hFc hP1 hD1
      replace hP := hP.sub (ws' := [(h0, .inr (8, [.ref q_now, .ref q_text, .int v_typed, .ref q_row, .int v_rowMany, .int (0 : Int32), .int v_length, .int v_at, .int v_wrong, .ref q_read, .ref q_ranks, .ref q_distinct, .ref q_proper, .int v_properMany, .ref q_line, .ref q_order, .int v_orderMany, .ref q_then, .ref q_bestOrder, .ref q_lineThen, .ref q_undos, .ref q_was, .int v_undoMany, .int v_drawn, .ref q_kept, .ref q_isKept])), (q_now, .inl (cJ, 120, .inr (.inl o_285.2))), (q_undos, .inl (cJ, 960, .inr (.inl v_undos))), (q_was, .inl (cJ, 120, .inr (.inl o_283)))]) [2, 3, 0, 1] rfl
      replace hD := hD.sub (ws' := [(h0, .inr (8, [.ref q_now, .ref q_text, .int v_typed, .ref q_row, .int v_rowMany, .int (0 : Int32), .int v_length, .int v_at, .int v_wrong, .ref q_read, .ref q_ranks, .ref q_distinct, .ref q_proper, .int v_properMany, .ref q_line, .ref q_order, .int v_orderMany, .ref q_then, .ref q_bestOrder, .ref q_lineThen, .ref q_undos, .ref q_was, .int v_undoMany, .int v_drawn, .ref q_kept, .ref q_isKept])), (q_now, .inl (cJ, 120, .inr (.inl o_285.2))), (q_undos, .inl (cJ, 960, .inr (.inl v_undos))), (q_was, .inl (cJ, 120, .inr (.inl o_283)))]) [2, 3, 0, 1] (by decide) rfl
      subst e_285
      refine lv_istore (lv' := [(5, .int o_285.1), (0, .ref h0), (1, .int x1), (2, .int x2), (3, .int x3), (4, .int x4)]) hx hb dX10_put_35 hl (by decide) rfl (fun ls hl => ?_)
      refine lv_iload hx hb dX10_put_37 (lv_at hl 0 rfl) ?_
      refine lv_if_le (tgt := 46) hx hb dX10_put_39 (by decide) (fun c_287 => ?_) (fun c_287 => ?_)
      · replace h := op c_287 h
        refine lv_aload_n hx hb dX10_put_46 rfl (lv_at hl 1 rfl) ?_
        obtain ⟨o_288, hr_288, h⟩ := ob h
        have hPc := hP.sub (ws' := [(h0, .inr (8, [.ref q_now, .ref q_text, .int v_typed, .ref q_row, .int v_rowMany, .int (0 : Int32), .int v_length, .int v_at, .int v_wrong, .ref q_read, .ref q_ranks, .ref q_distinct, .ref q_proper, .int v_properMany, .ref q_line, .ref q_order, .int v_orderMany, .ref q_then, .ref q_bestOrder, .ref q_lineThen, .ref q_undos, .ref q_was, .int v_undoMany, .int v_drawn, .ref q_kept, .ref q_isKept])), (q_undos, .inl (cJ, 960, .inr (.inl v_undos))), (q_was, .inl (cJ, 120, .inr (.inl o_283)))]) [0, 2, 3] rfl
        have hDc := hD.sub (ws' := [(h0, .inr (8, [.ref q_now, .ref q_text, .int v_typed, .ref q_row, .int v_rowMany, .int (0 : Int32), .int v_length, .int v_at, .int v_wrong, .ref q_read, .ref q_ranks, .ref q_distinct, .ref q_proper, .int v_properMany, .ref q_line, .ref q_order, .int v_orderMany, .ref q_then, .ref q_bestOrder, .ref q_lineThen, .ref q_undos, .ref q_was, .int v_undoMany, .int v_drawn, .ref q_kept, .ref q_isKept])), (q_undos, .inl (cJ, 960, .inr (.inl v_undos))), (q_was, .inl (cJ, 120, .inr (.inl o_283)))]) [0, 2, 3] (by decide) rfl
        have hFc := va_free (wc := [(h0, .inr (8, [.ref q_now, .ref q_text, .int v_typed, .ref q_row, .int v_rowMany, .int (0 : Int32), .int v_length, .int v_at, .int v_wrong, .ref q_read, .ref q_ranks, .ref q_distinct, .ref q_proper, .int v_properMany, .ref q_line, .ref q_order, .int v_orderMany, .ref q_then, .ref q_bestOrder, .ref q_lineThen, .ref q_undos, .ref q_was, .int v_undoMany, .int v_drawn, .ref q_kept, .ref q_isKept])), (q_undos, .inl (cJ, 960, .inr (.inl v_undos))), (q_was, .inl (cJ, 120, .inr (.inl o_283)))]) hD hS hA [0, 2, 3] rfl
        refine va_callv (va_runV (As := []) (rest := []) ⟨hx, hb, hml, hown, hts⟩ (c_X10_note l dC dI cB cC cI cJ cZ cT h0 q_now q_text q_row q_read q_ranks q_distinct q_proper q_line q_order q_then q_bestOrder q_lineThen q_undos q_was q_kept q_isKept H.size v_typed v_rowMany (0 : Int32) v_length v_at v_wrong v_properMany v_orderMany v_undoMany v_drawn v_undos o_283 o_288 hr_288) (cwV 0 hts gX10_put_X10_note rfl rfl rfl (by decide +kernel) ⟨Nat.le_of_ble_eq_true rfl, Nat.le_of_ble_eq_true rfl⟩) ⟨blW, va_recv hK hP (ci := 8) (q0 := 0) rfl rfl, fun U hU hW => ⟨rfl, by rw [hU], by rw [hU]; exact hPc, va_K.moved hW.alike hK, hDc.weaken (fun _ _ _ _ => trivial)⟩⟩ rfl rfl hl.1 rfl (lv_room (Nat.le_of_ble_eq_true rfl)) dX10_put_47 ⟨Nat.le_of_ble_eq_true rfl, Nat.le_of_ble_eq_true rfl⟩) hS (fun q _ h => hFc q h) hFc (fun u_288 t_288 H locs ht hvm e_288 hB hz1 hk1 hS => ?_)
        obtain ⟨hP1, -, hD1⟩ := hB
        rw [ht] at hP1
        obtain ⟨hP, hD⟩ := va_join (wr := [(q_now, .inl (cJ, 120, .inr (.inl o_285.2)))]) (w1 := [(h0, .inr (8, [.ref q_now, .ref q_text, .int v_typed, .ref q_row, .int v_rowMany, .int (0 : Int32), .int v_length, .int v_at, .int v_wrong, .ref q_read, .ref q_ranks, .ref q_distinct, .ref q_proper, .int v_properMany, .ref q_line, .ref q_order, .int v_orderMany, .ref q_then, .ref q_bestOrder, .ref q_lineThen, .ref q_undos, .ref q_was, .int o_288.1, .int v_drawn, .ref q_kept, .ref q_isKept])), (q_undos, .inl (cJ, 960, .inr (.inl o_288.2))), (q_was, .inl (cJ, 120, .inr (.inl o_283)))]) hP hD [0, 2, 3] [1] rfl rfl (by decide) (by decide) hk1 hFc hP1 hD1
        replace hP := hP.sub (ws' := [(h0, .inr (8, [.ref q_now, .ref q_text, .int v_typed, .ref q_row, .int v_rowMany, .int (0 : Int32), .int v_length, .int v_at, .int v_wrong, .ref q_read, .ref q_ranks, .ref q_distinct, .ref q_proper, .int v_properMany, .ref q_line, .ref q_order, .int v_orderMany, .ref q_then, .ref q_bestOrder, .ref q_lineThen, .ref q_undos, .ref q_was, .int o_288.1, .int v_drawn, .ref q_kept, .ref q_isKept])), (q_now, .inl (cJ, 120, .inr (.inl o_285.2))), (q_undos, .inl (cJ, 960, .inr (.inl o_288.2))), (q_was, .inl (cJ, 120, .inr (.inl o_283)))]) [1, 0, 2, 3] rfl
        replace hD := hD.sub (ws' := [(h0, .inr (8, [.ref q_now, .ref q_text, .int v_typed, .ref q_row, .int v_rowMany, .int (0 : Int32), .int v_length, .int v_at, .int v_wrong, .ref q_read, .ref q_ranks, .ref q_distinct, .ref q_proper, .int v_properMany, .ref q_line, .ref q_order, .int v_orderMany, .ref q_then, .ref q_bestOrder, .ref q_lineThen, .ref q_undos, .ref q_was, .int o_288.1, .int v_drawn, .ref q_kept, .ref q_isKept])), (q_now, .inl (cJ, 120, .inr (.inl o_285.2))), (q_undos, .inl (cJ, 960, .inr (.inl o_288.2))), (q_was, .inl (cJ, 120, .inr (.inl o_283)))]) [1, 0, 2, 3] (by decide) rfl
        refine lv_iconst (v := 0) hx hb dX10_put_50 (by decide) ?_
        rw [hQQ]
        have ho := Option.some.inj h
        subst ho
        exact W.iret hx hb hr (fun t ht hW => ⟨⟨_, (), rfl, rfl, by rw [ht]; exact hP, va_K.moved hW.alike hK, hD⟩, hS.F ht⟩) hS.2.2 dX10_put_51
      · replace h := on c_287 h
        refine lv_iload hx hb dX10_put_42 (lv_at hl 0 rfl) ?_
        refine lv_ineg hx hb dX10_put_44 ?_
        rw [hQQ]
        have ho := Option.some.inj h
        subst ho
        exact W.iret hx hb hr (fun t ht hW => ⟨⟨_, (), rfl, rfl, by rw [ht]; exact hP, va_K.moved hW.alike hK, hD⟩, hS.F ht⟩) hS.2.2 dX10_put_45
    · replace h := op c_282 h
      refine lv_iconst (v := -1) hx hb dX10_put_20 (by decide) ?_
      rw [hQQ]
      have ho := Option.some.inj h
      subst ho
      exact W.iret hx hb hr (fun t ht hW => ⟨⟨_, (), rfl, rfl, by rw [ht]; exact hP, va_K.moved hW.alike hK, hD⟩, hS.F ht⟩) hS.2.2 dX10_put_21
def f_X10_whyTaken (v_now : Nat → Int64) (x1 : Int32) (x2 : Int32) (x3 : Int32) : Option Int32 :=
  (((if x3 = (10 : Int32) then (some (1 : Int32)) else ((f_X10_kindOf v_now x1).bind (fun o_312 => (((if (8 : Int32) ≤ o_312 then (some (0 : Int32)) else ((f_X10_kindOf v_now x1).bind (fun o_324 => ((f_X10_widens o_324 x3).bind (fun o_326 => (((if (b2i o_326) = 0 then (some (0 : Int32)) else (some (1 : Int32)))).bind (fun v_328 => (some v_328))))))))).bind (fun v_314 => (some v_314))))))).bind (fun v_290 => ((f_X10_whyNot v_now x1 x2 x3 v_290).bind (fun o_331 => (some o_331)))))
abbrev rm_X10_whyTaken : Room := { frames := 3, cells := 0, slots := 0, locals := 68 }
set_option maxHeartbeats 4000000 in
set_option maxRecDepth 100000 in
theorem c_X10_whyTaken (l : Launch) (dC : Nat → ClassId) (dI : Nat → Nat → Nat) (cB cC cI cJ cZ cT : ClassId) (h0 q_now q_text q_row q_read q_ranks q_distinct q_proper q_line q_order q_then q_bestOrder q_lineThen q_undos q_was q_kept q_isKept : Nat) (v_typed : Int32) (v_rowMany : Int32) (v_thrown : Int32) (v_length : Int32) (v_at : Int32) (v_wrong : Int32) (v_properMany : Int32) (v_orderMany : Int32) (v_undoMany : Int32) (v_drawn : Int32) (v_now : Nat → Int64) (x1 : Int32) (x2 : Int32) (x3 : Int32) (o : Int32) (hf : f_X10_whyTaken v_now x1 x2 x3 = some o) : Met l yX10_whyTaken wsX10_whyTaken rm_X10_whyTaken (va_Pc [.ref h0, .int x1, .int x2, .int x3] (fun U => va_P (dC, dI) vwCl [(h0, .inr (8, [.ref q_now, .ref q_text, .int v_typed, .ref q_row, .int v_rowMany, .int v_thrown, .int v_length, .int v_at, .int v_wrong, .ref q_read, .ref q_ranks, .ref q_distinct, .ref q_proper, .int v_properMany, .ref q_line, .ref q_order, .int v_orderMany, .ref q_then, .ref q_bestOrder, .ref q_lineThen, .ref q_undos, .ref q_was, .int v_undoMany, .int v_drawn, .ref q_kept, .ref q_isKept])), (q_now, .inl (cJ, 120, .inr (.inl v_now)))] U.heap ∧ va_K (dC, dI) vwCl (tyA cB cC cI cJ cZ cT) U ∧ SX (fun _ => False) U U.heap)) (vp_Si (fun r => o = r)) 0 0 (fun _ => False) := by
  refine Met.ofW (cc := cX10_whyTaken) (maxL := 4) (ret := (some .int)) (by decide) rfl ?_
  intro p e s m args below meth c s₁ B hml hv
  obtain ⟨hav, hP, hK, hX⟩ := hv
  have hx := B.exec
  have hb := B.bytes
  have hr := B.returns
  have hts := atoms_spec (ws := wsX10_whyTaken) B.pre
  have hown : s.vm.findClass RX10 = some m.cls := findClass_of_methodNamed B.named
  have hlocks := B.notSynchronized
  have hS : va_S (fun _ => False) s.heap s.heap [] := va_S.rf
  refine wstart (rm := rm_X10_whyTaken) hav (Nat.le_of_ble_eq_true rfl) (fun QQ ls hQQ hl => ?_)
  have hl : lv_has ls 4 [(0, .ref h0), (1, .int x1), (2, .int x2), (3, .int x3)] := hl
  have h := hf
  unfold f_X10_whyTaken at h
  refine lv_aload_n hx hb dX10_whyTaken_0 rfl (lv_at hl 0 rfl) ?_
  refine lv_iload_n hx hb dX10_whyTaken_1 rfl (lv_at hl 1 rfl) ?_
  refine lv_iload_n hx hb dX10_whyTaken_2 rfl (lv_at hl 2 rfl) ?_
  refine lv_iload_n hx hb dX10_whyTaken_3 rfl (lv_at hl 3 rfl) ?_
  refine lv_iload_n hx hb dX10_whyTaken_4 rfl (lv_at hl 3 rfl) ?_
  refine lv_bipush (v := 10) hx hb dX10_whyTaken_5 (by decide) ?_
  obtain ⟨v_290, hv_290, h⟩ := ob h
  have J_290 : ∀ (ls : Array Slot), lv_has ls 4 [] → W p l e rm_X10_whyTaken s m args below meth c s.heap [] 0 0 QQ (F0 m 37 ls [.int v_290, .int x3, .int x2, .int x1, .ref h0]) := by
    intro ls hl
    obtain ⟨o_331, hr_331, h⟩ := ob h
    refine vp_callSi (va_Run.run (va_runV (As := [.int x1, .int x2, .int x3, .int v_290]) (rest := []) ⟨hx, hb, hml, hown, hts⟩ (c_X10_whyNot l dC dI cB cC cI cJ cZ cT h0 q_now q_text q_row q_read q_ranks q_distinct q_proper q_line q_order q_then q_bestOrder q_lineThen q_undos q_was q_kept q_isKept v_typed v_rowMany v_thrown v_length v_at v_wrong v_properMany v_orderMany v_undoMany v_drawn v_now x1 x2 x3 v_290 o_331 hr_331) (cwV 4 hts gX10_whyTaken_X10_whyNot rfl rfl rfl (by decide +kernel) ⟨Nat.le_of_ble_eq_true rfl, Nat.le_of_ble_eq_true rfl⟩) ⟨blR, va_recv hK hP (ci := 8) (q0 := 0) rfl rfl, fun U hU hW => ⟨rfl, by rw [hU]; exact hP.sub [0, 1] rfl, va_K.moved hW.alike hK⟩⟩ rfl rfl hl.1 rfl (lv_room (Nat.le_of_ble_eq_true rfl)) dX10_whyTaken_37 ⟨Nat.le_of_ble_eq_true rfl, Nat.le_of_ble_eq_true rfl⟩)) (fun r_331 e_331 => ?_)
    subst e_331
    rw [hQQ]
    exact W.iret hx hb hr (fun t ht hW => ⟨_, rfl, (Option.some.inj h).symm, ht⟩) (fun q hq => absurd hq List.not_mem_nil) dX10_whyTaken_40
  replace h := hv_290
  refine lv_icmp_eq (tgt := 32) hx hb dX10_whyTaken_7 (by decide) (fun c_311 => ?_) (fun c_311 => ?_)
  · replace h := op c_311 h
    refine lv_iconst (v := 1) hx hb dX10_whyTaken_32 (by decide) ?_
    refine lv_goto (tgt := 37) hx hb dX10_whyTaken_33 (by decide) ?_
    have ho := Option.some.inj h
    subst ho
    exact J_290 ls (lv_sub hl [] rfl)
  · replace h := on c_311 h
    refine lv_aload_n hx hb dX10_whyTaken_10 rfl (lv_at hl 0 rfl) ?_
    refine lv_iload_n hx hb dX10_whyTaken_11 rfl (lv_at hl 1 rfl) ?_
    obtain ⟨o_312, hr_312, h⟩ := ob h
    refine vp_callSi (va_Run.run (va_runV (As := [.int x1]) (rest := [.int x3, .int x2, .int x1, .ref h0]) ⟨hx, hb, hml, hown, hts⟩ (c_X10_kindOf l dC dI cB cC cI cJ cZ cT h0 q_now q_text q_row q_read q_ranks q_distinct q_proper q_line q_order q_then q_bestOrder q_lineThen q_undos q_was q_kept q_isKept v_typed v_rowMany v_thrown v_length v_at v_wrong v_properMany v_orderMany v_undoMany v_drawn v_now x1 o_312 hr_312) (cwV 1 hts gX10_whyTaken_X10_kindOf rfl rfl rfl (by decide +kernel) ⟨Nat.le_of_ble_eq_true rfl, Nat.le_of_ble_eq_true rfl⟩) ⟨blR, va_recv hK hP (ci := 8) (q0 := 0) rfl rfl, fun U hU hW => ⟨rfl, by rw [hU]; exact hP.sub [0, 1] rfl, va_K.moved hW.alike hK⟩⟩ rfl rfl hl.1 rfl (lv_room (Nat.le_of_ble_eq_true rfl)) dX10_whyTaken_12 ⟨Nat.le_of_ble_eq_true rfl, Nat.le_of_ble_eq_true rfl⟩)) (fun r_312 e_312 => ?_)
    subst e_312
    refine lv_bipush (v := 8) hx hb dX10_whyTaken_15 (by decide) ?_
    obtain ⟨v_314, hv_314, h⟩ := ob h
    have J_314 : ∀ (ls : Array Slot), lv_has ls 4 [] → W p l e rm_X10_whyTaken s m args below meth c s.heap [] 0 0 QQ (F0 m 37 ls [.int v_314, .int x3, .int x2, .int x1, .ref h0]) := by
      intro ls hl
      have ho := Option.some.inj h
      subst ho
      exact J_290 ls (lv_sub hl [] rfl)
    replace h := hv_314
    refine lv_icmp_ge (tgt := 36) hx hb dX10_whyTaken_17 (by decide) (fun c_323 => ?_) (fun c_323 => ?_)
    · replace h := op c_323 h
      refine lv_iconst (v := 0) hx hb dX10_whyTaken_36 (by decide) ?_
      have ho := Option.some.inj h
      subst ho
      exact J_314 ls (lv_sub hl [] rfl)
    · replace h := on c_323 h
      refine lv_aload_n hx hb dX10_whyTaken_20 rfl (lv_at hl 0 rfl) ?_
      refine lv_iload_n hx hb dX10_whyTaken_21 rfl (lv_at hl 1 rfl) ?_
      obtain ⟨o_324, hr_324, h⟩ := ob h
      refine vp_callSi (va_Run.run (va_runV (As := [.int x1]) (rest := [.int x3, .int x2, .int x1, .ref h0]) ⟨hx, hb, hml, hown, hts⟩ (c_X10_kindOf l dC dI cB cC cI cJ cZ cT h0 q_now q_text q_row q_read q_ranks q_distinct q_proper q_line q_order q_then q_bestOrder q_lineThen q_undos q_was q_kept q_isKept v_typed v_rowMany v_thrown v_length v_at v_wrong v_properMany v_orderMany v_undoMany v_drawn v_now x1 o_324 hr_324) (cwV 1 hts gX10_whyTaken_X10_kindOf rfl rfl rfl (by decide +kernel) ⟨Nat.le_of_ble_eq_true rfl, Nat.le_of_ble_eq_true rfl⟩) ⟨blR, va_recv hK hP (ci := 8) (q0 := 0) rfl rfl, fun U hU hW => ⟨rfl, by rw [hU]; exact hP.sub [0, 1] rfl, va_K.moved hW.alike hK⟩⟩ rfl rfl hl.1 rfl (lv_room (Nat.le_of_ble_eq_true rfl)) dX10_whyTaken_22 ⟨Nat.le_of_ble_eq_true rfl, Nat.le_of_ble_eq_true rfl⟩)) (fun r_324 e_324 => ?_)
      subst e_324
      refine lv_iload_n hx hb dX10_whyTaken_25 rfl (lv_at hl 3 rfl) ?_
      obtain ⟨o_326, hr_326, h⟩ := ob h
      refine vp_callSi (va_Run.run (va_runS (As := [.int o_324, .int x3]) (rest := [.int x3, .int x2, .int x1, .ref h0]) ⟨hx, hb, hml, hown, hts⟩ (c_X10_widens l dC dI cB cC cI cJ cZ cT o_324 x3 o_326 hr_326) (va_cwS 2 hts gX10_whyTaken_X10_widens rfl rfl rfl (by decide +kernel) ⟨Nat.le_of_ble_eq_true rfl, Nat.le_of_ble_eq_true rfl⟩) ⟨blTX, fun U hU hW => ⟨rfl, by rw [hU]; exact SX.use hW.alike hS hX⟩⟩ rfl rfl hl.1 rfl (lv_room (Nat.le_of_ble_eq_true rfl)) dX10_whyTaken_26 ⟨Nat.le_of_ble_eq_true rfl, Nat.le_of_ble_eq_true rfl⟩)) (fun r_326 e_326 => ?_)
      subst e_326
      obtain ⟨v_328, hv_328, h⟩ := ob h
      have J_328 : ∀ (ls : Array Slot), lv_has ls 4 [] → W p l e rm_X10_whyTaken s m args below meth c s.heap [] 0 0 QQ (F0 m 37 ls [.int v_328, .int x3, .int x2, .int x1, .ref h0]) := by
        intro ls hl
        have ho := Option.some.inj h
        subst ho
        exact J_314 ls (lv_sub hl [] rfl)
      replace h := hv_328
      refine lv_if_eq (tgt := 36) hx hb dX10_whyTaken_29 (by decide) (fun c_330 => ?_) (fun c_330 => ?_)
      · replace h := op c_330 h
        refine lv_iconst (v := 0) hx hb dX10_whyTaken_36 (by decide) ?_
        have ho := Option.some.inj h
        subst ho
        exact J_328 ls (lv_sub hl [] rfl)
      · replace h := on c_330 h
        refine lv_iconst (v := 1) hx hb dX10_whyTaken_32 (by decide) ?_
        refine lv_goto (tgt := 37) hx hb dX10_whyTaken_33 (by decide) ?_
        have ho := Option.some.inj h
        subst ho
        exact J_328 ls (lv_sub hl [] rfl)
def f_X10_take (v_rowMany : Int32) (v_now : Nat → Int64) (v_row : Nat → Int64) (x1 : Int32) (x2 : Int32) (x3 : Int32) : Option (Int32 × Int32 × Int32 × (Nat → Int64)) :=
  ((f_X10_isColumn v_now x1).bind (fun o_333 => (if (b2i o_333) = 0 then (some ((-1 : Int32), v_rowMany, (0 : Int32), v_row)) else ((f_X10_in x3 (0 : Int32) (7 : Int32)).bind (fun o_336 => (if (b2i o_336) = 0 then (if x3 = (10 : Int32) then ((f_X10_whyTaken v_now x1 x2 x3).bind (fun o_364 => (if o_364 ≤ 0 then (((if x3 = (10 : Int32) then ((f_X10_cell v_now x1 x2).bind (fun o_384 => (some o_384))) else ((f_X10_cell v_now x1 x2).bind (fun o_378 => ((f_X10_kindOf v_now x1).bind (fun o_380 => ((f_X10_widened o_378 o_380 x3).bind (fun o_382 => (some o_382))))))))).bind (fun v_367 => ((f_X10_tell (0 : Int32) v_row v_367).bind (fun o_386 => (some ((0 : Int32), o_386.1, (0 : Int32), o_386.2)))))) else (some ((-o_364), v_rowMany, (0 : Int32), v_row))))) else (some ((-1 : Int32), v_rowMany, (0 : Int32), v_row))) else ((f_X10_whyTaken v_now x1 x2 x3).bind (fun o_339 => (if o_339 ≤ 0 then (((if x3 = (10 : Int32) then ((f_X10_cell v_now x1 x2).bind (fun o_359 => (some o_359))) else ((f_X10_cell v_now x1 x2).bind (fun o_353 => ((f_X10_kindOf v_now x1).bind (fun o_355 => ((f_X10_widened o_353 o_355 x3).bind (fun o_357 => (some o_357))))))))).bind (fun v_342 => ((f_X10_tell (0 : Int32) v_row v_342).bind (fun o_361 => (some ((0 : Int32), o_361.1, (0 : Int32), o_361.2)))))) else (some ((-o_339), v_rowMany, (0 : Int32), v_row)))))))))))
abbrev rm_X10_take : Room := { frames := 4, cells := 0, slots := 0, locals := 91 }
set_option maxHeartbeats 4000000 in
set_option maxRecDepth 100000 in
theorem c_X10_take (l : Launch) (dC : Nat → ClassId) (dI : Nat → Nat → Nat) (cB cC cI cJ cZ cT : ClassId) (h0 q_now q_text q_row q_read q_ranks q_distinct q_proper q_line q_order q_then q_bestOrder q_lineThen q_undos q_was q_kept q_isKept : Nat) (sz : Nat) (v_typed : Int32) (v_rowMany : Int32) (v_thrown : Int32) (v_length : Int32) (v_at : Int32) (v_wrong : Int32) (v_properMany : Int32) (v_orderMany : Int32) (v_undoMany : Int32) (v_drawn : Int32) (v_now : Nat → Int64) (v_row : Nat → Int64) (x1 : Int32) (x2 : Int32) (x3 : Int32) (o : (Int32 × Int32 × Int32 × (Nat → Int64))) (hf : f_X10_take v_rowMany v_now v_row x1 x2 x3 = some o) : Met l yX10_take wsX10_take rm_X10_take (va_Pc [.ref h0, .int x1, .int x2, .int x3] (fun U => U.heap.size = sz ∧ va_P (dC, dI) vwCl [(h0, .inr (8, [.ref q_now, .ref q_text, .int v_typed, .ref q_row, .int v_rowMany, .int v_thrown, .int v_length, .int v_at, .int v_wrong, .ref q_read, .ref q_ranks, .ref q_distinct, .ref q_proper, .int v_properMany, .ref q_line, .ref q_order, .int v_orderMany, .ref q_then, .ref q_bestOrder, .ref q_lineThen, .ref q_undos, .ref q_was, .int v_undoMany, .int v_drawn, .ref q_kept, .ref q_isKept])), (q_now, .inl (cJ, 120, .inr (.inl v_now))), (q_row, .inl (cJ, 64, .inr (.inl v_row)))] U.heap ∧ va_K (dC, dI) vwCl (tyA cB cC cI cJ cZ cT) U ∧ va_D (fun _ => True) [(h0, .inr (8, [.ref q_now, .ref q_text, .int v_typed, .ref q_row, .int v_rowMany, .int v_thrown, .int v_length, .int v_at, .int v_wrong, .ref q_read, .ref q_ranks, .ref q_distinct, .ref q_proper, .int v_properMany, .ref q_line, .ref q_order, .int v_orderMany, .ref q_then, .ref q_bestOrder, .ref q_lineThen, .ref q_undos, .ref q_was, .int v_undoMany, .int v_drawn, .ref q_kept, .ref q_isKept])), (q_now, .inl (cJ, 120, .inr (.inl v_now))), (q_row, .inl (cJ, 64, .inr (.inl v_row)))] ∧ SX (va_A [(h0, .inr (8, [.ref q_now, .ref q_text, .int v_typed, .ref q_row, .int v_rowMany, .int v_thrown, .int v_length, .int v_at, .int v_wrong, .ref q_read, .ref q_ranks, .ref q_distinct, .ref q_proper, .int v_properMany, .ref q_line, .ref q_order, .int v_orderMany, .ref q_then, .ref q_bestOrder, .ref q_lineThen, .ref q_undos, .ref q_was, .int v_undoMany, .int v_drawn, .ref q_kept, .ref q_isKept])), (q_now, .inl (cJ, 120, .inr (.inl v_now))), (q_row, .inl (cJ, 64, .inr (.inl v_row)))] sz) U U.heap)) (va_Qi (fun (r : Int32) (_ : Unit) => o.1 = r) (fun _ t => va_P (dC, dI) vwCl [(h0, .inr (8, [.ref q_now, .ref q_text, .int v_typed, .ref q_row, .int o.2.1, .int o.2.2.1, .int v_length, .int v_at, .int v_wrong, .ref q_read, .ref q_ranks, .ref q_distinct, .ref q_proper, .int v_properMany, .ref q_line, .ref q_order, .int v_orderMany, .ref q_then, .ref q_bestOrder, .ref q_lineThen, .ref q_undos, .ref q_was, .int v_undoMany, .int v_drawn, .ref q_kept, .ref q_isKept])), (q_now, .inl (cJ, 120, .inr (.inl v_now))), (q_row, .inl (cJ, 64, .inr (.inl o.2.2.2)))] t.heap ∧ va_K (dC, dI) vwCl (tyA cB cC cI cJ cZ cT) t ∧ va_D (va_A [(h0, .inr (8, [.ref q_now, .ref q_text, .int v_typed, .ref q_row, .int v_rowMany, .int v_thrown, .int v_length, .int v_at, .int v_wrong, .ref q_read, .ref q_ranks, .ref q_distinct, .ref q_proper, .int v_properMany, .ref q_line, .ref q_order, .int v_orderMany, .ref q_then, .ref q_bestOrder, .ref q_lineThen, .ref q_undos, .ref q_was, .int v_undoMany, .int v_drawn, .ref q_kept, .ref q_isKept])), (q_now, .inl (cJ, 120, .inr (.inl v_now))), (q_row, .inl (cJ, 64, .inr (.inl v_row)))] sz) [(h0, .inr (8, [.ref q_now, .ref q_text, .int v_typed, .ref q_row, .int o.2.1, .int o.2.2.1, .int v_length, .int v_at, .int v_wrong, .ref q_read, .ref q_ranks, .ref q_distinct, .ref q_proper, .int v_properMany, .ref q_line, .ref q_order, .int v_orderMany, .ref q_then, .ref q_bestOrder, .ref q_lineThen, .ref q_undos, .ref q_was, .int v_undoMany, .int v_drawn, .ref q_kept, .ref q_isKept])), (q_now, .inl (cJ, 120, .inr (.inl v_now))), (q_row, .inl (cJ, 64, .inr (.inl o.2.2.2)))]) (va_A [(h0, .inr (8, [.ref q_now, .ref q_text, .int v_typed, .ref q_row, .int v_rowMany, .int v_thrown, .int v_length, .int v_at, .int v_wrong, .ref q_read, .ref q_ranks, .ref q_distinct, .ref q_proper, .int v_properMany, .ref q_line, .ref q_order, .int v_orderMany, .ref q_then, .ref q_bestOrder, .ref q_lineThen, .ref q_undos, .ref q_was, .int v_undoMany, .int v_drawn, .ref q_kept, .ref q_isKept])), (q_now, .inl (cJ, 120, .inr (.inl v_now))), (q_row, .inl (cJ, 64, .inr (.inl v_row)))] sz)) 0 0 (va_A [(h0, .inr (8, [.ref q_now, .ref q_text, .int v_typed, .ref q_row, .int v_rowMany, .int v_thrown, .int v_length, .int v_at, .int v_wrong, .ref q_read, .ref q_ranks, .ref q_distinct, .ref q_proper, .int v_properMany, .ref q_line, .ref q_order, .int v_orderMany, .ref q_then, .ref q_bestOrder, .ref q_lineThen, .ref q_undos, .ref q_was, .int v_undoMany, .int v_drawn, .ref q_kept, .ref q_isKept])), (q_now, .inl (cJ, 120, .inr (.inl v_now))), (q_row, .inl (cJ, 64, .inr (.inl v_row)))] sz) := by
  refine Met.ofW (cc := cX10_take) (maxL := 5) (ret := (some .int)) (by decide) rfl ?_
  intro p e s m args below meth c s₁ B hml hv
  obtain ⟨hav, hsz, hP, hK, hD0, hX⟩ := hv
  have hx := B.exec
  have hb := B.bytes
  have hr := B.returns
  have hts := atoms_spec (ws := wsX10_take) B.pre
  have hown : s.vm.findClass RX10 = some m.cls := findClass_of_methodNamed B.named
  have hlocks := B.notSynchronized
  subst hsz
  have hD := hD0.self (sz := s.heap.size)
  generalize hAe : va_A [(h0, .inr (8, [.ref q_now, .ref q_text, .int v_typed, .ref q_row, .int v_rowMany, .int v_thrown, .int v_length, .int v_at, .int v_wrong, .ref q_read, .ref q_ranks, .ref q_distinct, .ref q_proper, .int v_properMany, .ref q_line, .ref q_order, .int v_orderMany, .ref q_then, .ref q_bestOrder, .ref q_lineThen, .ref q_undos, .ref q_was, .int v_undoMany, .int v_drawn, .ref q_kept, .ref q_isKept])), (q_now, .inl (cJ, 120, .inr (.inl v_now))), (q_row, .inl (cJ, 64, .inr (.inl v_row)))] s.heap.size = A at hD hX ⊢
  have hA : ∀ q : Nat, s.heap.size ≤ q → A q := fun q h => by rw [← hAe]; exact Or.inr h
  have hS : va_S A s.heap s.heap [] := va_S.rf
  refine wstart (rm := rm_X10_take) hav (Nat.le_of_ble_eq_true rfl) (fun QQ ls hQQ hl => ?_)
  have hl : lv_has ls 5 [(0, .ref h0), (1, .int x1), (2, .int x2), (3, .int x3)] := hl
  have hi_X10 : ∀ w ∈ u_ws RX10 TX10 26, w ∈ wsX10_take := by decide +kernel
  have h := hf
  unfold f_X10_take at h
  refine lv_aload_n hx hb dX10_take_0 rfl (lv_at hl 0 rfl) ?_
  refine lv_iconst (v := 0) hx hb dX10_take_1 (by decide) ?_
  refine va_put (D := (dC, dI)) (ci := 8) (v := .int (0 : Int32)) (ty := .int) (C := RX10) (T := TX10) (N := 26) hx hb hts hi_X10 tyX10 tyX10_ok nmX10 hown hK hP hD hS 0 rfl rfl 5 (by decide) (hts _ (List.mem_of_getElem? (i := 1) rfl)) (fun _ h9 => h9) rfl (by decide +kernel) rfl rfl (Nat.le_of_ble_eq_true rfl) dX10_take_2 (fun H locs hP hD hS => ?_)
  replace hP : va_P (dC, dI) vwCl [(h0, .inr (8, [.ref q_now, .ref q_text, .int v_typed, .ref q_row, .int v_rowMany, .int (0 : Int32), .int v_length, .int v_at, .int v_wrong, .ref q_read, .ref q_ranks, .ref q_distinct, .ref q_proper, .int v_properMany, .ref q_line, .ref q_order, .int v_orderMany, .ref q_then, .ref q_bestOrder, .ref q_lineThen, .ref q_undos, .ref q_was, .int v_undoMany, .int v_drawn, .ref q_kept, .ref q_isKept])), (q_now, .inl (cJ, 120, .inr (.inl v_now))), (q_row, .inl (cJ, 64, .inr (.inl v_row)))] H := hP
  replace hD : va_D A [(h0, .inr (8, [.ref q_now, .ref q_text, .int v_typed, .ref q_row, .int v_rowMany, .int (0 : Int32), .int v_length, .int v_at, .int v_wrong, .ref q_read, .ref q_ranks, .ref q_distinct, .ref q_proper, .int v_properMany, .ref q_line, .ref q_order, .int v_orderMany, .ref q_then, .ref q_bestOrder, .ref q_lineThen, .ref q_undos, .ref q_was, .int v_undoMany, .int v_drawn, .ref q_kept, .ref q_isKept])), (q_now, .inl (cJ, 120, .inr (.inl v_now))), (q_row, .inl (cJ, 64, .inr (.inl v_row)))] := hD
  refine lv_aload_n hx hb dX10_take_5 rfl (lv_at hl 0 rfl) ?_
  refine lv_iload_n hx hb dX10_take_6 rfl (lv_at hl 1 rfl) ?_
  obtain ⟨o_333, hr_333, h⟩ := ob h
  refine vp_callSi (va_Run.run (va_runV (As := [.int x1]) (rest := []) ⟨hx, hb, hml, hown, hts⟩ (c_X10_isColumn l dC dI cB cC cI cJ cZ cT h0 q_now q_text q_row q_read q_ranks q_distinct q_proper q_line q_order q_then q_bestOrder q_lineThen q_undos q_was q_kept q_isKept v_typed v_rowMany (0 : Int32) v_length v_at v_wrong v_properMany v_orderMany v_undoMany v_drawn v_now x1 o_333 hr_333) (cwV 1 hts gX10_take_X10_isColumn rfl rfl rfl (by decide +kernel) ⟨Nat.le_of_ble_eq_true rfl, Nat.le_of_ble_eq_true rfl⟩) ⟨blR, va_recv hK hP (ci := 8) (q0 := 0) rfl rfl, fun U hU hW => ⟨rfl, by rw [hU]; exact hP.sub [0, 1] rfl, va_K.moved hW.alike hK⟩⟩ rfl rfl hl.1 rfl (lv_room (Nat.le_of_ble_eq_true rfl)) dX10_take_7 ⟨Nat.le_of_ble_eq_true rfl, Nat.le_of_ble_eq_true rfl⟩)) (fun r_333 e_333 => ?_)
  subst e_333
  refine lv_if_eq (tgt := 29) hx hb dX10_take_10 (by decide) (fun c_335 => ?_) (fun c_335 => ?_)
  · replace h := op c_335 h
    refine lv_iconst (v := -1) hx hb dX10_take_29 (by decide) ?_
    rw [hQQ]
    have ho := Option.some.inj h
    subst ho
    exact W.iret hx hb hr (fun t ht hW => ⟨⟨_, (), rfl, rfl, by rw [ht]; exact hP, va_K.moved hW.alike hK, hD⟩, hS.F ht⟩) hS.2.2 dX10_take_30
  · replace h := on c_335 h
    refine lv_iload_n hx hb dX10_take_13 rfl (lv_at hl 3 rfl) ?_
    refine lv_iconst (v := 0) hx hb dX10_take_14 (by decide) ?_
    refine lv_bipush (v := 7) hx hb dX10_take_15 (by decide) ?_
    obtain ⟨o_336, hr_336, h⟩ := ob h
    refine vp_callSi (va_Run.run (va_runS (As := [.int x3, .int (0 : Int32), .int (7 : Int32)]) (rest := []) ⟨hx, hb, hml, hown, hts⟩ (c_X10_in l dC dI cB cC cI cJ cZ cT x3 (0 : Int32) (7 : Int32) o_336 hr_336) (va_cwS 3 hts gX10_take_X10_in rfl rfl rfl (by decide +kernel) ⟨Nat.le_of_ble_eq_true rfl, Nat.le_of_ble_eq_true rfl⟩) ⟨blT, fun U hU hW => ⟨rfl, trivial⟩⟩ rfl rfl hl.1 rfl (lv_room (Nat.le_of_ble_eq_true rfl)) dX10_take_17 ⟨Nat.le_of_ble_eq_true rfl, Nat.le_of_ble_eq_true rfl⟩)) (fun r_336 e_336 => ?_)
    subst e_336
    refine lv_if_ne (tgt := 31) hx hb dX10_take_20 (by decide) (fun c_338 => ?_) (fun c_338 => ?_)
    · replace h := on c_338 h
      refine lv_aload_n hx hb dX10_take_31 rfl (lv_at hl 0 rfl) ?_
      refine lv_iload_n hx hb dX10_take_32 rfl (lv_at hl 1 rfl) ?_
      refine lv_iload_n hx hb dX10_take_33 rfl (lv_at hl 2 rfl) ?_
      refine lv_iload_n hx hb dX10_take_34 rfl (lv_at hl 3 rfl) ?_
      obtain ⟨o_339, hr_339, h⟩ := ob h
      refine vp_callSi (va_Run.run (va_runV (As := [.int x1, .int x2, .int x3]) (rest := []) ⟨hx, hb, hml, hown, hts⟩ (c_X10_whyTaken l dC dI cB cC cI cJ cZ cT h0 q_now q_text q_row q_read q_ranks q_distinct q_proper q_line q_order q_then q_bestOrder q_lineThen q_undos q_was q_kept q_isKept v_typed v_rowMany (0 : Int32) v_length v_at v_wrong v_properMany v_orderMany v_undoMany v_drawn v_now x1 x2 x3 o_339 hr_339) (cwV 3 hts gX10_take_X10_whyTaken rfl rfl rfl (by decide +kernel) ⟨Nat.le_of_ble_eq_true rfl, Nat.le_of_ble_eq_true rfl⟩) ⟨blRX, va_recv hK hP (ci := 8) (q0 := 0) rfl rfl, fun U hU hW => ⟨rfl, by rw [hU]; exact hP.sub [0, 1] rfl, va_K.moved hW.alike hK, by rw [hU]; exact SX.use hW.alike hS hX⟩⟩ rfl rfl hl.1 rfl (lv_room (Nat.le_of_ble_eq_true rfl)) dX10_take_35 ⟨Nat.le_of_ble_eq_true rfl, Nat.le_of_ble_eq_true rfl⟩)) (fun r_339 e_339 => ?_)
      subst e_339
      refine lv_istore (lv' := [(4, .int o_339), (0, .ref h0), (1, .int x1), (2, .int x2), (3, .int x3)]) hx hb dX10_take_38 hl (by decide) rfl (fun ls hl => ?_)
      refine lv_iload hx hb dX10_take_40 (lv_at hl 0 rfl) ?_
      refine lv_if_le (tgt := 49) hx hb dX10_take_42 (by decide) (fun c_341 => ?_) (fun c_341 => ?_)
      · replace h := op c_341 h
        refine lv_aload_n hx hb dX10_take_49 rfl (lv_at hl 1 rfl) ?_
        refine lv_iconst (v := 0) hx hb dX10_take_50 (by decide) ?_
        refine va_put (D := (dC, dI)) (ci := 8) (v := .int (0 : Int32)) (ty := .int) (C := RX10) (T := TX10) (N := 26) hx hb hts hi_X10 tyX10 tyX10_ok nmX10 hown hK hP hD hS 0 rfl rfl 4 (by decide) (hts _ (List.mem_of_getElem? (i := 2) rfl)) (fun _ h9 => h9) rfl (by decide +kernel) rfl rfl (Nat.le_of_ble_eq_true rfl) dX10_take_51 (fun H locs hP hD hS => ?_)
        replace hP : va_P (dC, dI) vwCl [(h0, .inr (8, [.ref q_now, .ref q_text, .int v_typed, .ref q_row, .int (0 : Int32), .int (0 : Int32), .int v_length, .int v_at, .int v_wrong, .ref q_read, .ref q_ranks, .ref q_distinct, .ref q_proper, .int v_properMany, .ref q_line, .ref q_order, .int v_orderMany, .ref q_then, .ref q_bestOrder, .ref q_lineThen, .ref q_undos, .ref q_was, .int v_undoMany, .int v_drawn, .ref q_kept, .ref q_isKept])), (q_now, .inl (cJ, 120, .inr (.inl v_now))), (q_row, .inl (cJ, 64, .inr (.inl v_row)))] H := hP
        replace hD : va_D A [(h0, .inr (8, [.ref q_now, .ref q_text, .int v_typed, .ref q_row, .int (0 : Int32), .int (0 : Int32), .int v_length, .int v_at, .int v_wrong, .ref q_read, .ref q_ranks, .ref q_distinct, .ref q_proper, .int v_properMany, .ref q_line, .ref q_order, .int v_orderMany, .ref q_then, .ref q_bestOrder, .ref q_lineThen, .ref q_undos, .ref q_was, .int v_undoMany, .int v_drawn, .ref q_kept, .ref q_isKept])), (q_now, .inl (cJ, 120, .inr (.inl v_now))), (q_row, .inl (cJ, 64, .inr (.inl v_row)))] := hD
        refine lv_aload_n hx hb dX10_take_54 rfl (lv_at hl 1 rfl) ?_
        refine lv_iload_n hx hb dX10_take_55 rfl (lv_at hl 4 rfl) ?_
        refine lv_bipush (v := 10) hx hb dX10_take_56 (by decide) ?_
        obtain ⟨v_342, hv_342, h⟩ := ob h
        have J_342 : ∀ (H : Heap) (locs : List Loc) (ls : Array Slot), va_P (dC, dI) vwCl [(h0, .inr (8, [.ref q_now, .ref q_text, .int v_typed, .ref q_row, .int (0 : Int32), .int (0 : Int32), .int v_length, .int v_at, .int v_wrong, .ref q_read, .ref q_ranks, .ref q_distinct, .ref q_proper, .int v_properMany, .ref q_line, .ref q_order, .int v_orderMany, .ref q_then, .ref q_bestOrder, .ref q_lineThen, .ref q_undos, .ref q_was, .int v_undoMany, .int v_drawn, .ref q_kept, .ref q_isKept])), (q_now, .inl (cJ, 120, .inr (.inl v_now))), (q_row, .inl (cJ, 64, .inr (.inl v_row)))] H → va_D A [(h0, .inr (8, [.ref q_now, .ref q_text, .int v_typed, .ref q_row, .int (0 : Int32), .int (0 : Int32), .int v_length, .int v_at, .int v_wrong, .ref q_read, .ref q_ranks, .ref q_distinct, .ref q_proper, .int v_properMany, .ref q_line, .ref q_order, .int v_orderMany, .ref q_then, .ref q_bestOrder, .ref q_lineThen, .ref q_undos, .ref q_was, .int v_undoMany, .int v_drawn, .ref q_kept, .ref q_isKept])), (q_now, .inl (cJ, 120, .inr (.inl v_now))), (q_row, .inl (cJ, 64, .inr (.inl v_row)))] → va_S A s.heap H locs → lv_has ls 5 [] → W p l e rm_X10_take s m args below meth c H locs 0 0 QQ (F0 m 85 ls [.long v_342, .ref h0]) := by
          intro H locs ls hP hD hS hl
          obtain ⟨o_361, hr_361, h⟩ := ob h
          have hPc := hP.sub (ws' := [(h0, .inr (8, [.ref q_now, .ref q_text, .int v_typed, .ref q_row, .int (0 : Int32), .int (0 : Int32), .int v_length, .int v_at, .int v_wrong, .ref q_read, .ref q_ranks, .ref q_distinct, .ref q_proper, .int v_properMany, .ref q_line, .ref q_order, .int v_orderMany, .ref q_then, .ref q_bestOrder, .ref q_lineThen, .ref q_undos, .ref q_was, .int v_undoMany, .int v_drawn, .ref q_kept, .ref q_isKept])), (q_row, .inl (cJ, 64, .inr (.inl v_row)))]) [0, 2] rfl
          have hDc := hD.sub (ws' := [(h0, .inr (8, [.ref q_now, .ref q_text, .int v_typed, .ref q_row, .int (0 : Int32), .int (0 : Int32), .int v_length, .int v_at, .int v_wrong, .ref q_read, .ref q_ranks, .ref q_distinct, .ref q_proper, .int v_properMany, .ref q_line, .ref q_order, .int v_orderMany, .ref q_then, .ref q_bestOrder, .ref q_lineThen, .ref q_undos, .ref q_was, .int v_undoMany, .int v_drawn, .ref q_kept, .ref q_isKept])), (q_row, .inl (cJ, 64, .inr (.inl v_row)))]) [0, 2] (by decide) rfl
          have hFc := va_free (wc := [(h0, .inr (8, [.ref q_now, .ref q_text, .int v_typed, .ref q_row, .int (0 : Int32), .int (0 : Int32), .int v_length, .int v_at, .int v_wrong, .ref q_read, .ref q_ranks, .ref q_distinct, .ref q_proper, .int v_properMany, .ref q_line, .ref q_order, .int v_orderMany, .ref q_then, .ref q_bestOrder, .ref q_lineThen, .ref q_undos, .ref q_was, .int v_undoMany, .int v_drawn, .ref q_kept, .ref q_isKept])), (q_row, .inl (cJ, 64, .inr (.inl v_row)))]) hD hS hA [0, 2] rfl
          refine va_callv (va_runV (As := [.long v_342]) (rest := []) ⟨hx, hb, hml, hown, hts⟩ (c_X10_tell l dC dI cB cC cI cJ cZ cT h0 q_now q_text q_row q_read q_ranks q_distinct q_proper q_line q_order q_then q_bestOrder q_lineThen q_undos q_was q_kept q_isKept H.size v_typed (0 : Int32) (0 : Int32) v_length v_at v_wrong v_properMany v_orderMany v_undoMany v_drawn v_row v_342 o_361 hr_361) (cwV 1 hts gX10_take_X10_tell rfl rfl rfl (by decide +kernel) ⟨Nat.le_of_ble_eq_true rfl, Nat.le_of_ble_eq_true rfl⟩) ⟨blW, va_recv hK hP (ci := 8) (q0 := 0) rfl rfl, fun U hU hW => ⟨rfl, by rw [hU], by rw [hU]; exact hPc, va_K.moved hW.alike hK, hDc.weaken (fun _ _ _ _ => trivial)⟩⟩ rfl rfl hl.1 rfl (lv_room (Nat.le_of_ble_eq_true rfl)) dX10_take_85 ⟨Nat.le_of_ble_eq_true rfl, Nat.le_of_ble_eq_true rfl⟩) hS (fun q _ h => hFc q h) hFc (fun u_361 t_361 H locs ht hvm e_361 hB hz1 hk1 hS => ?_)
          obtain ⟨hP1, -, hD1⟩ := hB
          rw [ht] at hP1
          obtain ⟨hP, hD⟩ := va_join (wr := [(q_now, .inl (cJ, 120, .inr (.inl v_now)))]) (w1 := [(h0, .inr (8, [.ref q_now, .ref q_text, .int v_typed, .ref q_row, .int o_361.1, .int (0 : Int32), .int v_length, .int v_at, .int v_wrong, .ref q_read, .ref q_ranks, .ref q_distinct, .ref q_proper, .int v_properMany, .ref q_line, .ref q_order, .int v_orderMany, .ref q_then, .ref q_bestOrder, .ref q_lineThen, .ref q_undos, .ref q_was, .int v_undoMany, .int v_drawn, .ref q_kept, .ref q_isKept])), (q_row, .inl (cJ, 64, .inr (.inl o_361.2)))]) hP hD [0, 2] [1] rfl rfl (by decide) (by decide) hk1 hFc hP1 hD1
          replace hP := hP.sub (ws' := [(h0, .inr (8, [.ref q_now, .ref q_text, .int v_typed, .ref q_row, .int o_361.1, .int (0 : Int32), .int v_length, .int v_at, .int v_wrong, .ref q_read, .ref q_ranks, .ref q_distinct, .ref q_proper, .int v_properMany, .ref q_line, .ref q_order, .int v_orderMany, .ref q_then, .ref q_bestOrder, .ref q_lineThen, .ref q_undos, .ref q_was, .int v_undoMany, .int v_drawn, .ref q_kept, .ref q_isKept])), (q_now, .inl (cJ, 120, .inr (.inl v_now))), (q_row, .inl (cJ, 64, .inr (.inl o_361.2)))]) [1, 0, 2] rfl
          replace hD := hD.sub (ws' := [(h0, .inr (8, [.ref q_now, .ref q_text, .int v_typed, .ref q_row, .int o_361.1, .int (0 : Int32), .int v_length, .int v_at, .int v_wrong, .ref q_read, .ref q_ranks, .ref q_distinct, .ref q_proper, .int v_properMany, .ref q_line, .ref q_order, .int v_orderMany, .ref q_then, .ref q_bestOrder, .ref q_lineThen, .ref q_undos, .ref q_was, .int v_undoMany, .int v_drawn, .ref q_kept, .ref q_isKept])), (q_now, .inl (cJ, 120, .inr (.inl v_now))), (q_row, .inl (cJ, 64, .inr (.inl o_361.2)))]) [1, 0, 2] (by decide) rfl
          refine lv_iconst (v := 0) hx hb dX10_take_88 (by decide) ?_
          rw [hQQ]
          have ho := Option.some.inj h
          subst ho
          exact W.iret hx hb hr (fun t ht hW => ⟨⟨_, (), rfl, rfl, by rw [ht]; exact hP, va_K.moved hW.alike hK, hD⟩, hS.F ht⟩) hS.2.2 dX10_take_89
        replace h := hv_342
        refine lv_icmp_ne (tgt := 70) hx hb dX10_take_58 (by decide) (fun c_352 => ?_) (fun c_352 => ?_)
        · replace h := on c_352 h
          refine lv_aload_n hx hb dX10_take_70 rfl (lv_at hl 1 rfl) ?_
          refine lv_iload_n hx hb dX10_take_71 rfl (lv_at hl 2 rfl) ?_
          refine lv_iload_n hx hb dX10_take_72 rfl (lv_at hl 3 rfl) ?_
          obtain ⟨o_353, hr_353, h⟩ := ob h
          refine vp_callSl (va_Run.run (va_runV (As := [.int x1, .int x2]) (rest := [.ref h0]) ⟨hx, hb, hml, hown, hts⟩ (c_X10_cell l dC dI cB cC cI cJ cZ cT h0 q_now q_text q_row q_read q_ranks q_distinct q_proper q_line q_order q_then q_bestOrder q_lineThen q_undos q_was q_kept q_isKept v_typed (0 : Int32) (0 : Int32) v_length v_at v_wrong v_properMany v_orderMany v_undoMany v_drawn v_now x1 x2 o_353 hr_353) (cwV 2 hts gX10_take_X10_cell rfl rfl rfl (by decide +kernel) ⟨Nat.le_of_ble_eq_true rfl, Nat.le_of_ble_eq_true rfl⟩) ⟨blR, va_recv hK hP (ci := 8) (q0 := 0) rfl rfl, fun U hU hW => ⟨rfl, by rw [hU]; exact hP.sub [0, 1] rfl, va_K.moved hW.alike hK⟩⟩ rfl rfl hl.1 rfl (lv_room (Nat.le_of_ble_eq_true rfl)) dX10_take_73 ⟨Nat.le_of_ble_eq_true rfl, Nat.le_of_ble_eq_true rfl⟩)) (fun r_353 e_353 => ?_)
          subst e_353
          refine lv_aload_n hx hb dX10_take_76 rfl (lv_at hl 1 rfl) ?_
          refine lv_iload_n hx hb dX10_take_77 rfl (lv_at hl 2 rfl) ?_
          obtain ⟨o_355, hr_355, h⟩ := ob h
          refine vp_callSi (va_Run.run (va_runV (As := [.int x1]) (rest := [.long o_353, .ref h0]) ⟨hx, hb, hml, hown, hts⟩ (c_X10_kindOf l dC dI cB cC cI cJ cZ cT h0 q_now q_text q_row q_read q_ranks q_distinct q_proper q_line q_order q_then q_bestOrder q_lineThen q_undos q_was q_kept q_isKept v_typed (0 : Int32) (0 : Int32) v_length v_at v_wrong v_properMany v_orderMany v_undoMany v_drawn v_now x1 o_355 hr_355) (cwV 1 hts gX10_take_X10_kindOf rfl rfl rfl (by decide +kernel) ⟨Nat.le_of_ble_eq_true rfl, Nat.le_of_ble_eq_true rfl⟩) ⟨blR, va_recv hK hP (ci := 8) (q0 := 0) rfl rfl, fun U hU hW => ⟨rfl, by rw [hU]; exact hP.sub [0, 1] rfl, va_K.moved hW.alike hK⟩⟩ rfl rfl hl.1 rfl (lv_room (Nat.le_of_ble_eq_true rfl)) dX10_take_78 ⟨Nat.le_of_ble_eq_true rfl, Nat.le_of_ble_eq_true rfl⟩)) (fun r_355 e_355 => ?_)
          subst e_355
          refine lv_iload_n hx hb dX10_take_81 rfl (lv_at hl 4 rfl) ?_
          obtain ⟨o_357, hr_357, h⟩ := ob h
          refine vp_callSl (va_Run.run (va_runS (As := [.long o_353, .int o_355, .int x3]) (rest := [.ref h0]) ⟨hx, hb, hml, hown, hts⟩ (c_X10_widened l dC dI cB cC cI cJ cZ cT o_353 o_355 x3 o_357 hr_357) (va_cwS 3 hts gX10_take_X10_widened rfl rfl rfl (by decide +kernel) ⟨Nat.le_of_ble_eq_true rfl, Nat.le_of_ble_eq_true rfl⟩) ⟨blT, fun U hU hW => ⟨rfl, trivial⟩⟩ rfl rfl hl.1 rfl (lv_room (Nat.le_of_ble_eq_true rfl)) dX10_take_82 ⟨Nat.le_of_ble_eq_true rfl, Nat.le_of_ble_eq_true rfl⟩)) (fun r_357 e_357 => ?_)
          subst e_357
          have ho := Option.some.inj h
          subst ho
          exact J_342 H _ ls hP hD hS (lv_sub hl [] rfl)
        · replace h := op c_352 h
          refine lv_aload_n hx hb dX10_take_61 rfl (lv_at hl 1 rfl) ?_
          refine lv_iload_n hx hb dX10_take_62 rfl (lv_at hl 2 rfl) ?_
          refine lv_iload_n hx hb dX10_take_63 rfl (lv_at hl 3 rfl) ?_
          obtain ⟨o_359, hr_359, h⟩ := ob h
          refine vp_callSl (va_Run.run (va_runV (As := [.int x1, .int x2]) (rest := [.ref h0]) ⟨hx, hb, hml, hown, hts⟩ (c_X10_cell l dC dI cB cC cI cJ cZ cT h0 q_now q_text q_row q_read q_ranks q_distinct q_proper q_line q_order q_then q_bestOrder q_lineThen q_undos q_was q_kept q_isKept v_typed (0 : Int32) (0 : Int32) v_length v_at v_wrong v_properMany v_orderMany v_undoMany v_drawn v_now x1 x2 o_359 hr_359) (cwV 2 hts gX10_take_X10_cell rfl rfl rfl (by decide +kernel) ⟨Nat.le_of_ble_eq_true rfl, Nat.le_of_ble_eq_true rfl⟩) ⟨blR, va_recv hK hP (ci := 8) (q0 := 0) rfl rfl, fun U hU hW => ⟨rfl, by rw [hU]; exact hP.sub [0, 1] rfl, va_K.moved hW.alike hK⟩⟩ rfl rfl hl.1 rfl (lv_room (Nat.le_of_ble_eq_true rfl)) dX10_take_64 ⟨Nat.le_of_ble_eq_true rfl, Nat.le_of_ble_eq_true rfl⟩)) (fun r_359 e_359 => ?_)
          subst e_359
          refine lv_goto (tgt := 85) hx hb dX10_take_67 (by decide) ?_
          have ho := Option.some.inj h
          subst ho
          exact J_342 H _ ls hP hD hS (lv_sub hl [] rfl)
      · replace h := on c_341 h
        refine lv_iload hx hb dX10_take_45 (lv_at hl 0 rfl) ?_
        refine lv_ineg hx hb dX10_take_47 ?_
        rw [hQQ]
        have ho := Option.some.inj h
        subst ho
        exact W.iret hx hb hr (fun t ht hW => ⟨⟨_, (), rfl, rfl, by rw [ht]; exact hP, va_K.moved hW.alike hK, hD⟩, hS.F ht⟩) hS.2.2 dX10_take_48
    · replace h := op c_338 h
      refine lv_iload_n hx hb dX10_take_23 rfl (lv_at hl 3 rfl) ?_
      refine lv_bipush (v := 10) hx hb dX10_take_24 (by decide) ?_
      refine lv_icmp_eq (tgt := 31) hx hb dX10_take_26 (by decide) (fun c_363 => ?_) (fun c_363 => ?_)
      · replace h := op c_363 h
        refine lv_aload_n hx hb dX10_take_31 rfl (lv_at hl 0 rfl) ?_
        refine lv_iload_n hx hb dX10_take_32 rfl (lv_at hl 1 rfl) ?_
        refine lv_iload_n hx hb dX10_take_33 rfl (lv_at hl 2 rfl) ?_
        refine lv_iload_n hx hb dX10_take_34 rfl (lv_at hl 3 rfl) ?_
        obtain ⟨o_364, hr_364, h⟩ := ob h
        refine vp_callSi (va_Run.run (va_runV (As := [.int x1, .int x2, .int x3]) (rest := []) ⟨hx, hb, hml, hown, hts⟩ (c_X10_whyTaken l dC dI cB cC cI cJ cZ cT h0 q_now q_text q_row q_read q_ranks q_distinct q_proper q_line q_order q_then q_bestOrder q_lineThen q_undos q_was q_kept q_isKept v_typed v_rowMany (0 : Int32) v_length v_at v_wrong v_properMany v_orderMany v_undoMany v_drawn v_now x1 x2 x3 o_364 hr_364) (cwV 3 hts gX10_take_X10_whyTaken rfl rfl rfl (by decide +kernel) ⟨Nat.le_of_ble_eq_true rfl, Nat.le_of_ble_eq_true rfl⟩) ⟨blRX, va_recv hK hP (ci := 8) (q0 := 0) rfl rfl, fun U hU hW => ⟨rfl, by rw [hU]; exact hP.sub [0, 1] rfl, va_K.moved hW.alike hK, by rw [hU]; exact SX.use hW.alike hS hX⟩⟩ rfl rfl hl.1 rfl (lv_room (Nat.le_of_ble_eq_true rfl)) dX10_take_35 ⟨Nat.le_of_ble_eq_true rfl, Nat.le_of_ble_eq_true rfl⟩)) (fun r_364 e_364 => ?_)
        subst e_364
        refine lv_istore (lv' := [(4, .int o_364), (0, .ref h0), (1, .int x1), (2, .int x2), (3, .int x3)]) hx hb dX10_take_38 hl (by decide) rfl (fun ls hl => ?_)
        refine lv_iload hx hb dX10_take_40 (lv_at hl 0 rfl) ?_
        refine lv_if_le (tgt := 49) hx hb dX10_take_42 (by decide) (fun c_366 => ?_) (fun c_366 => ?_)
        · replace h := op c_366 h
          refine lv_aload_n hx hb dX10_take_49 rfl (lv_at hl 1 rfl) ?_
          refine lv_iconst (v := 0) hx hb dX10_take_50 (by decide) ?_
          refine va_put (D := (dC, dI)) (ci := 8) (v := .int (0 : Int32)) (ty := .int) (C := RX10) (T := TX10) (N := 26) hx hb hts hi_X10 tyX10 tyX10_ok nmX10 hown hK hP hD hS 0 rfl rfl 4 (by decide) (hts _ (List.mem_of_getElem? (i := 2) rfl)) (fun _ h9 => h9) rfl (by decide +kernel) rfl rfl (Nat.le_of_ble_eq_true rfl) dX10_take_51 (fun H locs hP hD hS => ?_)
          replace hP : va_P (dC, dI) vwCl [(h0, .inr (8, [.ref q_now, .ref q_text, .int v_typed, .ref q_row, .int (0 : Int32), .int (0 : Int32), .int v_length, .int v_at, .int v_wrong, .ref q_read, .ref q_ranks, .ref q_distinct, .ref q_proper, .int v_properMany, .ref q_line, .ref q_order, .int v_orderMany, .ref q_then, .ref q_bestOrder, .ref q_lineThen, .ref q_undos, .ref q_was, .int v_undoMany, .int v_drawn, .ref q_kept, .ref q_isKept])), (q_now, .inl (cJ, 120, .inr (.inl v_now))), (q_row, .inl (cJ, 64, .inr (.inl v_row)))] H := hP
          replace hD : va_D A [(h0, .inr (8, [.ref q_now, .ref q_text, .int v_typed, .ref q_row, .int (0 : Int32), .int (0 : Int32), .int v_length, .int v_at, .int v_wrong, .ref q_read, .ref q_ranks, .ref q_distinct, .ref q_proper, .int v_properMany, .ref q_line, .ref q_order, .int v_orderMany, .ref q_then, .ref q_bestOrder, .ref q_lineThen, .ref q_undos, .ref q_was, .int v_undoMany, .int v_drawn, .ref q_kept, .ref q_isKept])), (q_now, .inl (cJ, 120, .inr (.inl v_now))), (q_row, .inl (cJ, 64, .inr (.inl v_row)))] := hD
          refine lv_aload_n hx hb dX10_take_54 rfl (lv_at hl 1 rfl) ?_
          refine lv_iload_n hx hb dX10_take_55 rfl (lv_at hl 4 rfl) ?_
          refine lv_bipush (v := 10) hx hb dX10_take_56 (by decide) ?_
          obtain ⟨v_367, hv_367, h⟩ := ob h
          have J_367 : ∀ (H : Heap) (locs : List Loc) (ls : Array Slot), va_P (dC, dI) vwCl [(h0, .inr (8, [.ref q_now, .ref q_text, .int v_typed, .ref q_row, .int (0 : Int32), .int (0 : Int32), .int v_length, .int v_at, .int v_wrong, .ref q_read, .ref q_ranks, .ref q_distinct, .ref q_proper, .int v_properMany, .ref q_line, .ref q_order, .int v_orderMany, .ref q_then, .ref q_bestOrder, .ref q_lineThen, .ref q_undos, .ref q_was, .int v_undoMany, .int v_drawn, .ref q_kept, .ref q_isKept])), (q_now, .inl (cJ, 120, .inr (.inl v_now))), (q_row, .inl (cJ, 64, .inr (.inl v_row)))] H → va_D A [(h0, .inr (8, [.ref q_now, .ref q_text, .int v_typed, .ref q_row, .int (0 : Int32), .int (0 : Int32), .int v_length, .int v_at, .int v_wrong, .ref q_read, .ref q_ranks, .ref q_distinct, .ref q_proper, .int v_properMany, .ref q_line, .ref q_order, .int v_orderMany, .ref q_then, .ref q_bestOrder, .ref q_lineThen, .ref q_undos, .ref q_was, .int v_undoMany, .int v_drawn, .ref q_kept, .ref q_isKept])), (q_now, .inl (cJ, 120, .inr (.inl v_now))), (q_row, .inl (cJ, 64, .inr (.inl v_row)))] → va_S A s.heap H locs → lv_has ls 5 [] → W p l e rm_X10_take s m args below meth c H locs 0 0 QQ (F0 m 85 ls [.long v_367, .ref h0]) := by
            intro H locs ls hP hD hS hl
            obtain ⟨o_386, hr_386, h⟩ := ob h
            have hPc := hP.sub (ws' := [(h0, .inr (8, [.ref q_now, .ref q_text, .int v_typed, .ref q_row, .int (0 : Int32), .int (0 : Int32), .int v_length, .int v_at, .int v_wrong, .ref q_read, .ref q_ranks, .ref q_distinct, .ref q_proper, .int v_properMany, .ref q_line, .ref q_order, .int v_orderMany, .ref q_then, .ref q_bestOrder, .ref q_lineThen, .ref q_undos, .ref q_was, .int v_undoMany, .int v_drawn, .ref q_kept, .ref q_isKept])), (q_row, .inl (cJ, 64, .inr (.inl v_row)))]) [0, 2] rfl
            have hDc := hD.sub (ws' := [(h0, .inr (8, [.ref q_now, .ref q_text, .int v_typed, .ref q_row, .int (0 : Int32), .int (0 : Int32), .int v_length, .int v_at, .int v_wrong, .ref q_read, .ref q_ranks, .ref q_distinct, .ref q_proper, .int v_properMany, .ref q_line, .ref q_order, .int v_orderMany, .ref q_then, .ref q_bestOrder, .ref q_lineThen, .ref q_undos, .ref q_was, .int v_undoMany, .int v_drawn, .ref q_kept, .ref q_isKept])), (q_row, .inl (cJ, 64, .inr (.inl v_row)))]) [0, 2] (by decide) rfl
            have hFc := va_free (wc := [(h0, .inr (8, [.ref q_now, .ref q_text, .int v_typed, .ref q_row, .int (0 : Int32), .int (0 : Int32), .int v_length, .int v_at, .int v_wrong, .ref q_read, .ref q_ranks, .ref q_distinct, .ref q_proper, .int v_properMany, .ref q_line, .ref q_order, .int v_orderMany, .ref q_then, .ref q_bestOrder, .ref q_lineThen, .ref q_undos, .ref q_was, .int v_undoMany, .int v_drawn, .ref q_kept, .ref q_isKept])), (q_row, .inl (cJ, 64, .inr (.inl v_row)))]) hD hS hA [0, 2] rfl
            refine va_callv (va_runV (As := [.long v_367]) (rest := []) ⟨hx, hb, hml, hown, hts⟩ (c_X10_tell l dC dI cB cC cI cJ cZ cT h0 q_now q_text q_row q_read q_ranks q_distinct q_proper q_line q_order q_then q_bestOrder q_lineThen q_undos q_was q_kept q_isKept H.size v_typed (0 : Int32) (0 : Int32) v_length v_at v_wrong v_properMany v_orderMany v_undoMany v_drawn v_row v_367 o_386 hr_386) (cwV 1 hts gX10_take_X10_tell rfl rfl rfl (by decide +kernel) ⟨Nat.le_of_ble_eq_true rfl, Nat.le_of_ble_eq_true rfl⟩) ⟨blW, va_recv hK hP (ci := 8) (q0 := 0) rfl rfl, fun U hU hW => ⟨rfl, by rw [hU], by rw [hU]; exact hPc, va_K.moved hW.alike hK, hDc.weaken (fun _ _ _ _ => trivial)⟩⟩ rfl rfl hl.1 rfl (lv_room (Nat.le_of_ble_eq_true rfl)) dX10_take_85 ⟨Nat.le_of_ble_eq_true rfl, Nat.le_of_ble_eq_true rfl⟩) hS (fun q _ h => hFc q h) hFc (fun u_386 t_386 H locs ht hvm e_386 hB hz1 hk1 hS => ?_)
            obtain ⟨hP1, -, hD1⟩ := hB
            rw [ht] at hP1
            obtain ⟨hP, hD⟩ := va_join (wr := [(q_now, .inl (cJ, 120, .inr (.inl v_now)))]) (w1 := [(h0, .inr (8, [.ref q_now, .ref q_text, .int v_typed, .ref q_row, .int o_386.1, .int (0 : Int32), .int v_length, .int v_at, .int v_wrong, .ref q_read, .ref q_ranks, .ref q_distinct, .ref q_proper, .int v_properMany, .ref q_line, .ref q_order, .int v_orderMany, .ref q_then, .ref q_bestOrder, .ref q_lineThen, .ref q_undos, .ref q_was, .int v_undoMany, .int v_drawn, .ref q_kept, .ref q_isKept])), (q_row, .inl (cJ, 64, .inr (.inl o_386.2)))]) hP hD [0, 2] [1] rfl rfl (by decide) (by decide) hk1 hFc hP1 hD1
            replace hP := hP.sub (ws' := [(h0, .inr (8, [.ref q_now, .ref q_text, .int v_typed, .ref q_row, .int o_386.1, .int (0 : Int32), .int v_length, .int v_at, .int v_wrong, .ref q_read, .ref q_ranks, .ref q_distinct, .ref q_proper, .int v_properMany, .ref q_line, .ref q_order, .int v_orderMany, .ref q_then, .ref q_bestOrder, .ref q_lineThen, .ref q_undos, .ref q_was, .int v_undoMany, .int v_drawn, .ref q_kept, .ref q_isKept])), (q_now, .inl (cJ, 120, .inr (.inl v_now))), (q_row, .inl (cJ, 64, .inr (.inl o_386.2)))]) [1, 0, 2] rfl
            replace hD := hD.sub (ws' := [(h0, .inr (8, [.ref q_now, .ref q_text, .int v_typed, .ref q_row, .int o_386.1, .int (0 : Int32), .int v_length, .int v_at, .int v_wrong, .ref q_read, .ref q_ranks, .ref q_distinct, .ref q_proper, .int v_properMany, .ref q_line, .ref q_order, .int v_orderMany, .ref q_then, .ref q_bestOrder, .ref q_lineThen, .ref q_undos, .ref q_was, .int v_undoMany, .int v_drawn, .ref q_kept, .ref q_isKept])), (q_now, .inl (cJ, 120, .inr (.inl v_now))), (q_row, .inl (cJ, 64, .inr (.inl o_386.2)))]) [1, 0, 2] (by decide) rfl
            refine lv_iconst (v := 0) hx hb dX10_take_88 (by decide) ?_
            rw [hQQ]
            have ho := Option.some.inj h
            subst ho
            exact W.iret hx hb hr (fun t ht hW => ⟨⟨_, (), rfl, rfl, by rw [ht]; exact hP, va_K.moved hW.alike hK, hD⟩, hS.F ht⟩) hS.2.2 dX10_take_89
          replace h := hv_367
          refine lv_icmp_ne (tgt := 70) hx hb dX10_take_58 (by decide) (fun c_377 => ?_) (fun c_377 => ?_)
          · replace h := on c_377 h
            refine lv_aload_n hx hb dX10_take_70 rfl (lv_at hl 1 rfl) ?_
            refine lv_iload_n hx hb dX10_take_71 rfl (lv_at hl 2 rfl) ?_
            refine lv_iload_n hx hb dX10_take_72 rfl (lv_at hl 3 rfl) ?_
            obtain ⟨o_378, hr_378, h⟩ := ob h
            refine vp_callSl (va_Run.run (va_runV (As := [.int x1, .int x2]) (rest := [.ref h0]) ⟨hx, hb, hml, hown, hts⟩ (c_X10_cell l dC dI cB cC cI cJ cZ cT h0 q_now q_text q_row q_read q_ranks q_distinct q_proper q_line q_order q_then q_bestOrder q_lineThen q_undos q_was q_kept q_isKept v_typed (0 : Int32) (0 : Int32) v_length v_at v_wrong v_properMany v_orderMany v_undoMany v_drawn v_now x1 x2 o_378 hr_378) (cwV 2 hts gX10_take_X10_cell rfl rfl rfl (by decide +kernel) ⟨Nat.le_of_ble_eq_true rfl, Nat.le_of_ble_eq_true rfl⟩) ⟨blR, va_recv hK hP (ci := 8) (q0 := 0) rfl rfl, fun U hU hW => ⟨rfl, by rw [hU]; exact hP.sub [0, 1] rfl, va_K.moved hW.alike hK⟩⟩ rfl rfl hl.1 rfl (lv_room (Nat.le_of_ble_eq_true rfl)) dX10_take_73 ⟨Nat.le_of_ble_eq_true rfl, Nat.le_of_ble_eq_true rfl⟩)) (fun r_378 e_378 => ?_)
            subst e_378
            refine lv_aload_n hx hb dX10_take_76 rfl (lv_at hl 1 rfl) ?_
            refine lv_iload_n hx hb dX10_take_77 rfl (lv_at hl 2 rfl) ?_
            obtain ⟨o_380, hr_380, h⟩ := ob h
            refine vp_callSi (va_Run.run (va_runV (As := [.int x1]) (rest := [.long o_378, .ref h0]) ⟨hx, hb, hml, hown, hts⟩ (c_X10_kindOf l dC dI cB cC cI cJ cZ cT h0 q_now q_text q_row q_read q_ranks q_distinct q_proper q_line q_order q_then q_bestOrder q_lineThen q_undos q_was q_kept q_isKept v_typed (0 : Int32) (0 : Int32) v_length v_at v_wrong v_properMany v_orderMany v_undoMany v_drawn v_now x1 o_380 hr_380) (cwV 1 hts gX10_take_X10_kindOf rfl rfl rfl (by decide +kernel) ⟨Nat.le_of_ble_eq_true rfl, Nat.le_of_ble_eq_true rfl⟩) ⟨blR, va_recv hK hP (ci := 8) (q0 := 0) rfl rfl, fun U hU hW => ⟨rfl, by rw [hU]; exact hP.sub [0, 1] rfl, va_K.moved hW.alike hK⟩⟩ rfl rfl hl.1 rfl (lv_room (Nat.le_of_ble_eq_true rfl)) dX10_take_78 ⟨Nat.le_of_ble_eq_true rfl, Nat.le_of_ble_eq_true rfl⟩)) (fun r_380 e_380 => ?_)
            subst e_380
            refine lv_iload_n hx hb dX10_take_81 rfl (lv_at hl 4 rfl) ?_
            obtain ⟨o_382, hr_382, h⟩ := ob h
            refine vp_callSl (va_Run.run (va_runS (As := [.long o_378, .int o_380, .int x3]) (rest := [.ref h0]) ⟨hx, hb, hml, hown, hts⟩ (c_X10_widened l dC dI cB cC cI cJ cZ cT o_378 o_380 x3 o_382 hr_382) (va_cwS 3 hts gX10_take_X10_widened rfl rfl rfl (by decide +kernel) ⟨Nat.le_of_ble_eq_true rfl, Nat.le_of_ble_eq_true rfl⟩) ⟨blT, fun U hU hW => ⟨rfl, trivial⟩⟩ rfl rfl hl.1 rfl (lv_room (Nat.le_of_ble_eq_true rfl)) dX10_take_82 ⟨Nat.le_of_ble_eq_true rfl, Nat.le_of_ble_eq_true rfl⟩)) (fun r_382 e_382 => ?_)
            subst e_382
            have ho := Option.some.inj h
            subst ho
            exact J_367 H _ ls hP hD hS (lv_sub hl [] rfl)
          · replace h := op c_377 h
            refine lv_aload_n hx hb dX10_take_61 rfl (lv_at hl 1 rfl) ?_
            refine lv_iload_n hx hb dX10_take_62 rfl (lv_at hl 2 rfl) ?_
            refine lv_iload_n hx hb dX10_take_63 rfl (lv_at hl 3 rfl) ?_
            obtain ⟨o_384, hr_384, h⟩ := ob h
            refine vp_callSl (va_Run.run (va_runV (As := [.int x1, .int x2]) (rest := [.ref h0]) ⟨hx, hb, hml, hown, hts⟩ (c_X10_cell l dC dI cB cC cI cJ cZ cT h0 q_now q_text q_row q_read q_ranks q_distinct q_proper q_line q_order q_then q_bestOrder q_lineThen q_undos q_was q_kept q_isKept v_typed (0 : Int32) (0 : Int32) v_length v_at v_wrong v_properMany v_orderMany v_undoMany v_drawn v_now x1 x2 o_384 hr_384) (cwV 2 hts gX10_take_X10_cell rfl rfl rfl (by decide +kernel) ⟨Nat.le_of_ble_eq_true rfl, Nat.le_of_ble_eq_true rfl⟩) ⟨blR, va_recv hK hP (ci := 8) (q0 := 0) rfl rfl, fun U hU hW => ⟨rfl, by rw [hU]; exact hP.sub [0, 1] rfl, va_K.moved hW.alike hK⟩⟩ rfl rfl hl.1 rfl (lv_room (Nat.le_of_ble_eq_true rfl)) dX10_take_64 ⟨Nat.le_of_ble_eq_true rfl, Nat.le_of_ble_eq_true rfl⟩)) (fun r_384 e_384 => ?_)
            subst e_384
            refine lv_goto (tgt := 85) hx hb dX10_take_67 (by decide) ?_
            have ho := Option.some.inj h
            subst ho
            exact J_367 H _ ls hP hD hS (lv_sub hl [] rfl)
        · replace h := on c_366 h
          refine lv_iload hx hb dX10_take_45 (lv_at hl 0 rfl) ?_
          refine lv_ineg hx hb dX10_take_47 ?_
          rw [hQQ]
          have ho := Option.some.inj h
          subst ho
          exact W.iret hx hb hr (fun t ht hW => ⟨⟨_, (), rfl, rfl, by rw [ht]; exact hP, va_K.moved hW.alike hK, hD⟩, hS.F ht⟩) hS.2.2 dX10_take_48
      · replace h := on c_363 h
        refine lv_iconst (v := -1) hx hb dX10_take_29 (by decide) ?_
        rw [hQQ]
        have ho := Option.some.inj h
        subst ho
        exact W.iret hx hb hr (fun t ht hW => ⟨⟨_, (), rfl, rfl, by rw [ht]; exact hP, va_K.moved hW.alike hK, hD⟩, hS.F ht⟩) hS.2.2 dX10_take_30
def f_X10_length (v_now : Nat → Int64) (x1 : Int32) : Option (Int32 × Int32) :=
  ((f_X10_isColumn v_now x1).bind (fun o_388 => (if (b2i o_388) = 0 then (some ((-1 : Int32), (0 : Int32))) else ((f_X10_whyNoRow v_now x1).bind (fun o_391 => (if o_391 ≤ 0 then ((f_X10_rows v_now).bind (fun o_394 => (some (o_394, (0 : Int32))))) else ((f_X10_whyNoRow v_now x1).bind (fun o_396 => (some ((-o_396), (0 : Int32)))))))))))
abbrev rm_X10_length : Room := { frames := 2, cells := 0, slots := 0, locals := 43 }
set_option maxHeartbeats 4000000 in
set_option maxRecDepth 100000 in
theorem c_X10_length (l : Launch) (dC : Nat → ClassId) (dI : Nat → Nat → Nat) (cB cC cI cJ cZ cT : ClassId) (h0 q_now q_text q_row q_read q_ranks q_distinct q_proper q_line q_order q_then q_bestOrder q_lineThen q_undos q_was q_kept q_isKept : Nat) (sz : Nat) (v_typed : Int32) (v_rowMany : Int32) (v_thrown : Int32) (v_length : Int32) (v_at : Int32) (v_wrong : Int32) (v_properMany : Int32) (v_orderMany : Int32) (v_undoMany : Int32) (v_drawn : Int32) (v_now : Nat → Int64) (x1 : Int32) (o : (Int32 × Int32)) (hf : f_X10_length v_now x1 = some o) : Met l yX10_length wsX10_length rm_X10_length (va_Pc [.ref h0, .int x1] (fun U => U.heap.size = sz ∧ va_P (dC, dI) vwCl [(h0, .inr (8, [.ref q_now, .ref q_text, .int v_typed, .ref q_row, .int v_rowMany, .int v_thrown, .int v_length, .int v_at, .int v_wrong, .ref q_read, .ref q_ranks, .ref q_distinct, .ref q_proper, .int v_properMany, .ref q_line, .ref q_order, .int v_orderMany, .ref q_then, .ref q_bestOrder, .ref q_lineThen, .ref q_undos, .ref q_was, .int v_undoMany, .int v_drawn, .ref q_kept, .ref q_isKept])), (q_now, .inl (cJ, 120, .inr (.inl v_now)))] U.heap ∧ va_K (dC, dI) vwCl (tyA cB cC cI cJ cZ cT) U ∧ va_D (fun _ => True) [(h0, .inr (8, [.ref q_now, .ref q_text, .int v_typed, .ref q_row, .int v_rowMany, .int v_thrown, .int v_length, .int v_at, .int v_wrong, .ref q_read, .ref q_ranks, .ref q_distinct, .ref q_proper, .int v_properMany, .ref q_line, .ref q_order, .int v_orderMany, .ref q_then, .ref q_bestOrder, .ref q_lineThen, .ref q_undos, .ref q_was, .int v_undoMany, .int v_drawn, .ref q_kept, .ref q_isKept])), (q_now, .inl (cJ, 120, .inr (.inl v_now)))])) (va_Qi (fun (r : Int32) (_ : Unit) => o.1 = r) (fun _ t => va_P (dC, dI) vwCl [(h0, .inr (8, [.ref q_now, .ref q_text, .int v_typed, .ref q_row, .int v_rowMany, .int o.2, .int v_length, .int v_at, .int v_wrong, .ref q_read, .ref q_ranks, .ref q_distinct, .ref q_proper, .int v_properMany, .ref q_line, .ref q_order, .int v_orderMany, .ref q_then, .ref q_bestOrder, .ref q_lineThen, .ref q_undos, .ref q_was, .int v_undoMany, .int v_drawn, .ref q_kept, .ref q_isKept])), (q_now, .inl (cJ, 120, .inr (.inl v_now)))] t.heap ∧ va_K (dC, dI) vwCl (tyA cB cC cI cJ cZ cT) t ∧ va_D (va_A [(h0, .inr (8, [.ref q_now, .ref q_text, .int v_typed, .ref q_row, .int v_rowMany, .int v_thrown, .int v_length, .int v_at, .int v_wrong, .ref q_read, .ref q_ranks, .ref q_distinct, .ref q_proper, .int v_properMany, .ref q_line, .ref q_order, .int v_orderMany, .ref q_then, .ref q_bestOrder, .ref q_lineThen, .ref q_undos, .ref q_was, .int v_undoMany, .int v_drawn, .ref q_kept, .ref q_isKept])), (q_now, .inl (cJ, 120, .inr (.inl v_now)))] sz) [(h0, .inr (8, [.ref q_now, .ref q_text, .int v_typed, .ref q_row, .int v_rowMany, .int o.2, .int v_length, .int v_at, .int v_wrong, .ref q_read, .ref q_ranks, .ref q_distinct, .ref q_proper, .int v_properMany, .ref q_line, .ref q_order, .int v_orderMany, .ref q_then, .ref q_bestOrder, .ref q_lineThen, .ref q_undos, .ref q_was, .int v_undoMany, .int v_drawn, .ref q_kept, .ref q_isKept])), (q_now, .inl (cJ, 120, .inr (.inl v_now)))]) (va_A [(h0, .inr (8, [.ref q_now, .ref q_text, .int v_typed, .ref q_row, .int v_rowMany, .int v_thrown, .int v_length, .int v_at, .int v_wrong, .ref q_read, .ref q_ranks, .ref q_distinct, .ref q_proper, .int v_properMany, .ref q_line, .ref q_order, .int v_orderMany, .ref q_then, .ref q_bestOrder, .ref q_lineThen, .ref q_undos, .ref q_was, .int v_undoMany, .int v_drawn, .ref q_kept, .ref q_isKept])), (q_now, .inl (cJ, 120, .inr (.inl v_now)))] sz)) 0 0 (va_A [(h0, .inr (8, [.ref q_now, .ref q_text, .int v_typed, .ref q_row, .int v_rowMany, .int v_thrown, .int v_length, .int v_at, .int v_wrong, .ref q_read, .ref q_ranks, .ref q_distinct, .ref q_proper, .int v_properMany, .ref q_line, .ref q_order, .int v_orderMany, .ref q_then, .ref q_bestOrder, .ref q_lineThen, .ref q_undos, .ref q_was, .int v_undoMany, .int v_drawn, .ref q_kept, .ref q_isKept])), (q_now, .inl (cJ, 120, .inr (.inl v_now)))] sz) := by
  refine Met.ofW (cc := cX10_length) (maxL := 2) (ret := (some .int)) (by decide) rfl ?_
  intro p e s m args below meth c s₁ B hml hv
  obtain ⟨hav, hsz, hP, hK, hD0⟩ := hv
  have hx := B.exec
  have hb := B.bytes
  have hr := B.returns
  have hts := atoms_spec (ws := wsX10_length) B.pre
  have hown : s.vm.findClass RX10 = some m.cls := findClass_of_methodNamed B.named
  have hlocks := B.notSynchronized
  subst hsz
  have hD := hD0.self (sz := s.heap.size)
  generalize hAe : va_A [(h0, .inr (8, [.ref q_now, .ref q_text, .int v_typed, .ref q_row, .int v_rowMany, .int v_thrown, .int v_length, .int v_at, .int v_wrong, .ref q_read, .ref q_ranks, .ref q_distinct, .ref q_proper, .int v_properMany, .ref q_line, .ref q_order, .int v_orderMany, .ref q_then, .ref q_bestOrder, .ref q_lineThen, .ref q_undos, .ref q_was, .int v_undoMany, .int v_drawn, .ref q_kept, .ref q_isKept])), (q_now, .inl (cJ, 120, .inr (.inl v_now)))] s.heap.size = A at hD ⊢
  have hA : ∀ q : Nat, s.heap.size ≤ q → A q := fun q h => by rw [← hAe]; exact Or.inr h
  have hS : va_S A s.heap s.heap [] := va_S.rf
  refine wstart (rm := rm_X10_length) hav (Nat.le_of_ble_eq_true rfl) (fun QQ ls hQQ hl => ?_)
  have hl : lv_has ls 2 [(0, .ref h0), (1, .int x1)] := hl
  have hi_X10 : ∀ w ∈ u_ws RX10 TX10 26, w ∈ wsX10_length := by decide +kernel
  have h := hf
  unfold f_X10_length at h
  refine lv_aload_n hx hb dX10_length_0 rfl (lv_at hl 0 rfl) ?_
  refine lv_iconst (v := 0) hx hb dX10_length_1 (by decide) ?_
  refine va_put (D := (dC, dI)) (ci := 8) (v := .int (0 : Int32)) (ty := .int) (C := RX10) (T := TX10) (N := 26) hx hb hts hi_X10 tyX10 tyX10_ok nmX10 hown hK hP hD hS 0 rfl rfl 5 (by decide) (hts _ (List.mem_of_getElem? (i := 1) rfl)) (fun _ h9 => h9) rfl (by decide +kernel) rfl rfl (Nat.le_of_ble_eq_true rfl) dX10_length_2 (fun H locs hP hD hS => ?_)
  replace hP : va_P (dC, dI) vwCl [(h0, .inr (8, [.ref q_now, .ref q_text, .int v_typed, .ref q_row, .int v_rowMany, .int (0 : Int32), .int v_length, .int v_at, .int v_wrong, .ref q_read, .ref q_ranks, .ref q_distinct, .ref q_proper, .int v_properMany, .ref q_line, .ref q_order, .int v_orderMany, .ref q_then, .ref q_bestOrder, .ref q_lineThen, .ref q_undos, .ref q_was, .int v_undoMany, .int v_drawn, .ref q_kept, .ref q_isKept])), (q_now, .inl (cJ, 120, .inr (.inl v_now)))] H := hP
  replace hD : va_D A [(h0, .inr (8, [.ref q_now, .ref q_text, .int v_typed, .ref q_row, .int v_rowMany, .int (0 : Int32), .int v_length, .int v_at, .int v_wrong, .ref q_read, .ref q_ranks, .ref q_distinct, .ref q_proper, .int v_properMany, .ref q_line, .ref q_order, .int v_orderMany, .ref q_then, .ref q_bestOrder, .ref q_lineThen, .ref q_undos, .ref q_was, .int v_undoMany, .int v_drawn, .ref q_kept, .ref q_isKept])), (q_now, .inl (cJ, 120, .inr (.inl v_now)))] := hD
  refine lv_aload_n hx hb dX10_length_5 rfl (lv_at hl 0 rfl) ?_
  refine lv_iload_n hx hb dX10_length_6 rfl (lv_at hl 1 rfl) ?_
  obtain ⟨o_388, hr_388, h⟩ := ob h
  refine vp_callSi (va_Run.run (va_runV (As := [.int x1]) (rest := []) ⟨hx, hb, hml, hown, hts⟩ (c_X10_isColumn l dC dI cB cC cI cJ cZ cT h0 q_now q_text q_row q_read q_ranks q_distinct q_proper q_line q_order q_then q_bestOrder q_lineThen q_undos q_was q_kept q_isKept v_typed v_rowMany (0 : Int32) v_length v_at v_wrong v_properMany v_orderMany v_undoMany v_drawn v_now x1 o_388 hr_388) (cwV 1 hts gX10_length_X10_isColumn rfl rfl rfl (by decide +kernel) ⟨Nat.le_of_ble_eq_true rfl, Nat.le_of_ble_eq_true rfl⟩) ⟨blR, va_recv hK hP (ci := 8) (q0 := 0) rfl rfl, fun U hU hW => ⟨rfl, by rw [hU]; exact hP.sub [0, 1] rfl, va_K.moved hW.alike hK⟩⟩ rfl rfl hl.1 rfl (lv_room (Nat.le_of_ble_eq_true rfl)) dX10_length_7 ⟨Nat.le_of_ble_eq_true rfl, Nat.le_of_ble_eq_true rfl⟩)) (fun r_388 e_388 => ?_)
  subst e_388
  refine lv_if_ne (tgt := 15) hx hb dX10_length_10 (by decide) (fun c_390 => ?_) (fun c_390 => ?_)
  · replace h := on c_390 h
    refine lv_aload_n hx hb dX10_length_15 rfl (lv_at hl 0 rfl) ?_
    refine lv_iload_n hx hb dX10_length_16 rfl (lv_at hl 1 rfl) ?_
    obtain ⟨o_391, hr_391, h⟩ := ob h
    refine vp_callSi (va_Run.run (va_runV (As := [.int x1]) (rest := []) ⟨hx, hb, hml, hown, hts⟩ (c_X10_whyNoRow l dC dI cB cC cI cJ cZ cT h0 q_now q_text q_row q_read q_ranks q_distinct q_proper q_line q_order q_then q_bestOrder q_lineThen q_undos q_was q_kept q_isKept v_typed v_rowMany (0 : Int32) v_length v_at v_wrong v_properMany v_orderMany v_undoMany v_drawn v_now x1 o_391 hr_391) (cwV 1 hts gX10_length_X10_whyNoRow rfl rfl rfl (by decide +kernel) ⟨Nat.le_of_ble_eq_true rfl, Nat.le_of_ble_eq_true rfl⟩) ⟨blR, va_recv hK hP (ci := 8) (q0 := 0) rfl rfl, fun U hU hW => ⟨rfl, by rw [hU]; exact hP.sub [0, 1] rfl, va_K.moved hW.alike hK⟩⟩ rfl rfl hl.1 rfl (lv_room (Nat.le_of_ble_eq_true rfl)) dX10_length_17 ⟨Nat.le_of_ble_eq_true rfl, Nat.le_of_ble_eq_true rfl⟩)) (fun r_391 e_391 => ?_)
    subst e_391
    refine lv_if_le (tgt := 32) hx hb dX10_length_20 (by decide) (fun c_393 => ?_) (fun c_393 => ?_)
    · replace h := op c_393 h
      refine lv_aload_n hx hb dX10_length_32 rfl (lv_at hl 0 rfl) ?_
      obtain ⟨o_394, hr_394, h⟩ := ob h
      refine vp_callSi (va_Run.run (va_runV (As := []) (rest := []) ⟨hx, hb, hml, hown, hts⟩ (c_X10_rows l dC dI cB cC cI cJ cZ cT h0 q_now q_text q_row q_read q_ranks q_distinct q_proper q_line q_order q_then q_bestOrder q_lineThen q_undos q_was q_kept q_isKept v_typed v_rowMany (0 : Int32) v_length v_at v_wrong v_properMany v_orderMany v_undoMany v_drawn v_now o_394 hr_394) (cwV 0 hts gX10_length_X10_rows rfl rfl rfl (by decide +kernel) ⟨Nat.le_of_ble_eq_true rfl, Nat.le_of_ble_eq_true rfl⟩) ⟨blR, va_recv hK hP (ci := 8) (q0 := 0) rfl rfl, fun U hU hW => ⟨rfl, by rw [hU]; exact hP.sub [0, 1] rfl, va_K.moved hW.alike hK⟩⟩ rfl rfl hl.1 rfl (lv_room (Nat.le_of_ble_eq_true rfl)) dX10_length_33 ⟨Nat.le_of_ble_eq_true rfl, Nat.le_of_ble_eq_true rfl⟩)) (fun r_394 e_394 => ?_)
      subst e_394
      rw [hQQ]
      have ho := Option.some.inj h
      subst ho
      exact W.iret hx hb hr (fun t ht hW => ⟨⟨_, (), rfl, rfl, by rw [ht]; exact hP, va_K.moved hW.alike hK, hD⟩, hS.F ht⟩) hS.2.2 dX10_length_36
    · replace h := on c_393 h
      refine lv_aload_n hx hb dX10_length_23 rfl (lv_at hl 0 rfl) ?_
      refine lv_iload_n hx hb dX10_length_24 rfl (lv_at hl 1 rfl) ?_
      obtain ⟨o_396, hr_396, h⟩ := ob h
      refine vp_callSi (va_Run.run (va_runV (As := [.int x1]) (rest := []) ⟨hx, hb, hml, hown, hts⟩ (c_X10_whyNoRow l dC dI cB cC cI cJ cZ cT h0 q_now q_text q_row q_read q_ranks q_distinct q_proper q_line q_order q_then q_bestOrder q_lineThen q_undos q_was q_kept q_isKept v_typed v_rowMany (0 : Int32) v_length v_at v_wrong v_properMany v_orderMany v_undoMany v_drawn v_now x1 o_396 hr_396) (cwV 1 hts gX10_length_X10_whyNoRow rfl rfl rfl (by decide +kernel) ⟨Nat.le_of_ble_eq_true rfl, Nat.le_of_ble_eq_true rfl⟩) ⟨blR, va_recv hK hP (ci := 8) (q0 := 0) rfl rfl, fun U hU hW => ⟨rfl, by rw [hU]; exact hP.sub [0, 1] rfl, va_K.moved hW.alike hK⟩⟩ rfl rfl hl.1 rfl (lv_room (Nat.le_of_ble_eq_true rfl)) dX10_length_25 ⟨Nat.le_of_ble_eq_true rfl, Nat.le_of_ble_eq_true rfl⟩)) (fun r_396 e_396 => ?_)
      subst e_396
      refine lv_ineg hx hb dX10_length_28 ?_
      refine lv_goto (tgt := 36) hx hb dX10_length_29 (by decide) ?_
      rw [hQQ]
      have ho := Option.some.inj h
      subst ho
      exact W.iret hx hb hr (fun t ht hW => ⟨⟨_, (), rfl, rfl, by rw [ht]; exact hP, va_K.moved hW.alike hK, hD⟩, hS.F ht⟩) hS.2.2 dX10_length_36
  · replace h := op c_390 h
    refine lv_iconst (v := -1) hx hb dX10_length_13 (by decide) ?_
    rw [hQQ]
    have ho := Option.some.inj h
    subst ho
    exact W.iret hx hb hr (fun t ht hW => ⟨⟨_, (), rfl, rfl, by rw [ht]; exact hP, va_K.moved hW.alike hK, hD⟩, hS.F ht⟩) hS.2.2 dX10_length_14
def f_X10_kind (v_now : Nat → Int64) (x1 : Int32) : Option (Int32 × Int32) :=
  ((f_X10_isColumn v_now x1).bind (fun o_398 => (if (b2i o_398) = 0 then (some ((-1 : Int32), (0 : Int32))) else ((f_X10_kindOf v_now x1).bind (fun o_401 => (some (o_401, (0 : Int32))))))))
abbrev rm_X10_kind : Room := { frames := 2, cells := 0, slots := 0, locals := 43 }
set_option maxHeartbeats 4000000 in
set_option maxRecDepth 100000 in
theorem c_X10_kind (l : Launch) (dC : Nat → ClassId) (dI : Nat → Nat → Nat) (cB cC cI cJ cZ cT : ClassId) (h0 q_now q_text q_row q_read q_ranks q_distinct q_proper q_line q_order q_then q_bestOrder q_lineThen q_undos q_was q_kept q_isKept : Nat) (sz : Nat) (v_typed : Int32) (v_rowMany : Int32) (v_thrown : Int32) (v_length : Int32) (v_at : Int32) (v_wrong : Int32) (v_properMany : Int32) (v_orderMany : Int32) (v_undoMany : Int32) (v_drawn : Int32) (v_now : Nat → Int64) (x1 : Int32) (o : (Int32 × Int32)) (hf : f_X10_kind v_now x1 = some o) : Met l yX10_kind wsX10_kind rm_X10_kind (va_Pc [.ref h0, .int x1] (fun U => U.heap.size = sz ∧ va_P (dC, dI) vwCl [(h0, .inr (8, [.ref q_now, .ref q_text, .int v_typed, .ref q_row, .int v_rowMany, .int v_thrown, .int v_length, .int v_at, .int v_wrong, .ref q_read, .ref q_ranks, .ref q_distinct, .ref q_proper, .int v_properMany, .ref q_line, .ref q_order, .int v_orderMany, .ref q_then, .ref q_bestOrder, .ref q_lineThen, .ref q_undos, .ref q_was, .int v_undoMany, .int v_drawn, .ref q_kept, .ref q_isKept])), (q_now, .inl (cJ, 120, .inr (.inl v_now)))] U.heap ∧ va_K (dC, dI) vwCl (tyA cB cC cI cJ cZ cT) U ∧ va_D (fun _ => True) [(h0, .inr (8, [.ref q_now, .ref q_text, .int v_typed, .ref q_row, .int v_rowMany, .int v_thrown, .int v_length, .int v_at, .int v_wrong, .ref q_read, .ref q_ranks, .ref q_distinct, .ref q_proper, .int v_properMany, .ref q_line, .ref q_order, .int v_orderMany, .ref q_then, .ref q_bestOrder, .ref q_lineThen, .ref q_undos, .ref q_was, .int v_undoMany, .int v_drawn, .ref q_kept, .ref q_isKept])), (q_now, .inl (cJ, 120, .inr (.inl v_now)))])) (va_Qi (fun (r : Int32) (_ : Unit) => o.1 = r) (fun _ t => va_P (dC, dI) vwCl [(h0, .inr (8, [.ref q_now, .ref q_text, .int v_typed, .ref q_row, .int v_rowMany, .int o.2, .int v_length, .int v_at, .int v_wrong, .ref q_read, .ref q_ranks, .ref q_distinct, .ref q_proper, .int v_properMany, .ref q_line, .ref q_order, .int v_orderMany, .ref q_then, .ref q_bestOrder, .ref q_lineThen, .ref q_undos, .ref q_was, .int v_undoMany, .int v_drawn, .ref q_kept, .ref q_isKept])), (q_now, .inl (cJ, 120, .inr (.inl v_now)))] t.heap ∧ va_K (dC, dI) vwCl (tyA cB cC cI cJ cZ cT) t ∧ va_D (va_A [(h0, .inr (8, [.ref q_now, .ref q_text, .int v_typed, .ref q_row, .int v_rowMany, .int v_thrown, .int v_length, .int v_at, .int v_wrong, .ref q_read, .ref q_ranks, .ref q_distinct, .ref q_proper, .int v_properMany, .ref q_line, .ref q_order, .int v_orderMany, .ref q_then, .ref q_bestOrder, .ref q_lineThen, .ref q_undos, .ref q_was, .int v_undoMany, .int v_drawn, .ref q_kept, .ref q_isKept])), (q_now, .inl (cJ, 120, .inr (.inl v_now)))] sz) [(h0, .inr (8, [.ref q_now, .ref q_text, .int v_typed, .ref q_row, .int v_rowMany, .int o.2, .int v_length, .int v_at, .int v_wrong, .ref q_read, .ref q_ranks, .ref q_distinct, .ref q_proper, .int v_properMany, .ref q_line, .ref q_order, .int v_orderMany, .ref q_then, .ref q_bestOrder, .ref q_lineThen, .ref q_undos, .ref q_was, .int v_undoMany, .int v_drawn, .ref q_kept, .ref q_isKept])), (q_now, .inl (cJ, 120, .inr (.inl v_now)))]) (va_A [(h0, .inr (8, [.ref q_now, .ref q_text, .int v_typed, .ref q_row, .int v_rowMany, .int v_thrown, .int v_length, .int v_at, .int v_wrong, .ref q_read, .ref q_ranks, .ref q_distinct, .ref q_proper, .int v_properMany, .ref q_line, .ref q_order, .int v_orderMany, .ref q_then, .ref q_bestOrder, .ref q_lineThen, .ref q_undos, .ref q_was, .int v_undoMany, .int v_drawn, .ref q_kept, .ref q_isKept])), (q_now, .inl (cJ, 120, .inr (.inl v_now)))] sz)) 0 0 (va_A [(h0, .inr (8, [.ref q_now, .ref q_text, .int v_typed, .ref q_row, .int v_rowMany, .int v_thrown, .int v_length, .int v_at, .int v_wrong, .ref q_read, .ref q_ranks, .ref q_distinct, .ref q_proper, .int v_properMany, .ref q_line, .ref q_order, .int v_orderMany, .ref q_then, .ref q_bestOrder, .ref q_lineThen, .ref q_undos, .ref q_was, .int v_undoMany, .int v_drawn, .ref q_kept, .ref q_isKept])), (q_now, .inl (cJ, 120, .inr (.inl v_now)))] sz) := by
  refine Met.ofW (cc := cX10_kind) (maxL := 2) (ret := (some .int)) (by decide) rfl ?_
  intro p e s m args below meth c s₁ B hml hv
  obtain ⟨hav, hsz, hP, hK, hD0⟩ := hv
  have hx := B.exec
  have hb := B.bytes
  have hr := B.returns
  have hts := atoms_spec (ws := wsX10_kind) B.pre
  have hown : s.vm.findClass RX10 = some m.cls := findClass_of_methodNamed B.named
  have hlocks := B.notSynchronized
  subst hsz
  have hD := hD0.self (sz := s.heap.size)
  generalize hAe : va_A [(h0, .inr (8, [.ref q_now, .ref q_text, .int v_typed, .ref q_row, .int v_rowMany, .int v_thrown, .int v_length, .int v_at, .int v_wrong, .ref q_read, .ref q_ranks, .ref q_distinct, .ref q_proper, .int v_properMany, .ref q_line, .ref q_order, .int v_orderMany, .ref q_then, .ref q_bestOrder, .ref q_lineThen, .ref q_undos, .ref q_was, .int v_undoMany, .int v_drawn, .ref q_kept, .ref q_isKept])), (q_now, .inl (cJ, 120, .inr (.inl v_now)))] s.heap.size = A at hD ⊢
  have hA : ∀ q : Nat, s.heap.size ≤ q → A q := fun q h => by rw [← hAe]; exact Or.inr h
  have hS : va_S A s.heap s.heap [] := va_S.rf
  refine wstart (rm := rm_X10_kind) hav (Nat.le_of_ble_eq_true rfl) (fun QQ ls hQQ hl => ?_)
  have hl : lv_has ls 2 [(0, .ref h0), (1, .int x1)] := hl
  have hi_X10 : ∀ w ∈ u_ws RX10 TX10 26, w ∈ wsX10_kind := by decide +kernel
  have h := hf
  unfold f_X10_kind at h
  refine lv_aload_n hx hb dX10_kind_0 rfl (lv_at hl 0 rfl) ?_
  refine lv_iconst (v := 0) hx hb dX10_kind_1 (by decide) ?_
  refine va_put (D := (dC, dI)) (ci := 8) (v := .int (0 : Int32)) (ty := .int) (C := RX10) (T := TX10) (N := 26) hx hb hts hi_X10 tyX10 tyX10_ok nmX10 hown hK hP hD hS 0 rfl rfl 5 (by decide) (hts _ (List.mem_of_getElem? (i := 1) rfl)) (fun _ h9 => h9) rfl (by decide +kernel) rfl rfl (Nat.le_of_ble_eq_true rfl) dX10_kind_2 (fun H locs hP hD hS => ?_)
  replace hP : va_P (dC, dI) vwCl [(h0, .inr (8, [.ref q_now, .ref q_text, .int v_typed, .ref q_row, .int v_rowMany, .int (0 : Int32), .int v_length, .int v_at, .int v_wrong, .ref q_read, .ref q_ranks, .ref q_distinct, .ref q_proper, .int v_properMany, .ref q_line, .ref q_order, .int v_orderMany, .ref q_then, .ref q_bestOrder, .ref q_lineThen, .ref q_undos, .ref q_was, .int v_undoMany, .int v_drawn, .ref q_kept, .ref q_isKept])), (q_now, .inl (cJ, 120, .inr (.inl v_now)))] H := hP
  replace hD : va_D A [(h0, .inr (8, [.ref q_now, .ref q_text, .int v_typed, .ref q_row, .int v_rowMany, .int (0 : Int32), .int v_length, .int v_at, .int v_wrong, .ref q_read, .ref q_ranks, .ref q_distinct, .ref q_proper, .int v_properMany, .ref q_line, .ref q_order, .int v_orderMany, .ref q_then, .ref q_bestOrder, .ref q_lineThen, .ref q_undos, .ref q_was, .int v_undoMany, .int v_drawn, .ref q_kept, .ref q_isKept])), (q_now, .inl (cJ, 120, .inr (.inl v_now)))] := hD
  refine lv_aload_n hx hb dX10_kind_5 rfl (lv_at hl 0 rfl) ?_
  refine lv_iload_n hx hb dX10_kind_6 rfl (lv_at hl 1 rfl) ?_
  obtain ⟨o_398, hr_398, h⟩ := ob h
  refine vp_callSi (va_Run.run (va_runV (As := [.int x1]) (rest := []) ⟨hx, hb, hml, hown, hts⟩ (c_X10_isColumn l dC dI cB cC cI cJ cZ cT h0 q_now q_text q_row q_read q_ranks q_distinct q_proper q_line q_order q_then q_bestOrder q_lineThen q_undos q_was q_kept q_isKept v_typed v_rowMany (0 : Int32) v_length v_at v_wrong v_properMany v_orderMany v_undoMany v_drawn v_now x1 o_398 hr_398) (cwV 1 hts gX10_kind_X10_isColumn rfl rfl rfl (by decide +kernel) ⟨Nat.le_of_ble_eq_true rfl, Nat.le_of_ble_eq_true rfl⟩) ⟨blR, va_recv hK hP (ci := 8) (q0 := 0) rfl rfl, fun U hU hW => ⟨rfl, by rw [hU]; exact hP.sub [0, 1] rfl, va_K.moved hW.alike hK⟩⟩ rfl rfl hl.1 rfl (lv_room (Nat.le_of_ble_eq_true rfl)) dX10_kind_7 ⟨Nat.le_of_ble_eq_true rfl, Nat.le_of_ble_eq_true rfl⟩)) (fun r_398 e_398 => ?_)
  subst e_398
  refine lv_if_eq (tgt := 21) hx hb dX10_kind_10 (by decide) (fun c_400 => ?_) (fun c_400 => ?_)
  · replace h := op c_400 h
    refine lv_iconst (v := -1) hx hb dX10_kind_21 (by decide) ?_
    rw [hQQ]
    have ho := Option.some.inj h
    subst ho
    exact W.iret hx hb hr (fun t ht hW => ⟨⟨_, (), rfl, rfl, by rw [ht]; exact hP, va_K.moved hW.alike hK, hD⟩, hS.F ht⟩) hS.2.2 dX10_kind_22
  · replace h := on c_400 h
    refine lv_aload_n hx hb dX10_kind_13 rfl (lv_at hl 0 rfl) ?_
    refine lv_iload_n hx hb dX10_kind_14 rfl (lv_at hl 1 rfl) ?_
    obtain ⟨o_401, hr_401, h⟩ := ob h
    refine vp_callSi (va_Run.run (va_runV (As := [.int x1]) (rest := []) ⟨hx, hb, hml, hown, hts⟩ (c_X10_kindOf l dC dI cB cC cI cJ cZ cT h0 q_now q_text q_row q_read q_ranks q_distinct q_proper q_line q_order q_then q_bestOrder q_lineThen q_undos q_was q_kept q_isKept v_typed v_rowMany (0 : Int32) v_length v_at v_wrong v_properMany v_orderMany v_undoMany v_drawn v_now x1 o_401 hr_401) (cwV 1 hts gX10_kind_X10_kindOf rfl rfl rfl (by decide +kernel) ⟨Nat.le_of_ble_eq_true rfl, Nat.le_of_ble_eq_true rfl⟩) ⟨blR, va_recv hK hP (ci := 8) (q0 := 0) rfl rfl, fun U hU hW => ⟨rfl, by rw [hU]; exact hP.sub [0, 1] rfl, va_K.moved hW.alike hK⟩⟩ rfl rfl hl.1 rfl (lv_room (Nat.le_of_ble_eq_true rfl)) dX10_kind_15 ⟨Nat.le_of_ble_eq_true rfl, Nat.le_of_ble_eq_true rfl⟩)) (fun r_401 e_401 => ?_)
    subst e_401
    refine lv_goto (tgt := 22) hx hb dX10_kind_18 (by decide) ?_
    rw [hQQ]
    have ho := Option.some.inj h
    subst ho
    exact W.iret hx hb hr (fun t ht hW => ⟨⟨_, (), rfl, rfl, by rw [ht]; exact hP, va_K.moved hW.alike hK, hD⟩, hS.F ht⟩) hS.2.2 dX10_kind_22
def f_X10_wayOf (v_now : Nat → Int64) (x1 : Int32) (x2 : Int32) : Option Int32 :=
  ((f_X10_kindOf v_now x1).bind (fun o_403 => (if (8 : Int32) ≤ o_403 then ((f_X10_cell v_now x1 x2).bind (fun o_406 => (if (lg_cmp o_406 (-9223372036854775808 : Int64)) = 0 then (some (21 : Int32)) else (if o_403 = (8 : Int32) then (some (14 : Int32)) else (if o_403 = (9 : Int32) then (some (19 : Int32)) else (some (20 : Int32))))))) else (some ((10 : Int32) + o_403)))))
abbrev rm_X10_wayOf : Room := { frames := 2, cells := 0, slots := 0, locals := 43 }
set_option maxHeartbeats 4000000 in
set_option maxRecDepth 100000 in
theorem c_X10_wayOf (l : Launch) (dC : Nat → ClassId) (dI : Nat → Nat → Nat) (cB cC cI cJ cZ cT : ClassId) (h0 q_now q_text q_row q_read q_ranks q_distinct q_proper q_line q_order q_then q_bestOrder q_lineThen q_undos q_was q_kept q_isKept : Nat) (v_typed : Int32) (v_rowMany : Int32) (v_thrown : Int32) (v_length : Int32) (v_at : Int32) (v_wrong : Int32) (v_properMany : Int32) (v_orderMany : Int32) (v_undoMany : Int32) (v_drawn : Int32) (v_now : Nat → Int64) (x1 : Int32) (x2 : Int32) (o : Int32) (hf : f_X10_wayOf v_now x1 x2 = some o) : Met l yX10_wayOf wsX10_wayOf rm_X10_wayOf (va_Pc [.ref h0, .int x1, .int x2] (fun U => va_P (dC, dI) vwCl [(h0, .inr (8, [.ref q_now, .ref q_text, .int v_typed, .ref q_row, .int v_rowMany, .int v_thrown, .int v_length, .int v_at, .int v_wrong, .ref q_read, .ref q_ranks, .ref q_distinct, .ref q_proper, .int v_properMany, .ref q_line, .ref q_order, .int v_orderMany, .ref q_then, .ref q_bestOrder, .ref q_lineThen, .ref q_undos, .ref q_was, .int v_undoMany, .int v_drawn, .ref q_kept, .ref q_isKept])), (q_now, .inl (cJ, 120, .inr (.inl v_now)))] U.heap ∧ va_K (dC, dI) vwCl (tyA cB cC cI cJ cZ cT) U)) (vp_Si (fun r => o = r)) 0 0 (fun _ => False) := by
  refine Met.ofW (cc := cX10_wayOf) (maxL := 4) (ret := (some .int)) (by decide) rfl ?_
  intro p e s m args below meth c s₁ B hml hv
  obtain ⟨hav, hP, hK⟩ := hv
  have hx := B.exec
  have hb := B.bytes
  have hr := B.returns
  have hts := atoms_spec (ws := wsX10_wayOf) B.pre
  have hown : s.vm.findClass RX10 = some m.cls := findClass_of_methodNamed B.named
  have hlocks := B.notSynchronized
  refine wstart (rm := rm_X10_wayOf) hav (Nat.le_of_ble_eq_true rfl) (fun QQ ls hQQ hl => ?_)
  have hl : lv_has ls 4 [(0, .ref h0), (1, .int x1), (2, .int x2)] := hl
  have h := hf
  unfold f_X10_wayOf at h
  refine lv_aload_n hx hb dX10_wayOf_0 rfl (lv_at hl 0 rfl) ?_
  refine lv_iload_n hx hb dX10_wayOf_1 rfl (lv_at hl 1 rfl) ?_
  obtain ⟨o_403, hr_403, h⟩ := ob h
  refine vp_callSi (va_Run.run (va_runV (As := [.int x1]) (rest := []) ⟨hx, hb, hml, hown, hts⟩ (c_X10_kindOf l dC dI cB cC cI cJ cZ cT h0 q_now q_text q_row q_read q_ranks q_distinct q_proper q_line q_order q_then q_bestOrder q_lineThen q_undos q_was q_kept q_isKept v_typed v_rowMany v_thrown v_length v_at v_wrong v_properMany v_orderMany v_undoMany v_drawn v_now x1 o_403 hr_403) (cwV 1 hts gX10_wayOf_X10_kindOf rfl rfl rfl (by decide +kernel) ⟨Nat.le_of_ble_eq_true rfl, Nat.le_of_ble_eq_true rfl⟩) ⟨blR, va_recv hK hP (ci := 8) (q0 := 0) rfl rfl, fun U hU hW => ⟨rfl, by rw [hU]; exact hP.sub [0, 1] rfl, va_K.moved hW.alike hK⟩⟩ rfl rfl hl.1 rfl (lv_room (Nat.le_of_ble_eq_true rfl)) dX10_wayOf_2 ⟨Nat.le_of_ble_eq_true rfl, Nat.le_of_ble_eq_true rfl⟩)) (fun r_403 e_403 => ?_)
  subst e_403
  refine lv_istore_n (lv' := [(3, .int o_403), (0, .ref h0), (1, .int x1), (2, .int x2)]) hx hb dX10_wayOf_5 rfl hl (by decide) rfl (fun ls hl => ?_)
  refine lv_iload_n hx hb dX10_wayOf_6 rfl (lv_at hl 0 rfl) ?_
  refine lv_bipush (v := 8) hx hb dX10_wayOf_7 (by decide) ?_
  refine lv_icmp_ge (tgt := 17) hx hb dX10_wayOf_9 (by decide) (fun c_405 => ?_) (fun c_405 => ?_)
  · replace h := op c_405 h
    refine lv_aload_n hx hb dX10_wayOf_17 rfl (lv_at hl 1 rfl) ?_
    refine lv_iload_n hx hb dX10_wayOf_18 rfl (lv_at hl 2 rfl) ?_
    refine lv_iload_n hx hb dX10_wayOf_19 rfl (lv_at hl 3 rfl) ?_
    obtain ⟨o_406, hr_406, h⟩ := ob h
    refine vp_callSl (va_Run.run (va_runV (As := [.int x1, .int x2]) (rest := []) ⟨hx, hb, hml, hown, hts⟩ (c_X10_cell l dC dI cB cC cI cJ cZ cT h0 q_now q_text q_row q_read q_ranks q_distinct q_proper q_line q_order q_then q_bestOrder q_lineThen q_undos q_was q_kept q_isKept v_typed v_rowMany v_thrown v_length v_at v_wrong v_properMany v_orderMany v_undoMany v_drawn v_now x1 x2 o_406 hr_406) (cwV 2 hts gX10_wayOf_X10_cell rfl rfl rfl (by decide +kernel) ⟨Nat.le_of_ble_eq_true rfl, Nat.le_of_ble_eq_true rfl⟩) ⟨blR, va_recv hK hP (ci := 8) (q0 := 0) rfl rfl, fun U hU hW => ⟨rfl, by rw [hU]; exact hP.sub [0, 1] rfl, va_K.moved hW.alike hK⟩⟩ rfl rfl hl.1 rfl (lv_room (Nat.le_of_ble_eq_true rfl)) dX10_wayOf_20 ⟨Nat.le_of_ble_eq_true rfl, Nat.le_of_ble_eq_true rfl⟩)) (fun r_406 e_406 => ?_)
    subst e_406
    refine lv_ldc2 (v := -9223372036854775808) hx hb hown (hts _ (List.mem_of_getElem? (i := 1) rfl)) dX10_wayOf_23 ?_
    refine W.lcmp hx hb dX10_wayOf_26 ?_
    refine lv_if_ne (tgt := 33) hx hb dX10_wayOf_27 (by decide) (fun c_408 => ?_) (fun c_408 => ?_)
    · replace h := on c_408 h
      refine lv_iload_n hx hb dX10_wayOf_33 rfl (lv_at hl 0 rfl) ?_
      refine lv_bipush (v := 8) hx hb dX10_wayOf_34 (by decide) ?_
      refine lv_icmp_ne (tgt := 44) hx hb dX10_wayOf_36 (by decide) (fun c_409 => ?_) (fun c_409 => ?_)
      · replace h := on c_409 h
        refine lv_iload_n hx hb dX10_wayOf_44 rfl (lv_at hl 0 rfl) ?_
        refine lv_bipush (v := 9) hx hb dX10_wayOf_45 (by decide) ?_
        refine lv_icmp_ne (tgt := 55) hx hb dX10_wayOf_47 (by decide) (fun c_410 => ?_) (fun c_410 => ?_)
        · replace h := on c_410 h
          refine lv_bipush (v := 20) hx hb dX10_wayOf_55 (by decide) ?_
          rw [hQQ]
          exact W.iret hx hb hr (fun t ht hW => ⟨_, rfl, (Option.some.inj h).symm, ht⟩) (fun q hq => absurd hq List.not_mem_nil) dX10_wayOf_57
        · replace h := op c_410 h
          refine lv_bipush (v := 19) hx hb dX10_wayOf_50 (by decide) ?_
          refine lv_goto (tgt := 57) hx hb dX10_wayOf_52 (by decide) ?_
          rw [hQQ]
          exact W.iret hx hb hr (fun t ht hW => ⟨_, rfl, (Option.some.inj h).symm, ht⟩) (fun q hq => absurd hq List.not_mem_nil) dX10_wayOf_57
      · replace h := op c_409 h
        refine lv_bipush (v := 14) hx hb dX10_wayOf_39 (by decide) ?_
        refine lv_goto (tgt := 57) hx hb dX10_wayOf_41 (by decide) ?_
        rw [hQQ]
        exact W.iret hx hb hr (fun t ht hW => ⟨_, rfl, (Option.some.inj h).symm, ht⟩) (fun q hq => absurd hq List.not_mem_nil) dX10_wayOf_57
    · replace h := op c_408 h
      refine lv_bipush (v := 21) hx hb dX10_wayOf_30 (by decide) ?_
      rw [hQQ]
      exact W.iret hx hb hr (fun t ht hW => ⟨_, rfl, (Option.some.inj h).symm, ht⟩) (fun q hq => absurd hq List.not_mem_nil) dX10_wayOf_32
  · replace h := on c_405 h
    refine lv_bipush (v := 10) hx hb dX10_wayOf_12 (by decide) ?_
    refine lv_iload_n hx hb dX10_wayOf_14 rfl (lv_at hl 0 rfl) ?_
    refine lv_iadd hx hb dX10_wayOf_15 ?_
    rw [hQQ]
    exact W.iret hx hb hr (fun t ht hW => ⟨_, rfl, (Option.some.inj h).symm, ht⟩) (fun q hq => absurd hq List.not_mem_nil) dX10_wayOf_16
def f_X10_refusesBoth (v_now : Nat → Int64) (x1 : Int32) (x2 : Int32) : Option Int32 :=
  ((f_X10_isColumn v_now x1).bind (fun o_411 => (if (b2i o_411) = 0 then (some (-1 : Int32)) else ((f_X10_isColumn v_now x2).bind (fun o_414 => (if (b2i o_414) = 0 then (some (-1 : Int32)) else ((f_X10_whyNoRow v_now x1).bind (fun o_417 => (if o_417 ≤ 0 then ((f_X10_whyNoRow v_now x2).bind (fun o_420 => (some (-o_420)))) else ((f_X10_whyNoRow v_now x1).bind (fun o_422 => (some (-o_422)))))))))))))
abbrev rm_X10_refusesBoth : Room := { frames := 2, cells := 0, slots := 0, locals := 43 }
set_option maxHeartbeats 4000000 in
set_option maxRecDepth 100000 in
theorem c_X10_refusesBoth (l : Launch) (dC : Nat → ClassId) (dI : Nat → Nat → Nat) (cB cC cI cJ cZ cT : ClassId) (h0 q_now q_text q_row q_read q_ranks q_distinct q_proper q_line q_order q_then q_bestOrder q_lineThen q_undos q_was q_kept q_isKept : Nat) (v_typed : Int32) (v_rowMany : Int32) (v_thrown : Int32) (v_length : Int32) (v_at : Int32) (v_wrong : Int32) (v_properMany : Int32) (v_orderMany : Int32) (v_undoMany : Int32) (v_drawn : Int32) (v_now : Nat → Int64) (x1 : Int32) (x2 : Int32) (o : Int32) (hf : f_X10_refusesBoth v_now x1 x2 = some o) : Met l yX10_refusesBoth wsX10_refusesBoth rm_X10_refusesBoth (va_Pc [.ref h0, .int x1, .int x2] (fun U => va_P (dC, dI) vwCl [(h0, .inr (8, [.ref q_now, .ref q_text, .int v_typed, .ref q_row, .int v_rowMany, .int v_thrown, .int v_length, .int v_at, .int v_wrong, .ref q_read, .ref q_ranks, .ref q_distinct, .ref q_proper, .int v_properMany, .ref q_line, .ref q_order, .int v_orderMany, .ref q_then, .ref q_bestOrder, .ref q_lineThen, .ref q_undos, .ref q_was, .int v_undoMany, .int v_drawn, .ref q_kept, .ref q_isKept])), (q_now, .inl (cJ, 120, .inr (.inl v_now)))] U.heap ∧ va_K (dC, dI) vwCl (tyA cB cC cI cJ cZ cT) U)) (vp_Si (fun r => o = r)) 0 0 (fun _ => False) := by
  refine Met.ofW (cc := cX10_refusesBoth) (maxL := 3) (ret := (some .int)) (by decide) rfl ?_
  intro p e s m args below meth c s₁ B hml hv
  obtain ⟨hav, hP, hK⟩ := hv
  have hx := B.exec
  have hb := B.bytes
  have hr := B.returns
  have hts := atoms_spec (ws := wsX10_refusesBoth) B.pre
  have hown : s.vm.findClass RX10 = some m.cls := findClass_of_methodNamed B.named
  have hlocks := B.notSynchronized
  refine wstart (rm := rm_X10_refusesBoth) hav (Nat.le_of_ble_eq_true rfl) (fun QQ ls hQQ hl => ?_)
  have hl : lv_has ls 3 [(0, .ref h0), (1, .int x1), (2, .int x2)] := hl
  have h := hf
  unfold f_X10_refusesBoth at h
  refine lv_aload_n hx hb dX10_refusesBoth_0 rfl (lv_at hl 0 rfl) ?_
  refine lv_iload_n hx hb dX10_refusesBoth_1 rfl (lv_at hl 1 rfl) ?_
  obtain ⟨o_411, hr_411, h⟩ := ob h
  refine vp_callSi (va_Run.run (va_runV (As := [.int x1]) (rest := []) ⟨hx, hb, hml, hown, hts⟩ (c_X10_isColumn l dC dI cB cC cI cJ cZ cT h0 q_now q_text q_row q_read q_ranks q_distinct q_proper q_line q_order q_then q_bestOrder q_lineThen q_undos q_was q_kept q_isKept v_typed v_rowMany v_thrown v_length v_at v_wrong v_properMany v_orderMany v_undoMany v_drawn v_now x1 o_411 hr_411) (cwV 1 hts gX10_refusesBoth_X10_isColumn rfl rfl rfl (by decide +kernel) ⟨Nat.le_of_ble_eq_true rfl, Nat.le_of_ble_eq_true rfl⟩) ⟨blR, va_recv hK hP (ci := 8) (q0 := 0) rfl rfl, fun U hU hW => ⟨rfl, by rw [hU]; exact hP.sub [0, 1] rfl, va_K.moved hW.alike hK⟩⟩ rfl rfl hl.1 rfl (lv_room (Nat.le_of_ble_eq_true rfl)) dX10_refusesBoth_2 ⟨Nat.le_of_ble_eq_true rfl, Nat.le_of_ble_eq_true rfl⟩)) (fun r_411 e_411 => ?_)
  subst e_411
  refine lv_if_eq (tgt := 16) hx hb dX10_refusesBoth_5 (by decide) (fun c_413 => ?_) (fun c_413 => ?_)
  · replace h := op c_413 h
    refine lv_iconst (v := -1) hx hb dX10_refusesBoth_16 (by decide) ?_
    rw [hQQ]
    exact W.iret hx hb hr (fun t ht hW => ⟨_, rfl, (Option.some.inj h).symm, ht⟩) (fun q hq => absurd hq List.not_mem_nil) dX10_refusesBoth_17
  · replace h := on c_413 h
    refine lv_aload_n hx hb dX10_refusesBoth_8 rfl (lv_at hl 0 rfl) ?_
    refine lv_iload_n hx hb dX10_refusesBoth_9 rfl (lv_at hl 2 rfl) ?_
    obtain ⟨o_414, hr_414, h⟩ := ob h
    refine vp_callSi (va_Run.run (va_runV (As := [.int x2]) (rest := []) ⟨hx, hb, hml, hown, hts⟩ (c_X10_isColumn l dC dI cB cC cI cJ cZ cT h0 q_now q_text q_row q_read q_ranks q_distinct q_proper q_line q_order q_then q_bestOrder q_lineThen q_undos q_was q_kept q_isKept v_typed v_rowMany v_thrown v_length v_at v_wrong v_properMany v_orderMany v_undoMany v_drawn v_now x2 o_414 hr_414) (cwV 1 hts gX10_refusesBoth_X10_isColumn rfl rfl rfl (by decide +kernel) ⟨Nat.le_of_ble_eq_true rfl, Nat.le_of_ble_eq_true rfl⟩) ⟨blR, va_recv hK hP (ci := 8) (q0 := 0) rfl rfl, fun U hU hW => ⟨rfl, by rw [hU]; exact hP.sub [0, 1] rfl, va_K.moved hW.alike hK⟩⟩ rfl rfl hl.1 rfl (lv_room (Nat.le_of_ble_eq_true rfl)) dX10_refusesBoth_10 ⟨Nat.le_of_ble_eq_true rfl, Nat.le_of_ble_eq_true rfl⟩)) (fun r_414 e_414 => ?_)
    subst e_414
    refine lv_if_ne (tgt := 18) hx hb dX10_refusesBoth_13 (by decide) (fun c_416 => ?_) (fun c_416 => ?_)
    · replace h := on c_416 h
      refine lv_aload_n hx hb dX10_refusesBoth_18 rfl (lv_at hl 0 rfl) ?_
      refine lv_iload_n hx hb dX10_refusesBoth_19 rfl (lv_at hl 1 rfl) ?_
      obtain ⟨o_417, hr_417, h⟩ := ob h
      refine vp_callSi (va_Run.run (va_runV (As := [.int x1]) (rest := []) ⟨hx, hb, hml, hown, hts⟩ (c_X10_whyNoRow l dC dI cB cC cI cJ cZ cT h0 q_now q_text q_row q_read q_ranks q_distinct q_proper q_line q_order q_then q_bestOrder q_lineThen q_undos q_was q_kept q_isKept v_typed v_rowMany v_thrown v_length v_at v_wrong v_properMany v_orderMany v_undoMany v_drawn v_now x1 o_417 hr_417) (cwV 1 hts gX10_refusesBoth_X10_whyNoRow rfl rfl rfl (by decide +kernel) ⟨Nat.le_of_ble_eq_true rfl, Nat.le_of_ble_eq_true rfl⟩) ⟨blR, va_recv hK hP (ci := 8) (q0 := 0) rfl rfl, fun U hU hW => ⟨rfl, by rw [hU]; exact hP.sub [0, 1] rfl, va_K.moved hW.alike hK⟩⟩ rfl rfl hl.1 rfl (lv_room (Nat.le_of_ble_eq_true rfl)) dX10_refusesBoth_20 ⟨Nat.le_of_ble_eq_true rfl, Nat.le_of_ble_eq_true rfl⟩)) (fun r_417 e_417 => ?_)
      subst e_417
      refine lv_if_le (tgt := 35) hx hb dX10_refusesBoth_23 (by decide) (fun c_419 => ?_) (fun c_419 => ?_)
      · replace h := op c_419 h
        refine lv_aload_n hx hb dX10_refusesBoth_35 rfl (lv_at hl 0 rfl) ?_
        refine lv_iload_n hx hb dX10_refusesBoth_36 rfl (lv_at hl 2 rfl) ?_
        obtain ⟨o_420, hr_420, h⟩ := ob h
        refine vp_callSi (va_Run.run (va_runV (As := [.int x2]) (rest := []) ⟨hx, hb, hml, hown, hts⟩ (c_X10_whyNoRow l dC dI cB cC cI cJ cZ cT h0 q_now q_text q_row q_read q_ranks q_distinct q_proper q_line q_order q_then q_bestOrder q_lineThen q_undos q_was q_kept q_isKept v_typed v_rowMany v_thrown v_length v_at v_wrong v_properMany v_orderMany v_undoMany v_drawn v_now x2 o_420 hr_420) (cwV 1 hts gX10_refusesBoth_X10_whyNoRow rfl rfl rfl (by decide +kernel) ⟨Nat.le_of_ble_eq_true rfl, Nat.le_of_ble_eq_true rfl⟩) ⟨blR, va_recv hK hP (ci := 8) (q0 := 0) rfl rfl, fun U hU hW => ⟨rfl, by rw [hU]; exact hP.sub [0, 1] rfl, va_K.moved hW.alike hK⟩⟩ rfl rfl hl.1 rfl (lv_room (Nat.le_of_ble_eq_true rfl)) dX10_refusesBoth_37 ⟨Nat.le_of_ble_eq_true rfl, Nat.le_of_ble_eq_true rfl⟩)) (fun r_420 e_420 => ?_)
        subst e_420
        refine lv_ineg hx hb dX10_refusesBoth_40 ?_
        rw [hQQ]
        exact W.iret hx hb hr (fun t ht hW => ⟨_, rfl, (Option.some.inj h).symm, ht⟩) (fun q hq => absurd hq List.not_mem_nil) dX10_refusesBoth_41
      · replace h := on c_419 h
        refine lv_aload_n hx hb dX10_refusesBoth_26 rfl (lv_at hl 0 rfl) ?_
        refine lv_iload_n hx hb dX10_refusesBoth_27 rfl (lv_at hl 1 rfl) ?_
        obtain ⟨o_422, hr_422, h⟩ := ob h
        refine vp_callSi (va_Run.run (va_runV (As := [.int x1]) (rest := []) ⟨hx, hb, hml, hown, hts⟩ (c_X10_whyNoRow l dC dI cB cC cI cJ cZ cT h0 q_now q_text q_row q_read q_ranks q_distinct q_proper q_line q_order q_then q_bestOrder q_lineThen q_undos q_was q_kept q_isKept v_typed v_rowMany v_thrown v_length v_at v_wrong v_properMany v_orderMany v_undoMany v_drawn v_now x1 o_422 hr_422) (cwV 1 hts gX10_refusesBoth_X10_whyNoRow rfl rfl rfl (by decide +kernel) ⟨Nat.le_of_ble_eq_true rfl, Nat.le_of_ble_eq_true rfl⟩) ⟨blR, va_recv hK hP (ci := 8) (q0 := 0) rfl rfl, fun U hU hW => ⟨rfl, by rw [hU]; exact hP.sub [0, 1] rfl, va_K.moved hW.alike hK⟩⟩ rfl rfl hl.1 rfl (lv_room (Nat.le_of_ble_eq_true rfl)) dX10_refusesBoth_28 ⟨Nat.le_of_ble_eq_true rfl, Nat.le_of_ble_eq_true rfl⟩)) (fun r_422 e_422 => ?_)
        subst e_422
        refine lv_ineg hx hb dX10_refusesBoth_31 ?_
        refine lv_goto (tgt := 41) hx hb dX10_refusesBoth_32 (by decide) ?_
        rw [hQQ]
        exact W.iret hx hb hr (fun t ht hW => ⟨_, rfl, (Option.some.inj h).symm, ht⟩) (fun q hq => absurd hq List.not_mem_nil) dX10_refusesBoth_41
    · replace h := op c_416 h
      refine lv_iconst (v := -1) hx hb dX10_refusesBoth_16 (by decide) ?_
      rw [hQQ]
      exact W.iret hx hb hr (fun t ht hW => ⟨_, rfl, (Option.some.inj h).symm, ht⟩) (fun q hq => absurd hq List.not_mem_nil) dX10_refusesBoth_17
def f_X10_change (v_undoMany : Int32) (v_now : Nat → Int64) (v_undos : Nat → Int64) (v_was : Nat → Int64) : Option (Int32 × (Nat → Int64) × (Nat → Int64)) :=
  ((f_X10_lay v_now v_was).bind (fun o_424 => ((f_X10_note v_undoMany v_undos o_424).bind (fun o_426 => (some (o_426.1, o_426.2, o_424))))))
abbrev rm_X10_change : Room := { frames := 1, cells := 0, slots := 0, locals := 21 }
set_option maxHeartbeats 4000000 in
set_option maxRecDepth 100000 in
theorem c_X10_change (l : Launch) (dC : Nat → ClassId) (dI : Nat → Nat → Nat) (cB cC cI cJ cZ cT : ClassId) (h0 q_now q_text q_row q_read q_ranks q_distinct q_proper q_line q_order q_then q_bestOrder q_lineThen q_undos q_was q_kept q_isKept : Nat) (sz : Nat) (v_typed : Int32) (v_rowMany : Int32) (v_thrown : Int32) (v_length : Int32) (v_at : Int32) (v_wrong : Int32) (v_properMany : Int32) (v_orderMany : Int32) (v_undoMany : Int32) (v_drawn : Int32) (v_now : Nat → Int64) (v_undos : Nat → Int64) (v_was : Nat → Int64) (o : (Int32 × (Nat → Int64) × (Nat → Int64))) (hf : f_X10_change v_undoMany v_now v_undos v_was = some o) : Met l yX10_change wsX10_change rm_X10_change (va_Pc [.ref h0] (fun U => U.heap.size = sz ∧ va_P (dC, dI) vwCl [(h0, .inr (8, [.ref q_now, .ref q_text, .int v_typed, .ref q_row, .int v_rowMany, .int v_thrown, .int v_length, .int v_at, .int v_wrong, .ref q_read, .ref q_ranks, .ref q_distinct, .ref q_proper, .int v_properMany, .ref q_line, .ref q_order, .int v_orderMany, .ref q_then, .ref q_bestOrder, .ref q_lineThen, .ref q_undos, .ref q_was, .int v_undoMany, .int v_drawn, .ref q_kept, .ref q_isKept])), (q_now, .inl (cJ, 120, .inr (.inl v_now))), (q_undos, .inl (cJ, 960, .inr (.inl v_undos))), (q_was, .inl (cJ, 120, .inr (.inl v_was)))] U.heap ∧ va_K (dC, dI) vwCl (tyA cB cC cI cJ cZ cT) U ∧ va_D (fun _ => True) [(h0, .inr (8, [.ref q_now, .ref q_text, .int v_typed, .ref q_row, .int v_rowMany, .int v_thrown, .int v_length, .int v_at, .int v_wrong, .ref q_read, .ref q_ranks, .ref q_distinct, .ref q_proper, .int v_properMany, .ref q_line, .ref q_order, .int v_orderMany, .ref q_then, .ref q_bestOrder, .ref q_lineThen, .ref q_undos, .ref q_was, .int v_undoMany, .int v_drawn, .ref q_kept, .ref q_isKept])), (q_now, .inl (cJ, 120, .inr (.inl v_now))), (q_undos, .inl (cJ, 960, .inr (.inl v_undos))), (q_was, .inl (cJ, 120, .inr (.inl v_was)))])) (va_Qv (fun _ : Unit => True) (fun _ t => va_P (dC, dI) vwCl [(h0, .inr (8, [.ref q_now, .ref q_text, .int v_typed, .ref q_row, .int v_rowMany, .int v_thrown, .int v_length, .int v_at, .int v_wrong, .ref q_read, .ref q_ranks, .ref q_distinct, .ref q_proper, .int v_properMany, .ref q_line, .ref q_order, .int v_orderMany, .ref q_then, .ref q_bestOrder, .ref q_lineThen, .ref q_undos, .ref q_was, .int o.1, .int v_drawn, .ref q_kept, .ref q_isKept])), (q_now, .inl (cJ, 120, .inr (.inl v_now))), (q_undos, .inl (cJ, 960, .inr (.inl o.2.1))), (q_was, .inl (cJ, 120, .inr (.inl o.2.2)))] t.heap ∧ va_K (dC, dI) vwCl (tyA cB cC cI cJ cZ cT) t ∧ va_D (va_A [(h0, .inr (8, [.ref q_now, .ref q_text, .int v_typed, .ref q_row, .int v_rowMany, .int v_thrown, .int v_length, .int v_at, .int v_wrong, .ref q_read, .ref q_ranks, .ref q_distinct, .ref q_proper, .int v_properMany, .ref q_line, .ref q_order, .int v_orderMany, .ref q_then, .ref q_bestOrder, .ref q_lineThen, .ref q_undos, .ref q_was, .int v_undoMany, .int v_drawn, .ref q_kept, .ref q_isKept])), (q_now, .inl (cJ, 120, .inr (.inl v_now))), (q_undos, .inl (cJ, 960, .inr (.inl v_undos))), (q_was, .inl (cJ, 120, .inr (.inl v_was)))] sz) [(h0, .inr (8, [.ref q_now, .ref q_text, .int v_typed, .ref q_row, .int v_rowMany, .int v_thrown, .int v_length, .int v_at, .int v_wrong, .ref q_read, .ref q_ranks, .ref q_distinct, .ref q_proper, .int v_properMany, .ref q_line, .ref q_order, .int v_orderMany, .ref q_then, .ref q_bestOrder, .ref q_lineThen, .ref q_undos, .ref q_was, .int o.1, .int v_drawn, .ref q_kept, .ref q_isKept])), (q_now, .inl (cJ, 120, .inr (.inl v_now))), (q_undos, .inl (cJ, 960, .inr (.inl o.2.1))), (q_was, .inl (cJ, 120, .inr (.inl o.2.2)))]) (va_A [(h0, .inr (8, [.ref q_now, .ref q_text, .int v_typed, .ref q_row, .int v_rowMany, .int v_thrown, .int v_length, .int v_at, .int v_wrong, .ref q_read, .ref q_ranks, .ref q_distinct, .ref q_proper, .int v_properMany, .ref q_line, .ref q_order, .int v_orderMany, .ref q_then, .ref q_bestOrder, .ref q_lineThen, .ref q_undos, .ref q_was, .int v_undoMany, .int v_drawn, .ref q_kept, .ref q_isKept])), (q_now, .inl (cJ, 120, .inr (.inl v_now))), (q_undos, .inl (cJ, 960, .inr (.inl v_undos))), (q_was, .inl (cJ, 120, .inr (.inl v_was)))] sz)) 0 0 (va_A [(h0, .inr (8, [.ref q_now, .ref q_text, .int v_typed, .ref q_row, .int v_rowMany, .int v_thrown, .int v_length, .int v_at, .int v_wrong, .ref q_read, .ref q_ranks, .ref q_distinct, .ref q_proper, .int v_properMany, .ref q_line, .ref q_order, .int v_orderMany, .ref q_then, .ref q_bestOrder, .ref q_lineThen, .ref q_undos, .ref q_was, .int v_undoMany, .int v_drawn, .ref q_kept, .ref q_isKept])), (q_now, .inl (cJ, 120, .inr (.inl v_now))), (q_undos, .inl (cJ, 960, .inr (.inl v_undos))), (q_was, .inl (cJ, 120, .inr (.inl v_was)))] sz) := by
  refine Met.ofW (cc := cX10_change) (maxL := 1) (ret := none) (by decide) rfl ?_
  intro p e s m args below meth c s₁ B hml hv
  obtain ⟨hav, hsz, hP, hK, hD0⟩ := hv
  have hx := B.exec
  have hb := B.bytes
  have hr := B.returns
  have hts := atoms_spec (ws := wsX10_change) B.pre
  have hown : s.vm.findClass RX10 = some m.cls := findClass_of_methodNamed B.named
  have hlocks := B.notSynchronized
  subst hsz
  have hD := hD0.self (sz := s.heap.size)
  generalize hAe : va_A [(h0, .inr (8, [.ref q_now, .ref q_text, .int v_typed, .ref q_row, .int v_rowMany, .int v_thrown, .int v_length, .int v_at, .int v_wrong, .ref q_read, .ref q_ranks, .ref q_distinct, .ref q_proper, .int v_properMany, .ref q_line, .ref q_order, .int v_orderMany, .ref q_then, .ref q_bestOrder, .ref q_lineThen, .ref q_undos, .ref q_was, .int v_undoMany, .int v_drawn, .ref q_kept, .ref q_isKept])), (q_now, .inl (cJ, 120, .inr (.inl v_now))), (q_undos, .inl (cJ, 960, .inr (.inl v_undos))), (q_was, .inl (cJ, 120, .inr (.inl v_was)))] s.heap.size = A at hD ⊢
  have hA : ∀ q : Nat, s.heap.size ≤ q → A q := fun q h => by rw [← hAe]; exact Or.inr h
  have hS : va_S A s.heap s.heap [] := va_S.rf
  refine wstart (rm := rm_X10_change) hav (Nat.le_of_ble_eq_true rfl) (fun QQ ls hQQ hl => ?_)
  have hl : lv_has ls 1 [(0, .ref h0)] := hl
  have h := hf
  unfold f_X10_change at h
  refine lv_aload_n hx hb dX10_change_0 rfl (lv_at hl 0 rfl) ?_
  obtain ⟨o_424, hr_424, h⟩ := ob h
  have hPc := hP.sub (ws' := [(h0, .inr (8, [.ref q_now, .ref q_text, .int v_typed, .ref q_row, .int v_rowMany, .int v_thrown, .int v_length, .int v_at, .int v_wrong, .ref q_read, .ref q_ranks, .ref q_distinct, .ref q_proper, .int v_properMany, .ref q_line, .ref q_order, .int v_orderMany, .ref q_then, .ref q_bestOrder, .ref q_lineThen, .ref q_undos, .ref q_was, .int v_undoMany, .int v_drawn, .ref q_kept, .ref q_isKept])), (q_now, .inl (cJ, 120, .inr (.inl v_now))), (q_was, .inl (cJ, 120, .inr (.inl v_was)))]) [0, 1, 3] rfl
  have hDc := hD.sub (ws' := [(h0, .inr (8, [.ref q_now, .ref q_text, .int v_typed, .ref q_row, .int v_rowMany, .int v_thrown, .int v_length, .int v_at, .int v_wrong, .ref q_read, .ref q_ranks, .ref q_distinct, .ref q_proper, .int v_properMany, .ref q_line, .ref q_order, .int v_orderMany, .ref q_then, .ref q_bestOrder, .ref q_lineThen, .ref q_undos, .ref q_was, .int v_undoMany, .int v_drawn, .ref q_kept, .ref q_isKept])), (q_now, .inl (cJ, 120, .inr (.inl v_now))), (q_was, .inl (cJ, 120, .inr (.inl v_was)))]) [0, 1, 3] (by decide) rfl
  have hFc := va_free (wc := [(h0, .inr (8, [.ref q_now, .ref q_text, .int v_typed, .ref q_row, .int v_rowMany, .int v_thrown, .int v_length, .int v_at, .int v_wrong, .ref q_read, .ref q_ranks, .ref q_distinct, .ref q_proper, .int v_properMany, .ref q_line, .ref q_order, .int v_orderMany, .ref q_then, .ref q_bestOrder, .ref q_lineThen, .ref q_undos, .ref q_was, .int v_undoMany, .int v_drawn, .ref q_kept, .ref q_isKept])), (q_now, .inl (cJ, 120, .inr (.inl v_now))), (q_was, .inl (cJ, 120, .inr (.inl v_was)))]) hD hS hA [0, 1, 3] rfl
  refine va_callv (va_runV (As := []) (rest := []) ⟨hx, hb, hml, hown, hts⟩ (c_X10_lay l dC dI cB cC cI cJ cZ cT h0 q_now q_text q_row q_read q_ranks q_distinct q_proper q_line q_order q_then q_bestOrder q_lineThen q_undos q_was q_kept q_isKept s.heap.size v_typed v_rowMany v_thrown v_length v_at v_wrong v_properMany v_orderMany v_undoMany v_drawn v_now v_was o_424 hr_424) (cwV 0 hts gX10_change_X10_lay rfl rfl rfl (by decide +kernel) ⟨Nat.le_of_ble_eq_true rfl, Nat.le_of_ble_eq_true rfl⟩) ⟨blW, va_recv hK hP (ci := 8) (q0 := 0) rfl rfl, fun U hU hW => ⟨rfl, by rw [hU], by rw [hU]; exact hPc, va_K.moved hW.alike hK, hDc.weaken (fun _ _ _ _ => trivial)⟩⟩ rfl rfl hl.1 rfl (lv_room (Nat.le_of_ble_eq_true rfl)) dX10_change_1 ⟨Nat.le_of_ble_eq_true rfl, Nat.le_of_ble_eq_true rfl⟩) hS (fun q _ h => hFc q h) hFc (fun u_424 t_424 H locs ht hvm e_424 hB hz1 hk1 hS => ?_)
  obtain ⟨hP1, -, hD1⟩ := hB
  rw [ht] at hP1
  obtain ⟨hP, hD⟩ := va_join (wr := [(q_undos, .inl (cJ, 960, .inr (.inl v_undos)))]) (w1 := [(h0, .inr (8, [.ref q_now, .ref q_text, .int v_typed, .ref q_row, .int v_rowMany, .int v_thrown, .int v_length, .int v_at, .int v_wrong, .ref q_read, .ref q_ranks, .ref q_distinct, .ref q_proper, .int v_properMany, .ref q_line, .ref q_order, .int v_orderMany, .ref q_then, .ref q_bestOrder, .ref q_lineThen, .ref q_undos, .ref q_was, .int v_undoMany, .int v_drawn, .ref q_kept, .ref q_isKept])), (q_now, .inl (cJ, 120, .inr (.inl v_now))), (q_was, .inl (cJ, 120, .inr (.inl o_424)))]) hP hD [0, 1, 3] [2] rfl rfl (by decide) (by decide) hk1 hFc hP1 hD1
  replace hP := hP.sub (ws' := [(h0, .inr (8, [.ref q_now, .ref q_text, .int v_typed, .ref q_row, .int v_rowMany, .int v_thrown, .int v_length, .int v_at, .int v_wrong, .ref q_read, .ref q_ranks, .ref q_distinct, .ref q_proper, .int v_properMany, .ref q_line, .ref q_order, .int v_orderMany, .ref q_then, .ref q_bestOrder, .ref q_lineThen, .ref q_undos, .ref q_was, .int v_undoMany, .int v_drawn, .ref q_kept, .ref q_isKept])), (q_now, .inl (cJ, 120, .inr (.inl v_now))), (q_undos, .inl (cJ, 960, .inr (.inl v_undos))), (q_was, .inl (cJ, 120, .inr (.inl o_424)))]) [1, 2, 0, 3] rfl
  replace hD := hD.sub (ws' := [(h0, .inr (8, [.ref q_now, .ref q_text, .int v_typed, .ref q_row, .int v_rowMany, .int v_thrown, .int v_length, .int v_at, .int v_wrong, .ref q_read, .ref q_ranks, .ref q_distinct, .ref q_proper, .int v_properMany, .ref q_line, .ref q_order, .int v_orderMany, .ref q_then, .ref q_bestOrder, .ref q_lineThen, .ref q_undos, .ref q_was, .int v_undoMany, .int v_drawn, .ref q_kept, .ref q_isKept])), (q_now, .inl (cJ, 120, .inr (.inl v_now))), (q_undos, .inl (cJ, 960, .inr (.inl v_undos))), (q_was, .inl (cJ, 120, .inr (.inl o_424)))]) [1, 2, 0, 3] (by decide) rfl
  refine lv_aload_n hx hb dX10_change_4 rfl (lv_at hl 0 rfl) ?_
  obtain ⟨o_426, hr_426, h⟩ := ob h
  have hPc := hP.sub (ws' := [(h0, .inr (8, [.ref q_now, .ref q_text, .int v_typed, .ref q_row, .int v_rowMany, .int v_thrown, .int v_length, .int v_at, .int v_wrong, .ref q_read, .ref q_ranks, .ref q_distinct, .ref q_proper, .int v_properMany, .ref q_line, .ref q_order, .int v_orderMany, .ref q_then, .ref q_bestOrder, .ref q_lineThen, .ref q_undos, .ref q_was, .int v_undoMany, .int v_drawn, .ref q_kept, .ref q_isKept])), (q_undos, .inl (cJ, 960, .inr (.inl v_undos))), (q_was, .inl (cJ, 120, .inr (.inl o_424)))]) [0, 2, 3] rfl
  have hDc := hD.sub (ws' := [(h0, .inr (8, [.ref q_now, .ref q_text, .int v_typed, .ref q_row, .int v_rowMany, .int v_thrown, .int v_length, .int v_at, .int v_wrong, .ref q_read, .ref q_ranks, .ref q_distinct, .ref q_proper, .int v_properMany, .ref q_line, .ref q_order, .int v_orderMany, .ref q_then, .ref q_bestOrder, .ref q_lineThen, .ref q_undos, .ref q_was, .int v_undoMany, .int v_drawn, .ref q_kept, .ref q_isKept])), (q_undos, .inl (cJ, 960, .inr (.inl v_undos))), (q_was, .inl (cJ, 120, .inr (.inl o_424)))]) [0, 2, 3] (by decide) rfl
  have hFc := va_free (wc := [(h0, .inr (8, [.ref q_now, .ref q_text, .int v_typed, .ref q_row, .int v_rowMany, .int v_thrown, .int v_length, .int v_at, .int v_wrong, .ref q_read, .ref q_ranks, .ref q_distinct, .ref q_proper, .int v_properMany, .ref q_line, .ref q_order, .int v_orderMany, .ref q_then, .ref q_bestOrder, .ref q_lineThen, .ref q_undos, .ref q_was, .int v_undoMany, .int v_drawn, .ref q_kept, .ref q_isKept])), (q_undos, .inl (cJ, 960, .inr (.inl v_undos))), (q_was, .inl (cJ, 120, .inr (.inl o_424)))]) hD hS hA [0, 2, 3] rfl
  refine va_callv (va_runV (As := []) (rest := []) ⟨hx, hb, hml, hown, hts⟩ (c_X10_note l dC dI cB cC cI cJ cZ cT h0 q_now q_text q_row q_read q_ranks q_distinct q_proper q_line q_order q_then q_bestOrder q_lineThen q_undos q_was q_kept q_isKept H.size v_typed v_rowMany v_thrown v_length v_at v_wrong v_properMany v_orderMany v_undoMany v_drawn v_undos o_424 o_426 hr_426) (cwV 0 hts gX10_change_X10_note rfl rfl rfl (by decide +kernel) ⟨Nat.le_of_ble_eq_true rfl, Nat.le_of_ble_eq_true rfl⟩) ⟨blW, va_recv hK hP (ci := 8) (q0 := 0) rfl rfl, fun U hU hW => ⟨rfl, by rw [hU], by rw [hU]; exact hPc, va_K.moved hW.alike hK, hDc.weaken (fun _ _ _ _ => trivial)⟩⟩ rfl rfl hl.1 rfl (lv_room (Nat.le_of_ble_eq_true rfl)) dX10_change_5 ⟨Nat.le_of_ble_eq_true rfl, Nat.le_of_ble_eq_true rfl⟩) hS (fun q _ h => hFc q h) hFc (fun u_426 t_426 H locs ht hvm e_426 hB hz1 hk1 hS => ?_)
  obtain ⟨hP1, -, hD1⟩ := hB
  rw [ht] at hP1
  obtain ⟨hP, hD⟩ := va_join (wr := [(q_now, .inl (cJ, 120, .inr (.inl v_now)))]) (w1 := [(h0, .inr (8, [.ref q_now, .ref q_text, .int v_typed, .ref q_row, .int v_rowMany, .int v_thrown, .int v_length, .int v_at, .int v_wrong, .ref q_read, .ref q_ranks, .ref q_distinct, .ref q_proper, .int v_properMany, .ref q_line, .ref q_order, .int v_orderMany, .ref q_then, .ref q_bestOrder, .ref q_lineThen, .ref q_undos, .ref q_was, .int o_426.1, .int v_drawn, .ref q_kept, .ref q_isKept])), (q_undos, .inl (cJ, 960, .inr (.inl o_426.2))), (q_was, .inl (cJ, 120, .inr (.inl o_424)))]) hP hD [0, 2, 3] [1] rfl rfl (by decide) (by decide) hk1 hFc hP1 hD1
  replace hP := hP.sub (ws' := [(h0, .inr (8, [.ref q_now, .ref q_text, .int v_typed, .ref q_row, .int v_rowMany, .int v_thrown, .int v_length, .int v_at, .int v_wrong, .ref q_read, .ref q_ranks, .ref q_distinct, .ref q_proper, .int v_properMany, .ref q_line, .ref q_order, .int v_orderMany, .ref q_then, .ref q_bestOrder, .ref q_lineThen, .ref q_undos, .ref q_was, .int o_426.1, .int v_drawn, .ref q_kept, .ref q_isKept])), (q_now, .inl (cJ, 120, .inr (.inl v_now))), (q_undos, .inl (cJ, 960, .inr (.inl o_426.2))), (q_was, .inl (cJ, 120, .inr (.inl o_424)))]) [1, 0, 2, 3] rfl
  replace hD := hD.sub (ws' := [(h0, .inr (8, [.ref q_now, .ref q_text, .int v_typed, .ref q_row, .int v_rowMany, .int v_thrown, .int v_length, .int v_at, .int v_wrong, .ref q_read, .ref q_ranks, .ref q_distinct, .ref q_proper, .int v_properMany, .ref q_line, .ref q_order, .int v_orderMany, .ref q_then, .ref q_bestOrder, .ref q_lineThen, .ref q_undos, .ref q_was, .int o_426.1, .int v_drawn, .ref q_kept, .ref q_isKept])), (q_now, .inl (cJ, 120, .inr (.inl v_now))), (q_undos, .inl (cJ, 960, .inr (.inl o_426.2))), (q_was, .inl (cJ, 120, .inr (.inl o_424)))]) [1, 0, 2, 3] (by decide) rfl
  rw [hQQ]
  have ho := Option.some.inj h
  subst ho
  exact W.vret hx hb hr (fun t ht hW => ⟨⟨(), rfl, trivial, by rw [ht]; exact hP, va_K.moved hW.alike hK, hD⟩, hS.F ht⟩) hS.2.2 dX10_change_8
