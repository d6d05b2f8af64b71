def f_X10_take (v_rowMany : Int32) (v_now : Nat → Int64) (v_row : Nat → Int64) (x1 : Int32) (x2 : Int32) (x3 : Int32) : Option (Int32 × Int32 × Int32 × (Nat → Int64)) :=
  ((f_X10_isColumn v_now x1).bind (fun o_432 => (if (b2i o_432) = 0 then (some ((-1 : Int32), v_rowMany, (0 : Int32), v_row)) else ((f_X10_in x3 (0 : Int32) (7 : Int32)).bind (fun o_435 => (if (b2i o_435) = 0 then (if x3 = (10 : Int32) then ((f_X10_whyTaken v_now x1 x2 x3).bind (fun o_463 => (if o_463 ≤ 0 then (((if x3 = (10 : Int32) then ((f_X10_cell v_now x1 x2).bind (fun o_483 => (some o_483))) else ((f_X10_cell v_now x1 x2).bind (fun o_477 => ((f_X10_kindOf v_now x1).bind (fun o_479 => ((f_X10_widened o_477 o_479 x3).bind (fun o_481 => (some o_481))))))))).bind (fun v_466 => ((f_X10_tell (0 : Int32) v_row v_466).bind (fun o_485 => (some ((0 : Int32), o_485.1, (0 : Int32), o_485.2)))))) else (some ((-o_463), v_rowMany, (0 : Int32), v_row))))) else (some ((-1 : Int32), v_rowMany, (0 : Int32), v_row))) else ((f_X10_whyTaken v_now x1 x2 x3).bind (fun o_438 => (if o_438 ≤ 0 then (((if x3 = (10 : Int32) then ((f_X10_cell v_now x1 x2).bind (fun o_458 => (some o_458))) else ((f_X10_cell v_now x1 x2).bind (fun o_452 => ((f_X10_kindOf v_now x1).bind (fun o_454 => ((f_X10_widened o_452 o_454 x3).bind (fun o_456 => (some o_456))))))))).bind (fun v_441 => ((f_X10_tell (0 : Int32) v_row v_441).bind (fun o_460 => (some ((0 : Int32), o_460.1, (0 : Int32), o_460.2)))))) else (some ((-o_438), v_rowMany, (0 : Int32), v_row)))))))))))
abbrev rm_X10_take : Room := { frames := 4, cells := 0, slots := 0, locals := 91 }
set_option maxHeartbeats 4000000 in
set_option maxRecDepth 100000 in
theorem c_X10_take (l : Launch) (dC : Nat → ClassId) (dI : Nat → Nat → Nat) (cB cC cI cJ cZ cT : ClassId) (h0 q_now q_text q_row q_read q_ranks q_distinct q_proper q_line q_order q_then q_bestOrder q_lineThen q_undos q_was q_kept q_isKept : Nat) (sz : Nat) (v_typed : Int32) (v_rowMany : Int32) (v_thrown : Int32) (v_length : Int32) (v_at : Int32) (v_wrong : Int32) (v_properMany : Int32) (v_orderMany : Int32) (v_undoMany : Int32) (v_drawn : Int32) (v_now : Nat → Int64) (v_row : Nat → Int64) (x1 : Int32) (x2 : Int32) (x3 : Int32) (o : (Int32 × Int32 × Int32 × (Nat → Int64))) (hf : f_X10_take v_rowMany v_now v_row x1 x2 x3 = some o) : Met l yX10_take wsX10_take rm_X10_take (va_Pc [.ref h0, .int x1, .int x2, .int x3] (fun U => U.heap.size = sz ∧ va_P (dC, dI) vwCl [(h0, .inr (8, [.ref q_now, .ref q_text, .int v_typed, .ref q_row, .int v_rowMany, .int v_thrown, .int v_length, .int v_at, .int v_wrong, .ref q_read, .ref q_ranks, .ref q_distinct, .ref q_proper, .int v_properMany, .ref q_line, .ref q_order, .int v_orderMany, .ref q_then, .ref q_bestOrder, .ref q_lineThen, .ref q_undos, .ref q_was, .int v_undoMany, .int v_drawn, .ref q_kept, .ref q_isKept])), (q_now, .inl (cJ, 120, .inr (.inl v_now))), (q_row, .inl (cJ, 64, .inr (.inl v_row)))] U.heap ∧ va_K (dC, dI) vwCl (tyA cB cC cI cJ cZ cT) U ∧ va_D (fun _ => True) [(h0, .inr (8, [.ref q_now, .ref q_text, .int v_typed, .ref q_row, .int v_rowMany, .int v_thrown, .int v_length, .int v_at, .int v_wrong, .ref q_read, .ref q_ranks, .ref q_distinct, .ref q_proper, .int v_properMany, .ref q_line, .ref q_order, .int v_orderMany, .ref q_then, .ref q_bestOrder, .ref q_lineThen, .ref q_undos, .ref q_was, .int v_undoMany, .int v_drawn, .ref q_kept, .ref q_isKept])), (q_now, .inl (cJ, 120, .inr (.inl v_now))), (q_row, .inl (cJ, 64, .inr (.inl v_row)))] ∧ SX (va_A [(h0, .inr (8, [.ref q_now, .ref q_text, .int v_typed, .ref q_row, .int v_rowMany, .int v_thrown, .int v_length, .int v_at, .int v_wrong, .ref q_read, .ref q_ranks, .ref q_distinct, .ref q_proper, .int v_properMany, .ref q_line, .ref q_order, .int v_orderMany, .ref q_then, .ref q_bestOrder, .ref q_lineThen, .ref q_undos, .ref q_was, .int v_undoMany, .int v_drawn, .ref q_kept, .ref q_isKept])), (q_now, .inl (cJ, 120, .inr (.inl v_now))), (q_row, .inl (cJ, 64, .inr (.inl v_row)))] sz) U U.heap)) (va_Qi (fun (r : Int32) (_ : Unit) => o.1 = r) (fun _ t => va_P (dC, dI) vwCl [(h0, .inr (8, [.ref q_now, .ref q_text, .int v_typed, .ref q_row, .int o.2.1, .int o.2.2.1, .int v_length, .int v_at, .int v_wrong, .ref q_read, .ref q_ranks, .ref q_distinct, .ref q_proper, .int v_properMany, .ref q_line, .ref q_order, .int v_orderMany, .ref q_then, .ref q_bestOrder, .ref q_lineThen, .ref q_undos, .ref q_was, .int v_undoMany, .int v_drawn, .ref q_kept, .ref q_isKept])), (q_now, .inl (cJ, 120, .inr (.inl v_now))), (q_row, .inl (cJ, 64, .inr (.inl o.2.2.2)))] t.heap ∧ va_K (dC, dI) vwCl (tyA cB cC cI cJ cZ cT) t ∧ va_D (va_A [(h0, .inr (8, [.ref q_now, .ref q_text, .int v_typed, .ref q_row, .int v_rowMany, .int v_thrown, .int v_length, .int v_at, .int v_wrong, .ref q_read, .ref q_ranks, .ref q_distinct, .ref q_proper, .int v_properMany, .ref q_line, .ref q_order, .int v_orderMany, .ref q_then, .ref q_bestOrder, .ref q_lineThen, .ref q_undos, .ref q_was, .int v_undoMany, .int v_drawn, .ref q_kept, .ref q_isKept])), (q_now, .inl (cJ, 120, .inr (.inl v_now))), (q_row, .inl (cJ, 64, .inr (.inl v_row)))] sz) [(h0, .inr (8, [.ref q_now, .ref q_text, .int v_typed, .ref q_row, .int o.2.1, .int o.2.2.1, .int v_length, .int v_at, .int v_wrong, .ref q_read, .ref q_ranks, .ref q_distinct, .ref q_proper, .int v_properMany, .ref q_line, .ref q_order, .int v_orderMany, .ref q_then, .ref q_bestOrder, .ref q_lineThen, .ref q_undos, .ref q_was, .int v_undoMany, .int v_drawn, .ref q_kept, .ref q_isKept])), (q_now, .inl (cJ, 120, .inr (.inl v_now))), (q_row, .inl (cJ, 64, .inr (.inl o.2.2.2)))]) (va_A [(h0, .inr (8, [.ref q_now, .ref q_text, .int v_typed, .ref q_row, .int v_rowMany, .int v_thrown, .int v_length, .int v_at, .int v_wrong, .ref q_read, .ref q_ranks, .ref q_distinct, .ref q_proper, .int v_properMany, .ref q_line, .ref q_order, .int v_orderMany, .ref q_then, .ref q_bestOrder, .ref q_lineThen, .ref q_undos, .ref q_was, .int v_undoMany, .int v_drawn, .ref q_kept, .ref q_isKept])), (q_now, .inl (cJ, 120, .inr (.inl v_now))), (q_row, .inl (cJ, 64, .inr (.inl v_row)))] sz)) 0 0 (va_A [(h0, .inr (8, [.ref q_now, .ref q_text, .int v_typed, .ref q_row, .int v_rowMany, .int v_thrown, .int v_length, .int v_at, .int v_wrong, .ref q_read, .ref q_ranks, .ref q_distinct, .ref q_proper, .int v_properMany, .ref q_line, .ref q_order, .int v_orderMany, .ref q_then, .ref q_bestOrder, .ref q_lineThen, .ref q_undos, .ref q_was, .int v_undoMany, .int v_drawn, .ref q_kept, .ref q_isKept])), (q_now, .inl (cJ, 120, .inr (.inl v_now))), (q_row, .inl (cJ, 64, .inr (.inl v_row)))] sz) := by
  refine Met.ofW (cc := cX10_take) (maxL := 5) (ret := (some .int)) (by decide +kernel) rfl ?_
  intro p e s m args below meth c s₁ B hml hv
  obtain ⟨hav, hsz, hP, hK, hD0, hX⟩ := hv
  have hx := B.exec
  have hb := B.bytes
  have hr := B.returns
  have hts := atoms_spec (ws := wsX10_take) B.pre
  have hown : s.vm.findClass RX10 = some m.cls := findClass_of_methodNamed B.named
  have hlocks := B.notSynchronized
  subst hsz
  have hD := hD0.self (sz := s.heap.size)
  generalize hAe : va_A [(h0, .inr (8, [.ref q_now, .ref q_text, .int v_typed, .ref q_row, .int v_rowMany, .int v_thrown, .int v_length, .int v_at, .int v_wrong, .ref q_read, .ref q_ranks, .ref q_distinct, .ref q_proper, .int v_properMany, .ref q_line, .ref q_order, .int v_orderMany, .ref q_then, .ref q_bestOrder, .ref q_lineThen, .ref q_undos, .ref q_was, .int v_undoMany, .int v_drawn, .ref q_kept, .ref q_isKept])), (q_now, .inl (cJ, 120, .inr (.inl v_now))), (q_row, .inl (cJ, 64, .inr (.inl v_row)))] s.heap.size = A at hD hX ⊢
  have hA : ∀ q : Nat, s.heap.size ≤ q → A q := fun q h => by rw [← hAe]; exact Or.inr h
  have hS : va_S A s.heap s.heap [] := va_S.rf
  refine wstart (rm := rm_X10_take) hav (Nat.le_of_ble_eq_true rfl) (fun QQ ls hQQ hl => ?_)
  have hl : lv_has ls 5 [(0, .ref h0), (1, .int x1), (2, .int x2), (3, .int x3)] := hl
  have hi_X10 : ∀ w ∈ u_ws RX10 TX10 26, w ∈ wsX10_take := by decide +kernel
  have h := hf
  unfold f_X10_take at h
  refine lv_aload_n hx hb dX10_take_0 rfl (lv_at hl 0 rfl) ?_
  refine lv_iconst (v := 0) hx hb dX10_take_1 (by decide) ?_
  refine va_put (D := (dC, dI)) (ci := 8) (v := .int (0 : Int32)) (ty := .int) (C := RX10) (T := TX10) (N := 26) hx hb hts hi_X10 tyX10 tyX10_ok nmX10 hown hK hP hD hS 0 rfl rfl 5 (by decide) (hts _ (List.mem_of_getElem? (i := 1) rfl)) (fun _ h9 => h9) rfl (by decide +kernel) rfl rfl (Nat.le_of_ble_eq_true rfl) dX10_take_2 (fun H locs hP hD hS => ?_)
  replace hP : va_P (dC, dI) vwCl [(h0, .inr (8, [.ref q_now, .ref q_text, .int v_typed, .ref q_row, .int v_rowMany, .int (0 : Int32), .int v_length, .int v_at, .int v_wrong, .ref q_read, .ref q_ranks, .ref q_distinct, .ref q_proper, .int v_properMany, .ref q_line, .ref q_order, .int v_orderMany, .ref q_then, .ref q_bestOrder, .ref q_lineThen, .ref q_undos, .ref q_was, .int v_undoMany, .int v_drawn, .ref q_kept, .ref q_isKept])), (q_now, .inl (cJ, 120, .inr (.inl v_now))), (q_row, .inl (cJ, 64, .inr (.inl v_row)))] H := hP
  replace hD : va_D A [(h0, .inr (8, [.ref q_now, .ref q_text, .int v_typed, .ref q_row, .int v_rowMany, .int (0 : Int32), .int v_length, .int v_at, .int v_wrong, .ref q_read, .ref q_ranks, .ref q_distinct, .ref q_proper, .int v_properMany, .ref q_line, .ref q_order, .int v_orderMany, .ref q_then, .ref q_bestOrder, .ref q_lineThen, .ref q_undos, .ref q_was, .int v_undoMany, .int v_drawn, .ref q_kept, .ref q_isKept])), (q_now, .inl (cJ, 120, .inr (.inl v_now))), (q_row, .inl (cJ, 64, .inr (.inl v_row)))] := hD
  refine lv_aload_n hx hb dX10_take_5 rfl (lv_at hl 0 rfl) ?_
  refine lv_iload_n hx hb dX10_take_6 rfl (lv_at hl 1 rfl) ?_
  obtain ⟨o_432, hr_432, h⟩ := ob h
  refine vp_callSi (va_Run.run (va_runV (As := [.int x1]) (rest := []) ⟨hx, hb, hml, hown, hts⟩ (c_X10_isColumn l dC dI cB cC cI cJ cZ cT h0 q_now q_text q_row q_read q_ranks q_distinct q_proper q_line q_order q_then q_bestOrder q_lineThen q_undos q_was q_kept q_isKept v_typed v_rowMany (0 : Int32) v_length v_at v_wrong v_properMany v_orderMany v_undoMany v_drawn v_now x1 o_432 hr_432) (cwV 1 hts gX10_take_X10_isColumn rfl rfl rfl (by decide +kernel) ⟨Nat.le_of_ble_eq_true rfl, Nat.le_of_ble_eq_true rfl⟩) ⟨blR, va_recv hK hP (ci := 8) (q0 := 0) rfl rfl, fun U hU hW => ⟨rfl, by rw [hU]; exact hP.sub [0, 1] rfl, va_K.moved hW.alike hK⟩⟩ rfl rfl hl.1 rfl (lv_room (Nat.le_of_ble_eq_true rfl)) dX10_take_7 ⟨Nat.le_of_ble_eq_true rfl, Nat.le_of_ble_eq_true rfl⟩)) (fun r_432 e_432 => ?_)
  subst e_432
  refine lv_if_eq (tgt := 29) hx hb dX10_take_10 (by decide) (fun c_434 => ?_) (fun c_434 => ?_)
  · replace h := op c_434 h
    refine lv_iconst (v := -1) hx hb dX10_take_29 (by decide) ?_
    rw [hQQ]
    have ho := Option.some.inj h
    subst ho
    exact W.iret hx hb hr (fun t ht hW => ⟨⟨_, (), rfl, rfl, by rw [ht]; exact hP, va_K.moved hW.alike hK, hD⟩, hS.F ht⟩) hS.2.2 dX10_take_30
  · replace h := on c_434 h
    refine lv_iload_n hx hb dX10_take_13 rfl (lv_at hl 3 rfl) ?_
    refine lv_iconst (v := 0) hx hb dX10_take_14 (by decide) ?_
    refine lv_bipush (v := 7) hx hb dX10_take_15 (by decide) ?_
    obtain ⟨o_435, hr_435, h⟩ := ob h
    refine vp_callSi (va_Run.run (va_runS (As := [.int x3, .int (0 : Int32), .int (7 : Int32)]) (rest := []) ⟨hx, hb, hml, hown, hts⟩ (c_X10_in l dC dI cB cC cI cJ cZ cT x3 (0 : Int32) (7 : Int32) o_435 hr_435) (va_cwS 3 hts gX10_take_X10_in rfl rfl rfl (by decide +kernel) ⟨Nat.le_of_ble_eq_true rfl, Nat.le_of_ble_eq_true rfl⟩) ⟨blT, fun U hU hW => ⟨rfl, trivial⟩⟩ rfl rfl hl.1 rfl (lv_room (Nat.le_of_ble_eq_true rfl)) dX10_take_17 ⟨Nat.le_of_ble_eq_true rfl, Nat.le_of_ble_eq_true rfl⟩)) (fun r_435 e_435 => ?_)
    subst e_435
    refine lv_if_ne (tgt := 31) hx hb dX10_take_20 (by decide) (fun c_437 => ?_) (fun c_437 => ?_)
    · replace h := on c_437 h
      refine lv_aload_n hx hb dX10_take_31 rfl (lv_at hl 0 rfl) ?_
      refine lv_iload_n hx hb dX10_take_32 rfl (lv_at hl 1 rfl) ?_
      refine lv_iload_n hx hb dX10_take_33 rfl (lv_at hl 2 rfl) ?_
      refine lv_iload_n hx hb dX10_take_34 rfl (lv_at hl 3 rfl) ?_
      obtain ⟨o_438, hr_438, h⟩ := ob h
      refine vp_callSi (va_Run.run (va_runV (As := [.int x1, .int x2, .int x3]) (rest := []) ⟨hx, hb, hml, hown, hts⟩ (c_X10_whyTaken l dC dI cB cC cI cJ cZ cT h0 q_now q_text q_row q_read q_ranks q_distinct q_proper q_line q_order q_then q_bestOrder q_lineThen q_undos q_was q_kept q_isKept v_typed v_rowMany (0 : Int32) v_length v_at v_wrong v_properMany v_orderMany v_undoMany v_drawn v_now x1 x2 x3 o_438 hr_438) (cwV 3 hts gX10_take_X10_whyTaken rfl rfl rfl (by decide +kernel) ⟨Nat.le_of_ble_eq_true rfl, Nat.le_of_ble_eq_true rfl⟩) ⟨blRX, va_recv hK hP (ci := 8) (q0 := 0) rfl rfl, fun U hU hW => ⟨rfl, by rw [hU]; exact hP.sub [0, 1] rfl, va_K.moved hW.alike hK, by rw [hU]; exact SX.use hW hS hX⟩⟩ rfl rfl hl.1 rfl (lv_room (Nat.le_of_ble_eq_true rfl)) dX10_take_35 ⟨Nat.le_of_ble_eq_true rfl, Nat.le_of_ble_eq_true rfl⟩)) (fun r_438 e_438 => ?_)
      subst e_438
      refine lv_istore (lv' := [(4, .int o_438), (0, .ref h0), (1, .int x1), (2, .int x2), (3, .int x3)]) hx hb dX10_take_38 hl (by decide) rfl (fun ls hl => ?_)
      refine lv_iload hx hb dX10_take_40 (lv_at hl 0 rfl) ?_
      refine lv_if_le (tgt := 49) hx hb dX10_take_42 (by decide) (fun c_440 => ?_) (fun c_440 => ?_)
      · replace h := op c_440 h
        refine lv_aload_n hx hb dX10_take_49 rfl (lv_at hl 1 rfl) ?_
        refine lv_iconst (v := 0) hx hb dX10_take_50 (by decide) ?_
        refine va_put (D := (dC, dI)) (ci := 8) (v := .int (0 : Int32)) (ty := .int) (C := RX10) (T := TX10) (N := 26) hx hb hts hi_X10 tyX10 tyX10_ok nmX10 hown hK hP hD hS 0 rfl rfl 4 (by decide) (hts _ (List.mem_of_getElem? (i := 2) rfl)) (fun _ h9 => h9) rfl (by decide +kernel) rfl rfl (Nat.le_of_ble_eq_true rfl) dX10_take_51 (fun H locs hP hD hS => ?_)
        replace hP : va_P (dC, dI) vwCl [(h0, .inr (8, [.ref q_now, .ref q_text, .int v_typed, .ref q_row, .int (0 : Int32), .int (0 : Int32), .int v_length, .int v_at, .int v_wrong, .ref q_read, .ref q_ranks, .ref q_distinct, .ref q_proper, .int v_properMany, .ref q_line, .ref q_order, .int v_orderMany, .ref q_then, .ref q_bestOrder, .ref q_lineThen, .ref q_undos, .ref q_was, .int v_undoMany, .int v_drawn, .ref q_kept, .ref q_isKept])), (q_now, .inl (cJ, 120, .inr (.inl v_now))), (q_row, .inl (cJ, 64, .inr (.inl v_row)))] H := hP
        replace hD : va_D A [(h0, .inr (8, [.ref q_now, .ref q_text, .int v_typed, .ref q_row, .int (0 : Int32), .int (0 : Int32), .int v_length, .int v_at, .int v_wrong, .ref q_read, .ref q_ranks, .ref q_distinct, .ref q_proper, .int v_properMany, .ref q_line, .ref q_order, .int v_orderMany, .ref q_then, .ref q_bestOrder, .ref q_lineThen, .ref q_undos, .ref q_was, .int v_undoMany, .int v_drawn, .ref q_kept, .ref q_isKept])), (q_now, .inl (cJ, 120, .inr (.inl v_now))), (q_row, .inl (cJ, 64, .inr (.inl v_row)))] := hD
        refine lv_aload_n hx hb dX10_take_54 rfl (lv_at hl 1 rfl) ?_
        refine lv_iload_n hx hb dX10_take_55 rfl (lv_at hl 4 rfl) ?_
        refine lv_bipush (v := 10) hx hb dX10_take_56 (by decide) ?_
        obtain ⟨v_441, hv_441, h⟩ := ob h
        have J_441 : ∀ (H : Heap) (locs : List Loc) (ls : Array Slot), va_P (dC, dI) vwCl [(h0, .inr (8, [.ref q_now, .ref q_text, .int v_typed, .ref q_row, .int (0 : Int32), .int (0 : Int32), .int v_length, .int v_at, .int v_wrong, .ref q_read, .ref q_ranks, .ref q_distinct, .ref q_proper, .int v_properMany, .ref q_line, .ref q_order, .int v_orderMany, .ref q_then, .ref q_bestOrder, .ref q_lineThen, .ref q_undos, .ref q_was, .int v_undoMany, .int v_drawn, .ref q_kept, .ref q_isKept])), (q_now, .inl (cJ, 120, .inr (.inl v_now))), (q_row, .inl (cJ, 64, .inr (.inl v_row)))] H → va_D A [(h0, .inr (8, [.ref q_now, .ref q_text, .int v_typed, .ref q_row, .int (0 : Int32), .int (0 : Int32), .int v_length, .int v_at, .int v_wrong, .ref q_read, .ref q_ranks, .ref q_distinct, .ref q_proper, .int v_properMany, .ref q_line, .ref q_order, .int v_orderMany, .ref q_then, .ref q_bestOrder, .ref q_lineThen, .ref q_undos, .ref q_was, .int v_undoMany, .int v_drawn, .ref q_kept, .ref q_isKept])), (q_now, .inl (cJ, 120, .inr (.inl v_now))), (q_row, .inl (cJ, 64, .inr (.inl v_row)))] → va_S A s.heap H locs → lv_has ls 5 [] → W p l e rm_X10_take s m args below meth c H locs 0 0 QQ (F0 m 85 ls [.long v_441, .ref h0]) := by
          intro H locs ls hP hD hS hl
          obtain ⟨o_460, hr_460, h⟩ := ob h
          have hPc := hP.sub (ws' := [(h0, .inr (8, [.ref q_now, .ref q_text, .int v_typed, .ref q_row, .int (0 : Int32), .int (0 : Int32), .int v_length, .int v_at, .int v_wrong, .ref q_read, .ref q_ranks, .ref q_distinct, .ref q_proper, .int v_properMany, .ref q_line, .ref q_order, .int v_orderMany, .ref q_then, .ref q_bestOrder, .ref q_lineThen, .ref q_undos, .ref q_was, .int v_undoMany, .int v_drawn, .ref q_kept, .ref q_isKept])), (q_row, .inl (cJ, 64, .inr (.inl v_row)))]) [0, 2] rfl
          have hDc := hD.sub (ws' := [(h0, .inr (8, [.ref q_now, .ref q_text, .int v_typed, .ref q_row, .int (0 : Int32), .int (0 : Int32), .int v_length, .int v_at, .int v_wrong, .ref q_read, .ref q_ranks, .ref q_distinct, .ref q_proper, .int v_properMany, .ref q_line, .ref q_order, .int v_orderMany, .ref q_then, .ref q_bestOrder, .ref q_lineThen, .ref q_undos, .ref q_was, .int v_undoMany, .int v_drawn, .ref q_kept, .ref q_isKept])), (q_row, .inl (cJ, 64, .inr (.inl v_row)))]) [0, 2] (by decide) rfl
          have hFc := va_free (wc := [(h0, .inr (8, [.ref q_now, .ref q_text, .int v_typed, .ref q_row, .int (0 : Int32), .int (0 : Int32), .int v_length, .int v_at, .int v_wrong, .ref q_read, .ref q_ranks, .ref q_distinct, .ref q_proper, .int v_properMany, .ref q_line, .ref q_order, .int v_orderMany, .ref q_then, .ref q_bestOrder, .ref q_lineThen, .ref q_undos, .ref q_was, .int v_undoMany, .int v_drawn, .ref q_kept, .ref q_isKept])), (q_row, .inl (cJ, 64, .inr (.inl v_row)))]) hD hS hA [0, 2] rfl
          refine va_callv (va_runV (As := [.long v_441]) (rest := []) ⟨hx, hb, hml, hown, hts⟩ (c_X10_tell l dC dI cB cC cI cJ cZ cT h0 q_now q_text q_row q_read q_ranks q_distinct q_proper q_line q_order q_then q_bestOrder q_lineThen q_undos q_was q_kept q_isKept H.size v_typed (0 : Int32) (0 : Int32) v_length v_at v_wrong v_properMany v_orderMany v_undoMany v_drawn v_row v_441 o_460 hr_460) (cwV 1 hts gX10_take_X10_tell rfl rfl rfl (by decide +kernel) ⟨Nat.le_of_ble_eq_true rfl, Nat.le_of_ble_eq_true rfl⟩) ⟨blW, va_recv hK hP (ci := 8) (q0 := 0) rfl rfl, fun U hU hW => ⟨rfl, by rw [hU], by rw [hU]; exact hPc, va_K.moved hW.alike hK, hDc.weaken (fun _ _ _ _ => trivial)⟩⟩ rfl rfl hl.1 rfl (lv_room (Nat.le_of_ble_eq_true rfl)) dX10_take_85 ⟨Nat.le_of_ble_eq_true rfl, Nat.le_of_ble_eq_true rfl⟩) hS (fun q _ h => hFc q h) hFc (fun u_460 t_460 H locs ht hvm e_460 hB hz1 hk1 hS => ?_)
          obtain ⟨hP1, -, hD1⟩ := hB
          rw [ht] at hP1
          obtain ⟨hP, hD⟩ := va_join (wr := [(q_now, .inl (cJ, 120, .inr (.inl v_now)))]) (w1 := [(h0, .inr (8, [.ref q_now, .ref q_text, .int v_typed, .ref q_row, .int o_460.1, .int (0 : Int32), .int v_length, .int v_at, .int v_wrong, .ref q_read, .ref q_ranks, .ref q_distinct, .ref q_proper, .int v_properMany, .ref q_line, .ref q_order, .int v_orderMany, .ref q_then, .ref q_bestOrder, .ref q_lineThen, .ref q_undos, .ref q_was, .int v_undoMany, .int v_drawn, .ref q_kept, .ref q_isKept])), (q_row, .inl (cJ, 64, .inr (.inl o_460.2)))]) hP hD [0, 2] [1] rfl rfl (by decide) (by decide) hk1 hFc hP1 hD1
          replace hP := hP.sub (ws' := [(h0, .inr (8, [.ref q_now, .ref q_text, .int v_typed, .ref q_row, .int o_460.1, .int (0 : Int32), .int v_length, .int v_at, .int v_wrong, .ref q_read, .ref q_ranks, .ref q_distinct, .ref q_proper, .int v_properMany, .ref q_line, .ref q_order, .int v_orderMany, .ref q_then, .ref q_bestOrder, .ref q_lineThen, .ref q_undos, .ref q_was, .int v_undoMany, .int v_drawn, .ref q_kept, .ref q_isKept])), (q_now, .inl (cJ, 120, .inr (.inl v_now))), (q_row, .inl (cJ, 64, .inr (.inl o_460.2)))]) [1, 0, 2] rfl
          replace hD := hD.sub (ws' := [(h0, .inr (8, [.ref q_now, .ref q_text, .int v_typed, .ref q_row, .int o_460.1, .int (0 : Int32), .int v_length, .int v_at, .int v_wrong, .ref q_read, .ref q_ranks, .ref q_distinct, .ref q_proper, .int v_properMany, .ref q_line, .ref q_order, .int v_orderMany, .ref q_then, .ref q_bestOrder, .ref q_lineThen, .ref q_undos, .ref q_was, .int v_undoMany, .int v_drawn, .ref q_kept, .ref q_isKept])), (q_now, .inl (cJ, 120, .inr (.inl v_now))), (q_row, .inl (cJ, 64, .inr (.inl o_460.2)))]) [1, 0, 2] (by decide) rfl
          refine lv_iconst (v := 0) hx hb dX10_take_88 (by decide) ?_
          rw [hQQ]
          have ho := Option.some.inj h
          subst ho
          exact W.iret hx hb hr (fun t ht hW => ⟨⟨_, (), rfl, rfl, by rw [ht]; exact hP, va_K.moved hW.alike hK, hD⟩, hS.F ht⟩) hS.2.2 dX10_take_89
        replace h := hv_441
        refine lv_icmp_ne (tgt := 70) hx hb dX10_take_58 (by decide) (fun c_451 => ?_) (fun c_451 => ?_)
        · replace h := on c_451 h
          refine lv_aload_n hx hb dX10_take_70 rfl (lv_at hl 1 rfl) ?_
          refine lv_iload_n hx hb dX10_take_71 rfl (lv_at hl 2 rfl) ?_
          refine lv_iload_n hx hb dX10_take_72 rfl (lv_at hl 3 rfl) ?_
          obtain ⟨o_452, hr_452, h⟩ := ob h
          refine vp_callSl (va_Run.run (va_runV (As := [.int x1, .int x2]) (rest := [.ref h0]) ⟨hx, hb, hml, hown, hts⟩ (c_X10_cell l dC dI cB cC cI cJ cZ cT h0 q_now q_text q_row q_read q_ranks q_distinct q_proper q_line q_order q_then q_bestOrder q_lineThen q_undos q_was q_kept q_isKept v_typed (0 : Int32) (0 : Int32) v_length v_at v_wrong v_properMany v_orderMany v_undoMany v_drawn v_now x1 x2 o_452 hr_452) (cwV 2 hts gX10_take_X10_cell rfl rfl rfl (by decide +kernel) ⟨Nat.le_of_ble_eq_true rfl, Nat.le_of_ble_eq_true rfl⟩) ⟨blR, va_recv hK hP (ci := 8) (q0 := 0) rfl rfl, fun U hU hW => ⟨rfl, by rw [hU]; exact hP.sub [0, 1] rfl, va_K.moved hW.alike hK⟩⟩ rfl rfl hl.1 rfl (lv_room (Nat.le_of_ble_eq_true rfl)) dX10_take_73 ⟨Nat.le_of_ble_eq_true rfl, Nat.le_of_ble_eq_true rfl⟩)) (fun r_452 e_452 => ?_)
          subst e_452
          refine lv_aload_n hx hb dX10_take_76 rfl (lv_at hl 1 rfl) ?_
          refine lv_iload_n hx hb dX10_take_77 rfl (lv_at hl 2 rfl) ?_
          obtain ⟨o_454, hr_454, h⟩ := ob h
          refine vp_callSi (va_Run.run (va_runV (As := [.int x1]) (rest := [.long o_452, .ref h0]) ⟨hx, hb, hml, hown, hts⟩ (c_X10_kindOf l dC dI cB cC cI cJ cZ cT h0 q_now q_text q_row q_read q_ranks q_distinct q_proper q_line q_order q_then q_bestOrder q_lineThen q_undos q_was q_kept q_isKept v_typed (0 : Int32) (0 : Int32) v_length v_at v_wrong v_properMany v_orderMany v_undoMany v_drawn v_now x1 o_454 hr_454) (cwV 1 hts gX10_take_X10_kindOf rfl rfl rfl (by decide +kernel) ⟨Nat.le_of_ble_eq_true rfl, Nat.le_of_ble_eq_true rfl⟩) ⟨blR, va_recv hK hP (ci := 8) (q0 := 0) rfl rfl, fun U hU hW => ⟨rfl, by rw [hU]; exact hP.sub [0, 1] rfl, va_K.moved hW.alike hK⟩⟩ rfl rfl hl.1 rfl (lv_room (Nat.le_of_ble_eq_true rfl)) dX10_take_78 ⟨Nat.le_of_ble_eq_true rfl, Nat.le_of_ble_eq_true rfl⟩)) (fun r_454 e_454 => ?_)
          subst e_454
          refine lv_iload_n hx hb dX10_take_81 rfl (lv_at hl 4 rfl) ?_
          obtain ⟨o_456, hr_456, h⟩ := ob h
          refine vp_callSl (va_Run.run (va_runS (As := [.long o_452, .int o_454, .int x3]) (rest := [.ref h0]) ⟨hx, hb, hml, hown, hts⟩ (c_X10_widened l dC dI cB cC cI cJ cZ cT o_452 o_454 x3 o_456 hr_456) (va_cwS 3 hts gX10_take_X10_widened rfl rfl rfl (by decide +kernel) ⟨Nat.le_of_ble_eq_true rfl, Nat.le_of_ble_eq_true rfl⟩) ⟨blT, fun U hU hW => ⟨rfl, trivial⟩⟩ rfl rfl hl.1 rfl (lv_room (Nat.le_of_ble_eq_true rfl)) dX10_take_82 ⟨Nat.le_of_ble_eq_true rfl, Nat.le_of_ble_eq_true rfl⟩)) (fun r_456 e_456 => ?_)
          subst e_456
          have ho := Option.some.inj h
          subst ho
          exact J_441 H _ ls hP hD hS (lv_sub hl [] rfl)
        · replace h := op c_451 h
          refine lv_aload_n hx hb dX10_take_61 rfl (lv_at hl 1 rfl) ?_
          refine lv_iload_n hx hb dX10_take_62 rfl (lv_at hl 2 rfl) ?_
          refine lv_iload_n hx hb dX10_take_63 rfl (lv_at hl 3 rfl) ?_
          obtain ⟨o_458, hr_458, h⟩ := ob h
          refine vp_callSl (va_Run.run (va_runV (As := [.int x1, .int x2]) (rest := [.ref h0]) ⟨hx, hb, hml, hown, hts⟩ (c_X10_cell l dC dI cB cC cI cJ cZ cT h0 q_now q_text q_row q_read q_ranks q_distinct q_proper q_line q_order q_then q_bestOrder q_lineThen q_undos q_was q_kept q_isKept v_typed (0 : Int32) (0 : Int32) v_length v_at v_wrong v_properMany v_orderMany v_undoMany v_drawn v_now x1 x2 o_458 hr_458) (cwV 2 hts gX10_take_X10_cell rfl rfl rfl (by decide +kernel) ⟨Nat.le_of_ble_eq_true rfl, Nat.le_of_ble_eq_true rfl⟩) ⟨blR, va_recv hK hP (ci := 8) (q0 := 0) rfl rfl, fun U hU hW => ⟨rfl, by rw [hU]; exact hP.sub [0, 1] rfl, va_K.moved hW.alike hK⟩⟩ rfl rfl hl.1 rfl (lv_room (Nat.le_of_ble_eq_true rfl)) dX10_take_64 ⟨Nat.le_of_ble_eq_true rfl, Nat.le_of_ble_eq_true rfl⟩)) (fun r_458 e_458 => ?_)
          subst e_458
          refine lv_goto (tgt := 85) hx hb dX10_take_67 (by decide) ?_
          have ho := Option.some.inj h
          subst ho
          exact J_441 H _ ls hP hD hS (lv_sub hl [] rfl)
      · replace h := on c_440 h
        refine lv_iload hx hb dX10_take_45 (lv_at hl 0 rfl) ?_
        refine lv_ineg hx hb dX10_take_47 ?_
        rw [hQQ]
        have ho := Option.some.inj h
        subst ho
        exact W.iret hx hb hr (fun t ht hW => ⟨⟨_, (), rfl, rfl, by rw [ht]; exact hP, va_K.moved hW.alike hK, hD⟩, hS.F ht⟩) hS.2.2 dX10_take_48
    · replace h := op c_437 h
      refine lv_iload_n hx hb dX10_take_23 rfl (lv_at hl 3 rfl) ?_
      refine lv_bipush (v := 10) hx hb dX10_take_24 (by decide) ?_
      refine lv_icmp_eq (tgt := 31) hx hb dX10_take_26 (by decide) (fun c_462 => ?_) (fun c_462 => ?_)
      · replace h := op c_462 h
        refine lv_aload_n hx hb dX10_take_31 rfl (lv_at hl 0 rfl) ?_
        refine lv_iload_n hx hb dX10_take_32 rfl (lv_at hl 1 rfl) ?_
        refine lv_iload_n hx hb dX10_take_33 rfl (lv_at hl 2 rfl) ?_
        refine lv_iload_n hx hb dX10_take_34 rfl (lv_at hl 3 rfl) ?_
        obtain ⟨o_463, hr_463, h⟩ := ob h
        refine vp_callSi (va_Run.run (va_runV (As := [.int x1, .int x2, .int x3]) (rest := []) ⟨hx, hb, hml, hown, hts⟩ (c_X10_whyTaken l dC dI cB cC cI cJ cZ cT h0 q_now q_text q_row q_read q_ranks q_distinct q_proper q_line q_order q_then q_bestOrder q_lineThen q_undos q_was q_kept q_isKept v_typed v_rowMany (0 : Int32) v_length v_at v_wrong v_properMany v_orderMany v_undoMany v_drawn v_now x1 x2 x3 o_463 hr_463) (cwV 3 hts gX10_take_X10_whyTaken rfl rfl rfl (by decide +kernel) ⟨Nat.le_of_ble_eq_true rfl, Nat.le_of_ble_eq_true rfl⟩) ⟨blRX, va_recv hK hP (ci := 8) (q0 := 0) rfl rfl, fun U hU hW => ⟨rfl, by rw [hU]; exact hP.sub [0, 1] rfl, va_K.moved hW.alike hK, by rw [hU]; exact SX.use hW hS hX⟩⟩ rfl rfl hl.1 rfl (lv_room (Nat.le_of_ble_eq_true rfl)) dX10_take_35 ⟨Nat.le_of_ble_eq_true rfl, Nat.le_of_ble_eq_true rfl⟩)) (fun r_463 e_463 => ?_)
        subst e_463
        refine lv_istore (lv' := [(4, .int o_463), (0, .ref h0), (1, .int x1), (2, .int x2), (3, .int x3)]) hx hb dX10_take_38 hl (by decide) rfl (fun ls hl => ?_)
        refine lv_iload hx hb dX10_take_40 (lv_at hl 0 rfl) ?_
        refine lv_if_le (tgt := 49) hx hb dX10_take_42 (by decide) (fun c_465 => ?_) (fun c_465 => ?_)
        · replace h := op c_465 h
          refine lv_aload_n hx hb dX10_take_49 rfl (lv_at hl 1 rfl) ?_
          refine lv_iconst (v := 0) hx hb dX10_take_50 (by decide) ?_
          refine va_put (D := (dC, dI)) (ci := 8) (v := .int (0 : Int32)) (ty := .int) (C := RX10) (T := TX10) (N := 26) hx hb hts hi_X10 tyX10 tyX10_ok nmX10 hown hK hP hD hS 0 rfl rfl 4 (by decide) (hts _ (List.mem_of_getElem? (i := 2) rfl)) (fun _ h9 => h9) rfl (by decide +kernel) rfl rfl (Nat.le_of_ble_eq_true rfl) dX10_take_51 (fun H locs hP hD hS => ?_)
          replace hP : va_P (dC, dI) vwCl [(h0, .inr (8, [.ref q_now, .ref q_text, .int v_typed, .ref q_row, .int (0 : Int32), .int (0 : Int32), .int v_length, .int v_at, .int v_wrong, .ref q_read, .ref q_ranks, .ref q_distinct, .ref q_proper, .int v_properMany, .ref q_line, .ref q_order, .int v_orderMany, .ref q_then, .ref q_bestOrder, .ref q_lineThen, .ref q_undos, .ref q_was, .int v_undoMany, .int v_drawn, .ref q_kept, .ref q_isKept])), (q_now, .inl (cJ, 120, .inr (.inl v_now))), (q_row, .inl (cJ, 64, .inr (.inl v_row)))] H := hP
          replace hD : va_D A [(h0, .inr (8, [.ref q_now, .ref q_text, .int v_typed, .ref q_row, .int (0 : Int32), .int (0 : Int32), .int v_length, .int v_at, .int v_wrong, .ref q_read, .ref q_ranks, .ref q_distinct, .ref q_proper, .int v_properMany, .ref q_line, .ref q_order, .int v_orderMany, .ref q_then, .ref q_bestOrder, .ref q_lineThen, .ref q_undos, .ref q_was, .int v_undoMany, .int v_drawn, .ref q_kept, .ref q_isKept])), (q_now, .inl (cJ, 120, .inr (.inl v_now))), (q_row, .inl (cJ, 64, .inr (.inl v_row)))] := hD
          refine lv_aload_n hx hb dX10_take_54 rfl (lv_at hl 1 rfl) ?_
          refine lv_iload_n hx hb dX10_take_55 rfl (lv_at hl 4 rfl) ?_
          refine lv_bipush (v := 10) hx hb dX10_take_56 (by decide) ?_
          obtain ⟨v_466, hv_466, h⟩ := ob h
          have J_466 : ∀ (H : Heap) (locs : List Loc) (ls : Array Slot), va_P (dC, dI) vwCl [(h0, .inr (8, [.ref q_now, .ref q_text, .int v_typed, .ref q_row, .int (0 : Int32), .int (0 : Int32), .int v_length, .int v_at, .int v_wrong, .ref q_read, .ref q_ranks, .ref q_distinct, .ref q_proper, .int v_properMany, .ref q_line, .ref q_order, .int v_orderMany, .ref q_then, .ref q_bestOrder, .ref q_lineThen, .ref q_undos, .ref q_was, .int v_undoMany, .int v_drawn, .ref q_kept, .ref q_isKept])), (q_now, .inl (cJ, 120, .inr (.inl v_now))), (q_row, .inl (cJ, 64, .inr (.inl v_row)))] H → va_D A [(h0, .inr (8, [.ref q_now, .ref q_text, .int v_typed, .ref q_row, .int (0 : Int32), .int (0 : Int32), .int v_length, .int v_at, .int v_wrong, .ref q_read, .ref q_ranks, .ref q_distinct, .ref q_proper, .int v_properMany, .ref q_line, .ref q_order, .int v_orderMany, .ref q_then, .ref q_bestOrder, .ref q_lineThen, .ref q_undos, .ref q_was, .int v_undoMany, .int v_drawn, .ref q_kept, .ref q_isKept])), (q_now, .inl (cJ, 120, .inr (.inl v_now))), (q_row, .inl (cJ, 64, .inr (.inl v_row)))] → va_S A s.heap H locs → lv_has ls 5 [] → W p l e rm_X10_take s m args below meth c H locs 0 0 QQ (F0 m 85 ls [.long v_466, .ref h0]) := by
            intro H locs ls hP hD hS hl
            obtain ⟨o_485, hr_485, h⟩ := ob h
            have hPc := hP.sub (ws' := [(h0, .inr (8, [.ref q_now, .ref q_text, .int v_typed, .ref q_row, .int (0 : Int32), .int (0 : Int32), .int v_length, .int v_at, .int v_wrong, .ref q_read, .ref q_ranks, .ref q_distinct, .ref q_proper, .int v_properMany, .ref q_line, .ref q_order, .int v_orderMany, .ref q_then, .ref q_bestOrder, .ref q_lineThen, .ref q_undos, .ref q_was, .int v_undoMany, .int v_drawn, .ref q_kept, .ref q_isKept])), (q_row, .inl (cJ, 64, .inr (.inl v_row)))]) [0, 2] rfl
            have hDc := hD.sub (ws' := [(h0, .inr (8, [.ref q_now, .ref q_text, .int v_typed, .ref q_row, .int (0 : Int32), .int (0 : Int32), .int v_length, .int v_at, .int v_wrong, .ref q_read, .ref q_ranks, .ref q_distinct, .ref q_proper, .int v_properMany, .ref q_line, .ref q_order, .int v_orderMany, .ref q_then, .ref q_bestOrder, .ref q_lineThen, .ref q_undos, .ref q_was, .int v_undoMany, .int v_drawn, .ref q_kept, .ref q_isKept])), (q_row, .inl (cJ, 64, .inr (.inl v_row)))]) [0, 2] (by decide) rfl
            have hFc := va_free (wc := [(h0, .inr (8, [.ref q_now, .ref q_text, .int v_typed, .ref q_row, .int (0 : Int32), .int (0 : Int32), .int v_length, .int v_at, .int v_wrong, .ref q_read, .ref q_ranks, .ref q_distinct, .ref q_proper, .int v_properMany, .ref q_line, .ref q_order, .int v_orderMany, .ref q_then, .ref q_bestOrder, .ref q_lineThen, .ref q_undos, .ref q_was, .int v_undoMany, .int v_drawn, .ref q_kept, .ref q_isKept])), (q_row, .inl (cJ, 64, .inr (.inl v_row)))]) hD hS hA [0, 2] rfl
            refine va_callv (va_runV (As := [.long v_466]) (rest := []) ⟨hx, hb, hml, hown, hts⟩ (c_X10_tell l dC dI cB cC cI cJ cZ cT h0 q_now q_text q_row q_read q_ranks q_distinct q_proper q_line q_order q_then q_bestOrder q_lineThen q_undos q_was q_kept q_isKept H.size v_typed (0 : Int32) (0 : Int32) v_length v_at v_wrong v_properMany v_orderMany v_undoMany v_drawn v_row v_466 o_485 hr_485) (cwV 1 hts gX10_take_X10_tell rfl rfl rfl (by decide +kernel) ⟨Nat.le_of_ble_eq_true rfl, Nat.le_of_ble_eq_true rfl⟩) ⟨blW, va_recv hK hP (ci := 8) (q0 := 0) rfl rfl, fun U hU hW => ⟨rfl, by rw [hU], by rw [hU]; exact hPc, va_K.moved hW.alike hK, hDc.weaken (fun _ _ _ _ => trivial)⟩⟩ rfl rfl hl.1 rfl (lv_room (Nat.le_of_ble_eq_true rfl)) dX10_take_85 ⟨Nat.le_of_ble_eq_true rfl, Nat.le_of_ble_eq_true rfl⟩) hS (fun q _ h => hFc q h) hFc (fun u_485 t_485 H locs ht hvm e_485 hB hz1 hk1 hS => ?_)
            obtain ⟨hP1, -, hD1⟩ := hB
            rw [ht] at hP1
            obtain ⟨hP, hD⟩ := va_join (wr := [(q_now, .inl (cJ, 120, .inr (.inl v_now)))]) (w1 := [(h0, .inr (8, [.ref q_now, .ref q_text, .int v_typed, .ref q_row, .int o_485.1, .int (0 : Int32), .int v_length, .int v_at, .int v_wrong, .ref q_read, .ref q_ranks, .ref q_distinct, .ref q_proper, .int v_properMany, .ref q_line, .ref q_order, .int v_orderMany, .ref q_then, .ref q_bestOrder, .ref q_lineThen, .ref q_undos, .ref q_was, .int v_undoMany, .int v_drawn, .ref q_kept, .ref q_isKept])), (q_row, .inl (cJ, 64, .inr (.inl o_485.2)))]) hP hD [0, 2] [1] rfl rfl (by decide) (by decide) hk1 hFc hP1 hD1
            replace hP := hP.sub (ws' := [(h0, .inr (8, [.ref q_now, .ref q_text, .int v_typed, .ref q_row, .int o_485.1, .int (0 : Int32), .int v_length, .int v_at, .int v_wrong, .ref q_read, .ref q_ranks, .ref q_distinct, .ref q_proper, .int v_properMany, .ref q_line, .ref q_order, .int v_orderMany, .ref q_then, .ref q_bestOrder, .ref q_lineThen, .ref q_undos, .ref q_was, .int v_undoMany, .int v_drawn, .ref q_kept, .ref q_isKept])), (q_now, .inl (cJ, 120, .inr (.inl v_now))), (q_row, .inl (cJ, 64, .inr (.inl o_485.2)))]) [1, 0, 2] rfl
            replace hD := hD.sub (ws' := [(h0, .inr (8, [.ref q_now, .ref q_text, .int v_typed, .ref q_row, .int o_485.1, .int (0 : Int32), .int v_length, .int v_at, .int v_wrong, .ref q_read, .ref q_ranks, .ref q_distinct, .ref q_proper, .int v_properMany, .ref q_line, .ref q_order, .int v_orderMany, .ref q_then, .ref q_bestOrder, .ref q_lineThen, .ref q_undos, .ref q_was, .int v_undoMany, .int v_drawn, .ref q_kept, .ref q_isKept])), (q_now, .inl (cJ, 120, .inr (.inl v_now))), (q_row, .inl (cJ, 64, .inr (.inl o_485.2)))]) [1, 0, 2] (by decide) rfl
            refine lv_iconst (v := 0) hx hb dX10_take_88 (by decide) ?_
            rw [hQQ]
            have ho := Option.some.inj h
            subst ho
            exact W.iret hx hb hr (fun t ht hW => ⟨⟨_, (), rfl, rfl, by rw [ht]; exact hP, va_K.moved hW.alike hK, hD⟩, hS.F ht⟩) hS.2.2 dX10_take_89
          replace h := hv_466
          refine lv_icmp_ne (tgt := 70) hx hb dX10_take_58 (by decide) (fun c_476 => ?_) (fun c_476 => ?_)
          · replace h := on c_476 h
            refine lv_aload_n hx hb dX10_take_70 rfl (lv_at hl 1 rfl) ?_
            refine lv_iload_n hx hb dX10_take_71 rfl (lv_at hl 2 rfl) ?_
            refine lv_iload_n hx hb dX10_take_72 rfl (lv_at hl 3 rfl) ?_
            obtain ⟨o_477, hr_477, h⟩ := ob h
            refine vp_callSl (va_Run.run (va_runV (As := [.int x1, .int x2]) (rest := [.ref h0]) ⟨hx, hb, hml, hown, hts⟩ (c_X10_cell l dC dI cB cC cI cJ cZ cT h0 q_now q_text q_row q_read q_ranks q_distinct q_proper q_line q_order q_then q_bestOrder q_lineThen q_undos q_was q_kept q_isKept v_typed (0 : Int32) (0 : Int32) v_length v_at v_wrong v_properMany v_orderMany v_undoMany v_drawn v_now x1 x2 o_477 hr_477) (cwV 2 hts gX10_take_X10_cell rfl rfl rfl (by decide +kernel) ⟨Nat.le_of_ble_eq_true rfl, Nat.le_of_ble_eq_true rfl⟩) ⟨blR, va_recv hK hP (ci := 8) (q0 := 0) rfl rfl, fun U hU hW => ⟨rfl, by rw [hU]; exact hP.sub [0, 1] rfl, va_K.moved hW.alike hK⟩⟩ rfl rfl hl.1 rfl (lv_room (Nat.le_of_ble_eq_true rfl)) dX10_take_73 ⟨Nat.le_of_ble_eq_true rfl, Nat.le_of_ble_eq_true rfl⟩)) (fun r_477 e_477 => ?_)
            subst e_477
            refine lv_aload_n hx hb dX10_take_76 rfl (lv_at hl 1 rfl) ?_
            refine lv_iload_n hx hb dX10_take_77 rfl (lv_at hl 2 rfl) ?_
            obtain ⟨o_479, hr_479, h⟩ := ob h
            refine vp_callSi (va_Run.run (va_runV (As := [.int x1]) (rest := [.long o_477, .ref h0]) ⟨hx, hb, hml, hown, hts⟩ (c_X10_kindOf l dC dI cB cC cI cJ cZ cT h0 q_now q_text q_row q_read q_ranks q_distinct q_proper q_line q_order q_then q_bestOrder q_lineThen q_undos q_was q_kept q_isKept v_typed (0 : Int32) (0 : Int32) v_length v_at v_wrong v_properMany v_orderMany v_undoMany v_drawn v_now x1 o_479 hr_479) (cwV 1 hts gX10_take_X10_kindOf rfl rfl rfl (by decide +kernel) ⟨Nat.le_of_ble_eq_true rfl, Nat.le_of_ble_eq_true rfl⟩) ⟨blR, va_recv hK hP (ci := 8) (q0 := 0) rfl rfl, fun U hU hW => ⟨rfl, by rw [hU]; exact hP.sub [0, 1] rfl, va_K.moved hW.alike hK⟩⟩ rfl rfl hl.1 rfl (lv_room (Nat.le_of_ble_eq_true rfl)) dX10_take_78 ⟨Nat.le_of_ble_eq_true rfl, Nat.le_of_ble_eq_true rfl⟩)) (fun r_479 e_479 => ?_)
            subst e_479
            refine lv_iload_n hx hb dX10_take_81 rfl (lv_at hl 4 rfl) ?_
            obtain ⟨o_481, hr_481, h⟩ := ob h
            refine vp_callSl (va_Run.run (va_runS (As := [.long o_477, .int o_479, .int x3]) (rest := [.ref h0]) ⟨hx, hb, hml, hown, hts⟩ (c_X10_widened l dC dI cB cC cI cJ cZ cT o_477 o_479 x3 o_481 hr_481) (va_cwS 3 hts gX10_take_X10_widened rfl rfl rfl (by decide +kernel) ⟨Nat.le_of_ble_eq_true rfl, Nat.le_of_ble_eq_true rfl⟩) ⟨blT, fun U hU hW => ⟨rfl, trivial⟩⟩ rfl rfl hl.1 rfl (lv_room (Nat.le_of_ble_eq_true rfl)) dX10_take_82 ⟨Nat.le_of_ble_eq_true rfl, Nat.le_of_ble_eq_true rfl⟩)) (fun r_481 e_481 => ?_)
            subst e_481
            have ho := Option.some.inj h
            subst ho
            exact J_466 H _ ls hP hD hS (lv_sub hl [] rfl)
          · replace h := op c_476 h
            refine lv_aload_n hx hb dX10_take_61 rfl (lv_at hl 1 rfl) ?_
            refine lv_iload_n hx hb dX10_take_62 rfl (lv_at hl 2 rfl) ?_
            refine lv_iload_n hx hb dX10_take_63 rfl (lv_at hl 3 rfl) ?_
            obtain ⟨o_483, hr_483, h⟩ := ob h
            refine vp_callSl (va_Run.run (va_runV (As := [.int x1, .int x2]) (rest := [.ref h0]) ⟨hx, hb, hml, hown, hts⟩ (c_X10_cell l dC dI cB cC cI cJ cZ cT h0 q_now q_text q_row q_read q_ranks q_distinct q_proper q_line q_order q_then q_bestOrder q_lineThen q_undos q_was q_kept q_isKept v_typed (0 : Int32) (0 : Int32) v_length v_at v_wrong v_properMany v_orderMany v_undoMany v_drawn v_now x1 x2 o_483 hr_483) (cwV 2 hts gX10_take_X10_cell rfl rfl rfl (by decide +kernel) ⟨Nat.le_of_ble_eq_true rfl, Nat.le_of_ble_eq_true rfl⟩) ⟨blR, va_recv hK hP (ci := 8) (q0 := 0) rfl rfl, fun U hU hW => ⟨rfl, by rw [hU]; exact hP.sub [0, 1] rfl, va_K.moved hW.alike hK⟩⟩ rfl rfl hl.1 rfl (lv_room (Nat.le_of_ble_eq_true rfl)) dX10_take_64 ⟨Nat.le_of_ble_eq_true rfl, Nat.le_of_ble_eq_true rfl⟩)) (fun r_483 e_483 => ?_)
            subst e_483
            refine lv_goto (tgt := 85) hx hb dX10_take_67 (by decide) ?_
            have ho := Option.some.inj h
            subst ho
            exact J_466 H _ ls hP hD hS (lv_sub hl [] rfl)
        · replace h := on c_465 h
          refine lv_iload hx hb dX10_take_45 (lv_at hl 0 rfl) ?_
          refine lv_ineg hx hb dX10_take_47 ?_
          rw [hQQ]
          have ho := Option.some.inj h
          subst ho
          exact W.iret hx hb hr (fun t ht hW => ⟨⟨_, (), rfl, rfl, by rw [ht]; exact hP, va_K.moved hW.alike hK, hD⟩, hS.F ht⟩) hS.2.2 dX10_take_48
      · replace h := on c_462 h
        refine lv_iconst (v := -1) hx hb dX10_take_29 (by decide) ?_
        rw [hQQ]
        have ho := Option.some.inj h
        subst ho
        exact W.iret hx hb hr (fun t ht hW => ⟨⟨_, (), rfl, rfl, by rw [ht]; exact hP, va_K.moved hW.alike hK, hD⟩, hS.F ht⟩) hS.2.2 dX10_take_30
def f_X10_length (v_now : Nat → Int64) (x1 : Int32) : Option (Int32 × Int32) :=
  ((f_X10_isColumn v_now x1).bind (fun o_487 => (if (b2i o_487) = 0 then (some ((-1 : Int32), (0 : Int32))) else ((f_X10_whyNoRow v_now x1).bind (fun o_490 => (if o_490 ≤ 0 then ((f_X10_rows v_now).bind (fun o_493 => (some (o_493, (0 : Int32))))) else ((f_X10_whyNoRow v_now x1).bind (fun o_495 => (some ((-o_495), (0 : Int32)))))))))))
abbrev rm_X10_length : Room := { frames := 2, cells := 0, slots := 0, locals := 43 }
set_option maxHeartbeats 4000000 in
set_option maxRecDepth 100000 in
theorem c_X10_length (l : Launch) (dC : Nat → ClassId) (dI : Nat → Nat → Nat) (cB cC cI cJ cZ cT : ClassId) (h0 q_now q_text q_row q_read q_ranks q_distinct q_proper q_line q_order q_then q_bestOrder q_lineThen q_undos q_was q_kept q_isKept : Nat) (sz : Nat) (v_typed : Int32) (v_rowMany : Int32) (v_thrown : Int32) (v_length : Int32) (v_at : Int32) (v_wrong : Int32) (v_properMany : Int32) (v_orderMany : Int32) (v_undoMany : Int32) (v_drawn : Int32) (v_now : Nat → Int64) (x1 : Int32) (o : (Int32 × Int32)) (hf : f_X10_length v_now x1 = some o) : Met l yX10_length wsX10_length rm_X10_length (va_Pc [.ref h0, .int x1] (fun U => U.heap.size = sz ∧ va_P (dC, dI) vwCl [(h0, .inr (8, [.ref q_now, .ref q_text, .int v_typed, .ref q_row, .int v_rowMany, .int v_thrown, .int v_length, .int v_at, .int v_wrong, .ref q_read, .ref q_ranks, .ref q_distinct, .ref q_proper, .int v_properMany, .ref q_line, .ref q_order, .int v_orderMany, .ref q_then, .ref q_bestOrder, .ref q_lineThen, .ref q_undos, .ref q_was, .int v_undoMany, .int v_drawn, .ref q_kept, .ref q_isKept])), (q_now, .inl (cJ, 120, .inr (.inl v_now)))] U.heap ∧ va_K (dC, dI) vwCl (tyA cB cC cI cJ cZ cT) U ∧ va_D (fun _ => True) [(h0, .inr (8, [.ref q_now, .ref q_text, .int v_typed, .ref q_row, .int v_rowMany, .int v_thrown, .int v_length, .int v_at, .int v_wrong, .ref q_read, .ref q_ranks, .ref q_distinct, .ref q_proper, .int v_properMany, .ref q_line, .ref q_order, .int v_orderMany, .ref q_then, .ref q_bestOrder, .ref q_lineThen, .ref q_undos, .ref q_was, .int v_undoMany, .int v_drawn, .ref q_kept, .ref q_isKept])), (q_now, .inl (cJ, 120, .inr (.inl v_now)))])) (va_Qi (fun (r : Int32) (_ : Unit) => o.1 = r) (fun _ t => va_P (dC, dI) vwCl [(h0, .inr (8, [.ref q_now, .ref q_text, .int v_typed, .ref q_row, .int v_rowMany, .int o.2, .int v_length, .int v_at, .int v_wrong, .ref q_read, .ref q_ranks, .ref q_distinct, .ref q_proper, .int v_properMany, .ref q_line, .ref q_order, .int v_orderMany, .ref q_then, .ref q_bestOrder, .ref q_lineThen, .ref q_undos, .ref q_was, .int v_undoMany, .int v_drawn, .ref q_kept, .ref q_isKept])), (q_now, .inl (cJ, 120, .inr (.inl v_now)))] t.heap ∧ va_K (dC, dI) vwCl (tyA cB cC cI cJ cZ cT) t ∧ va_D (va_A [(h0, .inr (8, [.ref q_now, .ref q_text, .int v_typed, .ref q_row, .int v_rowMany, .int v_thrown, .int v_length, .int v_at, .int v_wrong, .ref q_read, .ref q_ranks, .ref q_distinct, .ref q_proper, .int v_properMany, .ref q_line, .ref q_order, .int v_orderMany, .ref q_then, .ref q_bestOrder, .ref q_lineThen, .ref q_undos, .ref q_was, .int v_undoMany, .int v_drawn, .ref q_kept, .ref q_isKept])), (q_now, .inl (cJ, 120, .inr (.inl v_now)))] sz) [(h0, .inr (8, [.ref q_now, .ref q_text, .int v_typed, .ref q_row, .int v_rowMany, .int o.2, .int v_length, .int v_at, .int v_wrong, .ref q_read, .ref q_ranks, .ref q_distinct, .ref q_proper, .int v_properMany, .ref q_line, .ref q_order, .int v_orderMany, .ref q_then, .ref q_bestOrder, .ref q_lineThen, .ref q_undos, .ref q_was, .int v_undoMany, .int v_drawn, .ref q_kept, .ref q_isKept])), (q_now, .inl (cJ, 120, .inr (.inl v_now)))]) (va_A [(h0, .inr (8, [.ref q_now, .ref q_text, .int v_typed, .ref q_row, .int v_rowMany, .int v_thrown, .int v_length, .int v_at, .int v_wrong, .ref q_read, .ref q_ranks, .ref q_distinct, .ref q_proper, .int v_properMany, .ref q_line, .ref q_order, .int v_orderMany, .ref q_then, .ref q_bestOrder, .ref q_lineThen, .ref q_undos, .ref q_was, .int v_undoMany, .int v_drawn, .ref q_kept, .ref q_isKept])), (q_now, .inl (cJ, 120, .inr (.inl v_now)))] sz)) 0 0 (va_A [(h0, .inr (8, [.ref q_now, .ref q_text, .int v_typed, .ref q_row, .int v_rowMany, .int v_thrown, .int v_length, .int v_at, .int v_wrong, .ref q_read, .ref q_ranks, .ref q_distinct, .ref q_proper, .int v_properMany, .ref q_line, .ref q_order, .int v_orderMany, .ref q_then, .ref q_bestOrder, .ref q_lineThen, .ref q_undos, .ref q_was, .int v_undoMany, .int v_drawn, .ref q_kept, .ref q_isKept])), (q_now, .inl (cJ, 120, .inr (.inl v_now)))] sz) := by
  refine Met.ofW (cc := cX10_length) (maxL := 2) (ret := (some .int)) (by decide +kernel) rfl ?_
  intro p e s m args below meth c s₁ B hml hv
  obtain ⟨hav, hsz, hP, hK, hD0⟩ := hv
  have hx := B.exec
  have hb := B.bytes
  have hr := B.returns
  have hts := atoms_spec (ws := wsX10_length) B.pre
  have hown : s.vm.findClass RX10 = some m.cls := findClass_of_methodNamed B.named
  have hlocks := B.notSynchronized
  subst hsz
  have hD := hD0.self (sz := s.heap.size)
  generalize hAe : va_A [(h0, .inr (8, [.ref q_now, .ref q_text, .int v_typed, .ref q_row, .int v_rowMany, .int v_thrown, .int v_length, .int v_at, .int v_wrong, .ref q_read, .ref q_ranks, .ref q_distinct, .ref q_proper, .int v_properMany, .ref q_line, .ref q_order, .int v_orderMany, .ref q_then, .ref q_bestOrder, .ref q_lineThen, .ref q_undos, .ref q_was, .int v_undoMany, .int v_drawn, .ref q_kept, .ref q_isKept])), (q_now, .inl (cJ, 120, .inr (.inl v_now)))] s.heap.size = A at hD ⊢
  have hA : ∀ q : Nat, s.heap.size ≤ q → A q := fun q h => by rw [← hAe]; exact Or.inr h
  have hS : va_S A s.heap s.heap [] := va_S.rf
  refine wstart (rm := rm_X10_length) hav (Nat.le_of_ble_eq_true rfl) (fun QQ ls hQQ hl => ?_)
  have hl : lv_has ls 2 [(0, .ref h0), (1, .int x1)] := hl
  have hi_X10 : ∀ w ∈ u_ws RX10 TX10 26, w ∈ wsX10_length := by decide +kernel
  have h := hf
  unfold f_X10_length at h
  refine lv_aload_n hx hb dX10_length_0 rfl (lv_at hl 0 rfl) ?_
  refine lv_iconst (v := 0) hx hb dX10_length_1 (by decide) ?_
  refine va_put (D := (dC, dI)) (ci := 8) (v := .int (0 : Int32)) (ty := .int) (C := RX10) (T := TX10) (N := 26) hx hb hts hi_X10 tyX10 tyX10_ok nmX10 hown hK hP hD hS 0 rfl rfl 5 (by decide) (hts _ (List.mem_of_getElem? (i := 1) rfl)) (fun _ h9 => h9) rfl (by decide +kernel) rfl rfl (Nat.le_of_ble_eq_true rfl) dX10_length_2 (fun H locs hP hD hS => ?_)
  replace hP : va_P (dC, dI) vwCl [(h0, .inr (8, [.ref q_now, .ref q_text, .int v_typed, .ref q_row, .int v_rowMany, .int (0 : Int32), .int v_length, .int v_at, .int v_wrong, .ref q_read, .ref q_ranks, .ref q_distinct, .ref q_proper, .int v_properMany, .ref q_line, .ref q_order, .int v_orderMany, .ref q_then, .ref q_bestOrder, .ref q_lineThen, .ref q_undos, .ref q_was, .int v_undoMany, .int v_drawn, .ref q_kept, .ref q_isKept])), (q_now, .inl (cJ, 120, .inr (.inl v_now)))] H := hP
  replace hD : va_D A [(h0, .inr (8, [.ref q_now, .ref q_text, .int v_typed, .ref q_row, .int v_rowMany, .int (0 : Int32), .int v_length, .int v_at, .int v_wrong, .ref q_read, .ref q_ranks, .ref q_distinct, .ref q_proper, .int v_properMany, .ref q_line, .ref q_order, .int v_orderMany, .ref q_then, .ref q_bestOrder, .ref q_lineThen, .ref q_undos, .ref q_was, .int v_undoMany, .int v_drawn, .ref q_kept, .ref q_isKept])), (q_now, .inl (cJ, 120, .inr (.inl v_now)))] := hD
  refine lv_aload_n hx hb dX10_length_5 rfl (lv_at hl 0 rfl) ?_
  refine lv_iload_n hx hb dX10_length_6 rfl (lv_at hl 1 rfl) ?_
  obtain ⟨o_487, hr_487, h⟩ := ob h
  refine vp_callSi (va_Run.run (va_runV (As := [.int x1]) (rest := []) ⟨hx, hb, hml, hown, hts⟩ (c_X10_isColumn l dC dI cB cC cI cJ cZ cT h0 q_now q_text q_row q_read q_ranks q_distinct q_proper q_line q_order q_then q_bestOrder q_lineThen q_undos q_was q_kept q_isKept v_typed v_rowMany (0 : Int32) v_length v_at v_wrong v_properMany v_orderMany v_undoMany v_drawn v_now x1 o_487 hr_487) (cwV 1 hts gX10_length_X10_isColumn rfl rfl rfl (by decide +kernel) ⟨Nat.le_of_ble_eq_true rfl, Nat.le_of_ble_eq_true rfl⟩) ⟨blR, va_recv hK hP (ci := 8) (q0 := 0) rfl rfl, fun U hU hW => ⟨rfl, by rw [hU]; exact hP.sub [0, 1] rfl, va_K.moved hW.alike hK⟩⟩ rfl rfl hl.1 rfl (lv_room (Nat.le_of_ble_eq_true rfl)) dX10_length_7 ⟨Nat.le_of_ble_eq_true rfl, Nat.le_of_ble_eq_true rfl⟩)) (fun r_487 e_487 => ?_)
  subst e_487
  refine lv_if_ne (tgt := 15) hx hb dX10_length_10 (by decide) (fun c_489 => ?_) (fun c_489 => ?_)
  · replace h := on c_489 h
    refine lv_aload_n hx hb dX10_length_15 rfl (lv_at hl 0 rfl) ?_
    refine lv_iload_n hx hb dX10_length_16 rfl (lv_at hl 1 rfl) ?_
    obtain ⟨o_490, hr_490, h⟩ := ob h
    refine vp_callSi (va_Run.run (va_runV (As := [.int x1]) (rest := []) ⟨hx, hb, hml, hown, hts⟩ (c_X10_whyNoRow l dC dI cB cC cI cJ cZ cT h0 q_now q_text q_row q_read q_ranks q_distinct q_proper q_line q_order q_then q_bestOrder q_lineThen q_undos q_was q_kept q_isKept v_typed v_rowMany (0 : Int32) v_length v_at v_wrong v_properMany v_orderMany v_undoMany v_drawn v_now x1 o_490 hr_490) (cwV 1 hts gX10_length_X10_whyNoRow rfl rfl rfl (by decide +kernel) ⟨Nat.le_of_ble_eq_true rfl, Nat.le_of_ble_eq_true rfl⟩) ⟨blR, va_recv hK hP (ci := 8) (q0 := 0) rfl rfl, fun U hU hW => ⟨rfl, by rw [hU]; exact hP.sub [0, 1] rfl, va_K.moved hW.alike hK⟩⟩ rfl rfl hl.1 rfl (lv_room (Nat.le_of_ble_eq_true rfl)) dX10_length_17 ⟨Nat.le_of_ble_eq_true rfl, Nat.le_of_ble_eq_true rfl⟩)) (fun r_490 e_490 => ?_)
    subst e_490
    refine lv_if_le (tgt := 32) hx hb dX10_length_20 (by decide) (fun c_492 => ?_) (fun c_492 => ?_)
    · replace h := op c_492 h
      refine lv_aload_n hx hb dX10_length_32 rfl (lv_at hl 0 rfl) ?_
      obtain ⟨o_493, hr_493, h⟩ := ob h
      refine vp_callSi (va_Run.run (va_runV (As := []) (rest := []) ⟨hx, hb, hml, hown, hts⟩ (c_X10_rows l dC dI cB cC cI cJ cZ cT h0 q_now q_text q_row q_read q_ranks q_distinct q_proper q_line q_order q_then q_bestOrder q_lineThen q_undos q_was q_kept q_isKept v_typed v_rowMany (0 : Int32) v_length v_at v_wrong v_properMany v_orderMany v_undoMany v_drawn v_now o_493 hr_493) (cwV 0 hts gX10_length_X10_rows rfl rfl rfl (by decide +kernel) ⟨Nat.le_of_ble_eq_true rfl, Nat.le_of_ble_eq_true rfl⟩) ⟨blR, va_recv hK hP (ci := 8) (q0 := 0) rfl rfl, fun U hU hW => ⟨rfl, by rw [hU]; exact hP.sub [0, 1] rfl, va_K.moved hW.alike hK⟩⟩ rfl rfl hl.1 rfl (lv_room (Nat.le_of_ble_eq_true rfl)) dX10_length_33 ⟨Nat.le_of_ble_eq_true rfl, Nat.le_of_ble_eq_true rfl⟩)) (fun r_493 e_493 => ?_)
      subst e_493
      rw [hQQ]
      have ho := Option.some.inj h
      subst ho
      exact W.iret hx hb hr (fun t ht hW => ⟨⟨_, (), rfl, rfl, by rw [ht]; exact hP, va_K.moved hW.alike hK, hD⟩, hS.F ht⟩) hS.2.2 dX10_length_36
    · replace h := on c_492 h
      refine lv_aload_n hx hb dX10_length_23 rfl (lv_at hl 0 rfl) ?_
      refine lv_iload_n hx hb dX10_length_24 rfl (lv_at hl 1 rfl) ?_
      obtain ⟨o_495, hr_495, h⟩ := ob h
      refine vp_callSi (va_Run.run (va_runV (As := [.int x1]) (rest := []) ⟨hx, hb, hml, hown, hts⟩ (c_X10_whyNoRow l dC dI cB cC cI cJ cZ cT h0 q_now q_text q_row q_read q_ranks q_distinct q_proper q_line q_order q_then q_bestOrder q_lineThen q_undos q_was q_kept q_isKept v_typed v_rowMany (0 : Int32) v_length v_at v_wrong v_properMany v_orderMany v_undoMany v_drawn v_now x1 o_495 hr_495) (cwV 1 hts gX10_length_X10_whyNoRow rfl rfl rfl (by decide +kernel) ⟨Nat.le_of_ble_eq_true rfl, Nat.le_of_ble_eq_true rfl⟩) ⟨blR, va_recv hK hP (ci := 8) (q0 := 0) rfl rfl, fun U hU hW => ⟨rfl, by rw [hU]; exact hP.sub [0, 1] rfl, va_K.moved hW.alike hK⟩⟩ rfl rfl hl.1 rfl (lv_room (Nat.le_of_ble_eq_true rfl)) dX10_length_25 ⟨Nat.le_of_ble_eq_true rfl, Nat.le_of_ble_eq_true rfl⟩)) (fun r_495 e_495 => ?_)
      subst e_495
      refine lv_ineg hx hb dX10_length_28 ?_
      refine lv_goto (tgt := 36) hx hb dX10_length_29 (by decide) ?_
      rw [hQQ]
      have ho := Option.some.inj h
      subst ho
      exact W.iret hx hb hr (fun t ht hW => ⟨⟨_, (), rfl, rfl, by rw [ht]; exact hP, va_K.moved hW.alike hK, hD⟩, hS.F ht⟩) hS.2.2 dX10_length_36
  · replace h := op c_489 h
    refine lv_iconst (v := -1) hx hb dX10_length_13 (by decide) ?_
    rw [hQQ]
    have ho := Option.some.inj h
    subst ho
    exact W.iret hx hb hr (fun t ht hW => ⟨⟨_, (), rfl, rfl, by rw [ht]; exact hP, va_K.moved hW.alike hK, hD⟩, hS.F ht⟩) hS.2.2 dX10_length_14
def f_X10_kind (v_now : Nat → Int64) (x1 : Int32) : Option (Int32 × Int32) :=
  ((f_X10_isColumn v_now x1).bind (fun o_497 => (if (b2i o_497) = 0 then (some ((-1 : Int32), (0 : Int32))) else ((f_X10_kindOf v_now x1).bind (fun o_500 => (some (o_500, (0 : Int32))))))))
abbrev rm_X10_kind : Room := { frames := 2, cells := 0, slots := 0, locals := 43 }
set_option maxHeartbeats 4000000 in
set_option maxRecDepth 100000 in
theorem c_X10_kind (l : Launch) (dC : Nat → ClassId) (dI : Nat → Nat → Nat) (cB cC cI cJ cZ cT : ClassId) (h0 q_now q_text q_row q_read q_ranks q_distinct q_proper q_line q_order q_then q_bestOrder q_lineThen q_undos q_was q_kept q_isKept : Nat) (sz : Nat) (v_typed : Int32) (v_rowMany : Int32) (v_thrown : Int32) (v_length : Int32) (v_at : Int32) (v_wrong : Int32) (v_properMany : Int32) (v_orderMany : Int32) (v_undoMany : Int32) (v_drawn : Int32) (v_now : Nat → Int64) (x1 : Int32) (o : (Int32 × Int32)) (hf : f_X10_kind v_now x1 = some o) : Met l yX10_kind wsX10_kind rm_X10_kind (va_Pc [.ref h0, .int x1] (fun U => U.heap.size = sz ∧ va_P (dC, dI) vwCl [(h0, .inr (8, [.ref q_now, .ref q_text, .int v_typed, .ref q_row, .int v_rowMany, .int v_thrown, .int v_length, .int v_at, .int v_wrong, .ref q_read, .ref q_ranks, .ref q_distinct, .ref q_proper, .int v_properMany, .ref q_line, .ref q_order, .int v_orderMany, .ref q_then, .ref q_bestOrder, .ref q_lineThen, .ref q_undos, .ref q_was, .int v_undoMany, .int v_drawn, .ref q_kept, .ref q_isKept])), (q_now, .inl (cJ, 120, .inr (.inl v_now)))] U.heap ∧ va_K (dC, dI) vwCl (tyA cB cC cI cJ cZ cT) U ∧ va_D (fun _ => True) [(h0, .inr (8, [.ref q_now, .ref q_text, .int v_typed, .ref q_row, .int v_rowMany, .int v_thrown, .int v_length, .int v_at, .int v_wrong, .ref q_read, .ref q_ranks, .ref q_distinct, .ref q_proper, .int v_properMany, .ref q_line, .ref q_order, .int v_orderMany, .ref q_then, .ref q_bestOrder, .ref q_lineThen, .ref q_undos, .ref q_was, .int v_undoMany, .int v_drawn, .ref q_kept, .ref q_isKept])), (q_now, .inl (cJ, 120, .inr (.inl v_now)))])) (va_Qi (fun (r : Int32) (_ : Unit) => o.1 = r) (fun _ t => va_P (dC, dI) vwCl [(h0, .inr (8, [.ref q_now, .ref q_text, .int v_typed, .ref q_row, .int v_rowMany, .int o.2, .int v_length, .int v_at, .int v_wrong, .ref q_read, .ref q_ranks, .ref q_distinct, .ref q_proper, .int v_properMany, .ref q_line, .ref q_order, .int v_orderMany, .ref q_then, .ref q_bestOrder, .ref q_lineThen, .ref q_undos, .ref q_was, .int v_undoMany, .int v_drawn, .ref q_kept, .ref q_isKept])), (q_now, .inl (cJ, 120, .inr (.inl v_now)))] t.heap ∧ va_K (dC, dI) vwCl (tyA cB cC cI cJ cZ cT) t ∧ va_D (va_A [(h0, .inr (8, [.ref q_now, .ref q_text, .int v_typed, .ref q_row, .int v_rowMany, .int v_thrown, .int v_length, .int v_at, .int v_wrong, .ref q_read, .ref q_ranks, .ref q_distinct, .ref q_proper, .int v_properMany, .ref q_line, .ref q_order, .int v_orderMany, .ref q_then, .ref q_bestOrder, .ref q_lineThen, .ref q_undos, .ref q_was, .int v_undoMany, .int v_drawn, .ref q_kept, .ref q_isKept])), (q_now, .inl (cJ, 120, .inr (.inl v_now)))] sz) [(h0, .inr (8, [.ref q_now, .ref q_text, .int v_typed, .ref q_row, .int v_rowMany, .int o.2, .int v_length, .int v_at, .int v_wrong, .ref q_read, .ref q_ranks, .ref q_distinct, .ref q_proper, .int v_properMany, .ref q_line, .ref q_order, .int v_orderMany, .ref q_then, .ref q_bestOrder, .ref q_lineThen, .ref q_undos, .ref q_was, .int v_undoMany, .int v_drawn, .ref q_kept, .ref q_isKept])), (q_now, .inl (cJ, 120, .inr (.inl v_now)))]) (va_A [(h0, .inr (8, [.ref q_now, .ref q_text, .int v_typed, .ref q_row, .int v_rowMany, .int v_thrown, .int v_length, .int v_at, .int v_wrong, .ref q_read, .ref q_ranks, .ref q_distinct, .ref q_proper, .int v_properMany, .ref q_line, .ref q_order, .int v_orderMany, .ref q_then, .ref q_bestOrder, .ref q_lineThen, .ref q_undos, .ref q_was, .int v_undoMany, .int v_drawn, .ref q_kept, .ref q_isKept])), (q_now, .inl (cJ, 120, .inr (.inl v_now)))] sz)) 0 0 (va_A [(h0, .inr (8, [.ref q_now, .ref q_text, .int v_typed, .ref q_row, .int v_rowMany, .int v_thrown, .int v_length, .int v_at, .int v_wrong, .ref q_read, .ref q_ranks, .ref q_distinct, .ref q_proper, .int v_properMany, .ref q_line, .ref q_order, .int v_orderMany, .ref q_then, .ref q_bestOrder, .ref q_lineThen, .ref q_undos, .ref q_was, .int v_undoMany, .int v_drawn, .ref q_kept, .ref q_isKept])), (q_now, .inl (cJ, 120, .inr (.inl v_now)))] sz) := by
  refine Met.ofW (cc := cX10_kind) (maxL := 2) (ret := (some .int)) (by decide +kernel) rfl ?_
  intro p e s m args below meth c s₁ B hml hv
  obtain ⟨hav, hsz, hP, hK, hD0⟩ := hv
  have hx := B.exec
  have hb := B.bytes
  have hr := B.returns
  have hts := atoms_spec (ws := wsX10_kind) B.pre
  have hown : s.vm.findClass RX10 = some m.cls := findClass_of_methodNamed B.named
  have hlocks := B.notSynchronized
  subst hsz
  have hD := hD0.self (sz := s.heap.size)
  generalize hAe : va_A [(h0, .inr (8, [.ref q_now, .ref q_text, .int v_typed, .ref q_row, .int v_rowMany, .int v_thrown, .int v_length, .int v_at, .int v_wrong, .ref q_read, .ref q_ranks, .ref q_distinct, .ref q_proper, .int v_properMany, .ref q_line, .ref q_order, .int v_orderMany, .ref q_then, .ref q_bestOrder, .ref q_lineThen, .ref q_undos, .ref q_was, .int v_undoMany, .int v_drawn, .ref q_kept, .ref q_isKept])), (q_now, .inl (cJ, 120, .inr (.inl v_now)))] s.heap.size = A at hD ⊢
  have hA : ∀ q : Nat, s.heap.size ≤ q → A q := fun q h => by rw [← hAe]; exact Or.inr h
  have hS : va_S A s.heap s.heap [] := va_S.rf
  refine wstart (rm := rm_X10_kind) hav (Nat.le_of_ble_eq_true rfl) (fun QQ ls hQQ hl => ?_)
  have hl : lv_has ls 2 [(0, .ref h0), (1, .int x1)] := hl
  have hi_X10 : ∀ w ∈ u_ws RX10 TX10 26, w ∈ wsX10_kind := by decide +kernel
  have h := hf
  unfold f_X10_kind at h
  refine lv_aload_n hx hb dX10_kind_0 rfl (lv_at hl 0 rfl) ?_
  refine lv_iconst (v := 0) hx hb dX10_kind_1 (by decide) ?_
  refine va_put (D := (dC, dI)) (ci := 8) (v := .int (0 : Int32)) (ty := .int) (C := RX10) (T := TX10) (N := 26) hx hb hts hi_X10 tyX10 tyX10_ok nmX10 hown hK hP hD hS 0 rfl rfl 5 (by decide) (hts _ (List.mem_of_getElem? (i := 1) rfl)) (fun _ h9 => h9) rfl (by decide +kernel) rfl rfl (Nat.le_of_ble_eq_true rfl) dX10_kind_2 (fun H locs hP hD hS => ?_)
  replace hP : va_P (dC, dI) vwCl [(h0, .inr (8, [.ref q_now, .ref q_text, .int v_typed, .ref q_row, .int v_rowMany, .int (0 : Int32), .int v_length, .int v_at, .int v_wrong, .ref q_read, .ref q_ranks, .ref q_distinct, .ref q_proper, .int v_properMany, .ref q_line, .ref q_order, .int v_orderMany, .ref q_then, .ref q_bestOrder, .ref q_lineThen, .ref q_undos, .ref q_was, .int v_undoMany, .int v_drawn, .ref q_kept, .ref q_isKept])), (q_now, .inl (cJ, 120, .inr (.inl v_now)))] H := hP
  replace hD : va_D A [(h0, .inr (8, [.ref q_now, .ref q_text, .int v_typed, .ref q_row, .int v_rowMany, .int (0 : Int32), .int v_length, .int v_at, .int v_wrong, .ref q_read, .ref q_ranks, .ref q_distinct, .ref q_proper, .int v_properMany, .ref q_line, .ref q_order, .int v_orderMany, .ref q_then, .ref q_bestOrder, .ref q_lineThen, .ref q_undos, .ref q_was, .int v_undoMany, .int v_drawn, .ref q_kept, .ref q_isKept])), (q_now, .inl (cJ, 120, .inr (.inl v_now)))] := hD
  refine lv_aload_n hx hb dX10_kind_5 rfl (lv_at hl 0 rfl) ?_
  refine lv_iload_n hx hb dX10_kind_6 rfl (lv_at hl 1 rfl) ?_
  obtain ⟨o_497, hr_497, h⟩ := ob h
  refine vp_callSi (va_Run.run (va_runV (As := [.int x1]) (rest := []) ⟨hx, hb, hml, hown, hts⟩ (c_X10_isColumn l dC dI cB cC cI cJ cZ cT h0 q_now q_text q_row q_read q_ranks q_distinct q_proper q_line q_order q_then q_bestOrder q_lineThen q_undos q_was q_kept q_isKept v_typed v_rowMany (0 : Int32) v_length v_at v_wrong v_properMany v_orderMany v_undoMany v_drawn v_now x1 o_497 hr_497) (cwV 1 hts gX10_kind_X10_isColumn rfl rfl rfl (by decide +kernel) ⟨Nat.le_of_ble_eq_true rfl, Nat.le_of_ble_eq_true rfl⟩) ⟨blR, va_recv hK hP (ci := 8) (q0 := 0) rfl rfl, fun U hU hW => ⟨rfl, by rw [hU]; exact hP.sub [0, 1] rfl, va_K.moved hW.alike hK⟩⟩ rfl rfl hl.1 rfl (lv_room (Nat.le_of_ble_eq_true rfl)) dX10_kind_7 ⟨Nat.le_of_ble_eq_true rfl, Nat.le_of_ble_eq_true rfl⟩)) (fun r_497 e_497 => ?_)
  subst e_497
  refine lv_if_eq (tgt := 21) hx hb dX10_kind_10 (by decide) (fun c_499 => ?_) (fun c_499 => ?_)
  · replace h := op c_499 h
    refine lv_iconst (v := -1) hx hb dX10_kind_21 (by decide) ?_
    rw [hQQ]
    have ho := Option.some.inj h
    subst ho
    exact W.iret hx hb hr (fun t ht hW => ⟨⟨_, (), rfl, rfl, by rw [ht]; exact hP, va_K.moved hW.alike hK, hD⟩, hS.F ht⟩) hS.2.2 dX10_kind_22
  · replace h := on c_499 h
    refine lv_aload_n hx hb dX10_kind_13 rfl (lv_at hl 0 rfl) ?_
    refine lv_iload_n hx hb dX10_kind_14 rfl (lv_at hl 1 rfl) ?_
    obtain ⟨o_500, hr_500, h⟩ := ob h
    refine vp_callSi (va_Run.run (va_runV (As := [.int x1]) (rest := []) ⟨hx, hb, hml, hown, hts⟩ (c_X10_kindOf l dC dI cB cC cI cJ cZ cT h0 q_now q_text q_row q_read q_ranks q_distinct q_proper q_line q_order q_then q_bestOrder q_lineThen q_undos q_was q_kept q_isKept v_typed v_rowMany (0 : Int32) v_length v_at v_wrong v_properMany v_orderMany v_undoMany v_drawn v_now x1 o_500 hr_500) (cwV 1 hts gX10_kind_X10_kindOf rfl rfl rfl (by decide +kernel) ⟨Nat.le_of_ble_eq_true rfl, Nat.le_of_ble_eq_true rfl⟩) ⟨blR, va_recv hK hP (ci := 8) (q0 := 0) rfl rfl, fun U hU hW => ⟨rfl, by rw [hU]; exact hP.sub [0, 1] rfl, va_K.moved hW.alike hK⟩⟩ rfl rfl hl.1 rfl (lv_room (Nat.le_of_ble_eq_true rfl)) dX10_kind_15 ⟨Nat.le_of_ble_eq_true rfl, Nat.le_of_ble_eq_true rfl⟩)) (fun r_500 e_500 => ?_)
    subst e_500
    refine lv_goto (tgt := 22) hx hb dX10_kind_18 (by decide) ?_
    rw [hQQ]
    have ho := Option.some.inj h
    subst ho
    exact W.iret hx hb hr (fun t ht hW => ⟨⟨_, (), rfl, rfl, by rw [ht]; exact hP, va_K.moved hW.alike hK, hD⟩, hS.F ht⟩) hS.2.2 dX10_kind_22
def f_X10_wayOf (v_now : Nat → Int64) (x1 : Int32) (x2 : Int32) : Option Int32 :=
  ((f_X10_kindOf v_now x1).bind (fun o_502 => (if (8 : Int32) ≤ o_502 then ((f_X10_cell v_now x1 x2).bind (fun o_505 => (if (lg_cmp o_505 (-9223372036854775808 : Int64)) = 0 then (some (21 : Int32)) else (if o_502 = (8 : Int32) then (some (14 : Int32)) else (if o_502 = (9 : Int32) then (some (19 : Int32)) else (some (20 : Int32))))))) else (some ((10 : Int32) + o_502)))))
abbrev rm_X10_wayOf : Room := { frames := 2, cells := 0, slots := 0, locals := 43 }
set_option maxHeartbeats 4000000 in
set_option maxRecDepth 100000 in
theorem c_X10_wayOf (l : Launch) (dC : Nat → ClassId) (dI : Nat → Nat → Nat) (cB cC cI cJ cZ cT : ClassId) (h0 q_now q_text q_row q_read q_ranks q_distinct q_proper q_line q_order q_then q_bestOrder q_lineThen q_undos q_was q_kept q_isKept : Nat) (v_typed : Int32) (v_rowMany : Int32) (v_thrown : Int32) (v_length : Int32) (v_at : Int32) (v_wrong : Int32) (v_properMany : Int32) (v_orderMany : Int32) (v_undoMany : Int32) (v_drawn : Int32) (v_now : Nat → Int64) (x1 : Int32) (x2 : Int32) (o : Int32) (hf : f_X10_wayOf v_now x1 x2 = some o) : Met l yX10_wayOf wsX10_wayOf rm_X10_wayOf (va_Pc [.ref h0, .int x1, .int x2] (fun U => va_P (dC, dI) vwCl [(h0, .inr (8, [.ref q_now, .ref q_text, .int v_typed, .ref q_row, .int v_rowMany, .int v_thrown, .int v_length, .int v_at, .int v_wrong, .ref q_read, .ref q_ranks, .ref q_distinct, .ref q_proper, .int v_properMany, .ref q_line, .ref q_order, .int v_orderMany, .ref q_then, .ref q_bestOrder, .ref q_lineThen, .ref q_undos, .ref q_was, .int v_undoMany, .int v_drawn, .ref q_kept, .ref q_isKept])), (q_now, .inl (cJ, 120, .inr (.inl v_now)))] U.heap ∧ va_K (dC, dI) vwCl (tyA cB cC cI cJ cZ cT) U)) (vp_Si (fun r => o = r)) 0 0 (fun _ => False) := by
  refine Met.ofW (cc := cX10_wayOf) (maxL := 4) (ret := (some .int)) (by decide +kernel) rfl ?_
  intro p e s m args below meth c s₁ B hml hv
  obtain ⟨hav, hP, hK⟩ := hv
  have hx := B.exec
  have hb := B.bytes
  have hr := B.returns
  have hts := atoms_spec (ws := wsX10_wayOf) B.pre
  have hown : s.vm.findClass RX10 = some m.cls := findClass_of_methodNamed B.named
  have hlocks := B.notSynchronized
  refine wstart (rm := rm_X10_wayOf) hav (Nat.le_of_ble_eq_true rfl) (fun QQ ls hQQ hl => ?_)
  have hl : lv_has ls 4 [(0, .ref h0), (1, .int x1), (2, .int x2)] := hl
  have h := hf
  unfold f_X10_wayOf at h
  refine lv_aload_n hx hb dX10_wayOf_0 rfl (lv_at hl 0 rfl) ?_
  refine lv_iload_n hx hb dX10_wayOf_1 rfl (lv_at hl 1 rfl) ?_
  obtain ⟨o_502, hr_502, h⟩ := ob h
  refine vp_callSi (va_Run.run (va_runV (As := [.int x1]) (rest := []) ⟨hx, hb, hml, hown, hts⟩ (c_X10_kindOf l dC dI cB cC cI cJ cZ cT h0 q_now q_text q_row q_read q_ranks q_distinct q_proper q_line q_order q_then q_bestOrder q_lineThen q_undos q_was q_kept q_isKept v_typed v_rowMany v_thrown v_length v_at v_wrong v_properMany v_orderMany v_undoMany v_drawn v_now x1 o_502 hr_502) (cwV 1 hts gX10_wayOf_X10_kindOf rfl rfl rfl (by decide +kernel) ⟨Nat.le_of_ble_eq_true rfl, Nat.le_of_ble_eq_true rfl⟩) ⟨blR, va_recv hK hP (ci := 8) (q0 := 0) rfl rfl, fun U hU hW => ⟨rfl, by rw [hU]; exact hP.sub [0, 1] rfl, va_K.moved hW.alike hK⟩⟩ rfl rfl hl.1 rfl (lv_room (Nat.le_of_ble_eq_true rfl)) dX10_wayOf_2 ⟨Nat.le_of_ble_eq_true rfl, Nat.le_of_ble_eq_true rfl⟩)) (fun r_502 e_502 => ?_)
  subst e_502
  refine lv_istore_n (lv' := [(3, .int o_502), (0, .ref h0), (1, .int x1), (2, .int x2)]) hx hb dX10_wayOf_5 rfl hl (by decide) rfl (fun ls hl => ?_)
  refine lv_iload_n hx hb dX10_wayOf_6 rfl (lv_at hl 0 rfl) ?_
  refine lv_bipush (v := 8) hx hb dX10_wayOf_7 (by decide) ?_
  refine lv_icmp_ge (tgt := 17) hx hb dX10_wayOf_9 (by decide) (fun c_504 => ?_) (fun c_504 => ?_)
  · replace h := op c_504 h
    refine lv_aload_n hx hb dX10_wayOf_17 rfl (lv_at hl 1 rfl) ?_
    refine lv_iload_n hx hb dX10_wayOf_18 rfl (lv_at hl 2 rfl) ?_
    refine lv_iload_n hx hb dX10_wayOf_19 rfl (lv_at hl 3 rfl) ?_
    obtain ⟨o_505, hr_505, h⟩ := ob h
    refine vp_callSl (va_Run.run (va_runV (As := [.int x1, .int x2]) (rest := []) ⟨hx, hb, hml, hown, hts⟩ (c_X10_cell l dC dI cB cC cI cJ cZ cT h0 q_now q_text q_row q_read q_ranks q_distinct q_proper q_line q_order q_then q_bestOrder q_lineThen q_undos q_was q_kept q_isKept v_typed v_rowMany v_thrown v_length v_at v_wrong v_properMany v_orderMany v_undoMany v_drawn v_now x1 x2 o_505 hr_505) (cwV 2 hts gX10_wayOf_X10_cell rfl rfl rfl (by decide +kernel) ⟨Nat.le_of_ble_eq_true rfl, Nat.le_of_ble_eq_true rfl⟩) ⟨blR, va_recv hK hP (ci := 8) (q0 := 0) rfl rfl, fun U hU hW => ⟨rfl, by rw [hU]; exact hP.sub [0, 1] rfl, va_K.moved hW.alike hK⟩⟩ rfl rfl hl.1 rfl (lv_room (Nat.le_of_ble_eq_true rfl)) dX10_wayOf_20 ⟨Nat.le_of_ble_eq_true rfl, Nat.le_of_ble_eq_true rfl⟩)) (fun r_505 e_505 => ?_)
    subst e_505
    refine lv_ldc2 (v := -9223372036854775808) hx hb hown (hts _ (List.mem_of_getElem? (i := 1) rfl)) dX10_wayOf_23 ?_
    refine W.lcmp hx hb dX10_wayOf_26 ?_
    refine lv_if_ne (tgt := 33) hx hb dX10_wayOf_27 (by decide) (fun c_507 => ?_) (fun c_507 => ?_)
    · replace h := on c_507 h
      refine lv_iload_n hx hb dX10_wayOf_33 rfl (lv_at hl 0 rfl) ?_
      refine lv_bipush (v := 8) hx hb dX10_wayOf_34 (by decide) ?_
      refine lv_icmp_ne (tgt := 44) hx hb dX10_wayOf_36 (by decide) (fun c_508 => ?_) (fun c_508 => ?_)
      · replace h := on c_508 h
        refine lv_iload_n hx hb dX10_wayOf_44 rfl (lv_at hl 0 rfl) ?_
        refine lv_bipush (v := 9) hx hb dX10_wayOf_45 (by decide) ?_
        refine lv_icmp_ne (tgt := 55) hx hb dX10_wayOf_47 (by decide) (fun c_509 => ?_) (fun c_509 => ?_)
        · replace h := on c_509 h
          refine lv_bipush (v := 20) hx hb dX10_wayOf_55 (by decide) ?_
          rw [hQQ]
          exact W.iret hx hb hr (fun t ht hW => ⟨_, rfl, (Option.some.inj h).symm, ht⟩) (fun q hq => absurd hq List.not_mem_nil) dX10_wayOf_57
        · replace h := op c_509 h
          refine lv_bipush (v := 19) hx hb dX10_wayOf_50 (by decide) ?_
          refine lv_goto (tgt := 57) hx hb dX10_wayOf_52 (by decide) ?_
          rw [hQQ]
          exact W.iret hx hb hr (fun t ht hW => ⟨_, rfl, (Option.some.inj h).symm, ht⟩) (fun q hq => absurd hq List.not_mem_nil) dX10_wayOf_57
      · replace h := op c_508 h
        refine lv_bipush (v := 14) hx hb dX10_wayOf_39 (by decide) ?_
        refine lv_goto (tgt := 57) hx hb dX10_wayOf_41 (by decide) ?_
        rw [hQQ]
        exact W.iret hx hb hr (fun t ht hW => ⟨_, rfl, (Option.some.inj h).symm, ht⟩) (fun q hq => absurd hq List.not_mem_nil) dX10_wayOf_57
    · replace h := op c_507 h
      refine lv_bipush (v := 21) hx hb dX10_wayOf_30 (by decide) ?_
      rw [hQQ]
      exact W.iret hx hb hr (fun t ht hW => ⟨_, rfl, (Option.some.inj h).symm, ht⟩) (fun q hq => absurd hq List.not_mem_nil) dX10_wayOf_32
  · replace h := on c_504 h
    refine lv_bipush (v := 10) hx hb dX10_wayOf_12 (by decide) ?_
    refine lv_iload_n hx hb dX10_wayOf_14 rfl (lv_at hl 0 rfl) ?_
    refine lv_iadd hx hb dX10_wayOf_15 ?_
    rw [hQQ]
    exact W.iret hx hb hr (fun t ht hW => ⟨_, rfl, (Option.some.inj h).symm, ht⟩) (fun q hq => absurd hq List.not_mem_nil) dX10_wayOf_16
def f_X10_refusesBoth (v_now : Nat → Int64) (x1 : Int32) (x2 : Int32) : Option Int32 :=
  ((f_X10_isColumn v_now x1).bind (fun o_510 => (if (b2i o_510) = 0 then (some (-1 : Int32)) else ((f_X10_isColumn v_now x2).bind (fun o_513 => (if (b2i o_513) = 0 then (some (-1 : Int32)) else ((f_X10_whyNoRow v_now x1).bind (fun o_516 => (if o_516 ≤ 0 then ((f_X10_whyNoRow v_now x2).bind (fun o_519 => (some (-o_519)))) else ((f_X10_whyNoRow v_now x1).bind (fun o_521 => (some (-o_521)))))))))))))
abbrev rm_X10_refusesBoth : Room := { frames := 2, cells := 0, slots := 0, locals := 43 }
set_option maxHeartbeats 4000000 in
set_option maxRecDepth 100000 in
theorem c_X10_refusesBoth (l : Launch) (dC : Nat → ClassId) (dI : Nat → Nat → Nat) (cB cC cI cJ cZ cT : ClassId) (h0 q_now q_text q_row q_read q_ranks q_distinct q_proper q_line q_order q_then q_bestOrder q_lineThen q_undos q_was q_kept q_isKept : Nat) (v_typed : Int32) (v_rowMany : Int32) (v_thrown : Int32) (v_length : Int32) (v_at : Int32) (v_wrong : Int32) (v_properMany : Int32) (v_orderMany : Int32) (v_undoMany : Int32) (v_drawn : Int32) (v_now : Nat → Int64) (x1 : Int32) (x2 : Int32) (o : Int32) (hf : f_X10_refusesBoth v_now x1 x2 = some o) : Met l yX10_refusesBoth wsX10_refusesBoth rm_X10_refusesBoth (va_Pc [.ref h0, .int x1, .int x2] (fun U => va_P (dC, dI) vwCl [(h0, .inr (8, [.ref q_now, .ref q_text, .int v_typed, .ref q_row, .int v_rowMany, .int v_thrown, .int v_length, .int v_at, .int v_wrong, .ref q_read, .ref q_ranks, .ref q_distinct, .ref q_proper, .int v_properMany, .ref q_line, .ref q_order, .int v_orderMany, .ref q_then, .ref q_bestOrder, .ref q_lineThen, .ref q_undos, .ref q_was, .int v_undoMany, .int v_drawn, .ref q_kept, .ref q_isKept])), (q_now, .inl (cJ, 120, .inr (.inl v_now)))] U.heap ∧ va_K (dC, dI) vwCl (tyA cB cC cI cJ cZ cT) U)) (vp_Si (fun r => o = r)) 0 0 (fun _ => False) := by
  refine Met.ofW (cc := cX10_refusesBoth) (maxL := 3) (ret := (some .int)) (by decide +kernel) rfl ?_
  intro p e s m args below meth c s₁ B hml hv
  obtain ⟨hav, hP, hK⟩ := hv
  have hx := B.exec
  have hb := B.bytes
  have hr := B.returns
  have hts := atoms_spec (ws := wsX10_refusesBoth) B.pre
  have hown : s.vm.findClass RX10 = some m.cls := findClass_of_methodNamed B.named
  have hlocks := B.notSynchronized
  refine wstart (rm := rm_X10_refusesBoth) hav (Nat.le_of_ble_eq_true rfl) (fun QQ ls hQQ hl => ?_)
  have hl : lv_has ls 3 [(0, .ref h0), (1, .int x1), (2, .int x2)] := hl
  have h := hf
  unfold f_X10_refusesBoth at h
  refine lv_aload_n hx hb dX10_refusesBoth_0 rfl (lv_at hl 0 rfl) ?_
  refine lv_iload_n hx hb dX10_refusesBoth_1 rfl (lv_at hl 1 rfl) ?_
  obtain ⟨o_510, hr_510, h⟩ := ob h
  refine vp_callSi (va_Run.run (va_runV (As := [.int x1]) (rest := []) ⟨hx, hb, hml, hown, hts⟩ (c_X10_isColumn l dC dI cB cC cI cJ cZ cT h0 q_now q_text q_row q_read q_ranks q_distinct q_proper q_line q_order q_then q_bestOrder q_lineThen q_undos q_was q_kept q_isKept v_typed v_rowMany v_thrown v_length v_at v_wrong v_properMany v_orderMany v_undoMany v_drawn v_now x1 o_510 hr_510) (cwV 1 hts gX10_refusesBoth_X10_isColumn rfl rfl rfl (by decide +kernel) ⟨Nat.le_of_ble_eq_true rfl, Nat.le_of_ble_eq_true rfl⟩) ⟨blR, va_recv hK hP (ci := 8) (q0 := 0) rfl rfl, fun U hU hW => ⟨rfl, by rw [hU]; exact hP.sub [0, 1] rfl, va_K.moved hW.alike hK⟩⟩ rfl rfl hl.1 rfl (lv_room (Nat.le_of_ble_eq_true rfl)) dX10_refusesBoth_2 ⟨Nat.le_of_ble_eq_true rfl, Nat.le_of_ble_eq_true rfl⟩)) (fun r_510 e_510 => ?_)
  subst e_510
  refine lv_if_eq (tgt := 16) hx hb dX10_refusesBoth_5 (by decide) (fun c_512 => ?_) (fun c_512 => ?_)
  · replace h := op c_512 h
    refine lv_iconst (v := -1) hx hb dX10_refusesBoth_16 (by decide) ?_
    rw [hQQ]
    exact W.iret hx hb hr (fun t ht hW => ⟨_, rfl, (Option.some.inj h).symm, ht⟩) (fun q hq => absurd hq List.not_mem_nil) dX10_refusesBoth_17
  · replace h := on c_512 h
    refine lv_aload_n hx hb dX10_refusesBoth_8 rfl (lv_at hl 0 rfl) ?_
    refine lv_iload_n hx hb dX10_refusesBoth_9 rfl (lv_at hl 2 rfl) ?_
    obtain ⟨o_513, hr_513, h⟩ := ob h
    refine vp_callSi (va_Run.run (va_runV (As := [.int x2]) (rest := []) ⟨hx, hb, hml, hown, hts⟩ (c_X10_isColumn l dC dI cB cC cI cJ cZ cT h0 q_now q_text q_row q_read q_ranks q_distinct q_proper q_line q_order q_then q_bestOrder q_lineThen q_undos q_was q_kept q_isKept v_typed v_rowMany v_thrown v_length v_at v_wrong v_properMany v_orderMany v_undoMany v_drawn v_now x2 o_513 hr_513) (cwV 1 hts gX10_refusesBoth_X10_isColumn rfl rfl rfl (by decide +kernel) ⟨Nat.le_of_ble_eq_true rfl, Nat.le_of_ble_eq_true rfl⟩) ⟨blR, va_recv hK hP (ci := 8) (q0 := 0) rfl rfl, fun U hU hW => ⟨rfl, by rw [hU]; exact hP.sub [0, 1] rfl, va_K.moved hW.alike hK⟩⟩ rfl rfl hl.1 rfl (lv_room (Nat.le_of_ble_eq_true rfl)) dX10_refusesBoth_10 ⟨Nat.le_of_ble_eq_true rfl, Nat.le_of_ble_eq_true rfl⟩)) (fun r_513 e_513 => ?_)
    subst e_513
    refine lv_if_ne (tgt := 18) hx hb dX10_refusesBoth_13 (by decide) (fun c_515 => ?_) (fun c_515 => ?_)
    · replace h := on c_515 h
      refine lv_aload_n hx hb dX10_refusesBoth_18 rfl (lv_at hl 0 rfl) ?_
      refine lv_iload_n hx hb dX10_refusesBoth_19 rfl (lv_at hl 1 rfl) ?_
      obtain ⟨o_516, hr_516, h⟩ := ob h
      refine vp_callSi (va_Run.run (va_runV (As := [.int x1]) (rest := []) ⟨hx, hb, hml, hown, hts⟩ (c_X10_whyNoRow l dC dI cB cC cI cJ cZ cT h0 q_now q_text q_row q_read q_ranks q_distinct q_proper q_line q_order q_then q_bestOrder q_lineThen q_undos q_was q_kept q_isKept v_typed v_rowMany v_thrown v_length v_at v_wrong v_properMany v_orderMany v_undoMany v_drawn v_now x1 o_516 hr_516) (cwV 1 hts gX10_refusesBoth_X10_whyNoRow rfl rfl rfl (by decide +kernel) ⟨Nat.le_of_ble_eq_true rfl, Nat.le_of_ble_eq_true rfl⟩) ⟨blR, va_recv hK hP (ci := 8) (q0 := 0) rfl rfl, fun U hU hW => ⟨rfl, by rw [hU]; exact hP.sub [0, 1] rfl, va_K.moved hW.alike hK⟩⟩ rfl rfl hl.1 rfl (lv_room (Nat.le_of_ble_eq_true rfl)) dX10_refusesBoth_20 ⟨Nat.le_of_ble_eq_true rfl, Nat.le_of_ble_eq_true rfl⟩)) (fun r_516 e_516 => ?_)
      subst e_516
      refine lv_if_le (tgt := 35) hx hb dX10_refusesBoth_23 (by decide) (fun c_518 => ?_) (fun c_518 => ?_)
      · replace h := op c_518 h
        refine lv_aload_n hx hb dX10_refusesBoth_35 rfl (lv_at hl 0 rfl) ?_
        refine lv_iload_n hx hb dX10_refusesBoth_36 rfl (lv_at hl 2 rfl) ?_
        obtain ⟨o_519, hr_519, h⟩ := ob h
        refine vp_callSi (va_Run.run (va_runV (As := [.int x2]) (rest := []) ⟨hx, hb, hml, hown, hts⟩ (c_X10_whyNoRow l dC dI cB cC cI cJ cZ cT h0 q_now q_text q_row q_read q_ranks q_distinct q_proper q_line q_order q_then q_bestOrder q_lineThen q_undos q_was q_kept q_isKept v_typed v_rowMany v_thrown v_length v_at v_wrong v_properMany v_orderMany v_undoMany v_drawn v_now x2 o_519 hr_519) (cwV 1 hts gX10_refusesBoth_X10_whyNoRow rfl rfl rfl (by decide +kernel) ⟨Nat.le_of_ble_eq_true rfl, Nat.le_of_ble_eq_true rfl⟩) ⟨blR, va_recv hK hP (ci := 8) (q0 := 0) rfl rfl, fun U hU hW => ⟨rfl, by rw [hU]; exact hP.sub [0, 1] rfl, va_K.moved hW.alike hK⟩⟩ rfl rfl hl.1 rfl (lv_room (Nat.le_of_ble_eq_true rfl)) dX10_refusesBoth_37 ⟨Nat.le_of_ble_eq_true rfl, Nat.le_of_ble_eq_true rfl⟩)) (fun r_519 e_519 => ?_)
        subst e_519
        refine lv_ineg hx hb dX10_refusesBoth_40 ?_
        rw [hQQ]
        exact W.iret hx hb hr (fun t ht hW => ⟨_, rfl, (Option.some.inj h).symm, ht⟩) (fun q hq => absurd hq List.not_mem_nil) dX10_refusesBoth_41
      · replace h := on c_518 h
        refine lv_aload_n hx hb dX10_refusesBoth_26 rfl (lv_at hl 0 rfl) ?_
        refine lv_iload_n hx hb dX10_refusesBoth_27 rfl (lv_at hl 1 rfl) ?_
        obtain ⟨o_521, hr_521, h⟩ := ob h
        refine vp_callSi (va_Run.run (va_runV (As := [.int x1]) (rest := []) ⟨hx, hb, hml, hown, hts⟩ (c_X10_whyNoRow l dC dI cB cC cI cJ cZ cT h0 q_now q_text q_row q_read q_ranks q_distinct q_proper q_line q_order q_then q_bestOrder q_lineThen q_undos q_was q_kept q_isKept v_typed v_rowMany v_thrown v_length v_at v_wrong v_properMany v_orderMany v_undoMany v_drawn v_now x1 o_521 hr_521) (cwV 1 hts gX10_refusesBoth_X10_whyNoRow rfl rfl rfl (by decide +kernel) ⟨Nat.le_of_ble_eq_true rfl, Nat.le_of_ble_eq_true rfl⟩) ⟨blR, va_recv hK hP (ci := 8) (q0 := 0) rfl rfl, fun U hU hW => ⟨rfl, by rw [hU]; exact hP.sub [0, 1] rfl, va_K.moved hW.alike hK⟩⟩ rfl rfl hl.1 rfl (lv_room (Nat.le_of_ble_eq_true rfl)) dX10_refusesBoth_28 ⟨Nat.le_of_ble_eq_true rfl, Nat.le_of_ble_eq_true rfl⟩)) (fun r_521 e_521 => ?_)
        subst e_521
        refine lv_ineg hx hb dX10_refusesBoth_31 ?_
        refine lv_goto (tgt := 41) hx hb dX10_refusesBoth_32 (by decide) ?_
        rw [hQQ]
        exact W.iret hx hb hr (fun t ht hW => ⟨_, rfl, (Option.some.inj h).symm, ht⟩) (fun q hq => absurd hq List.not_mem_nil) dX10_refusesBoth_41
    · replace h := op c_515 h
      refine lv_iconst (v := -1) hx hb dX10_refusesBoth_16 (by decide) ?_
      rw [hQQ]
      exact W.iret hx hb hr (fun t ht hW => ⟨_, rfl, (Option.some.inj h).symm, ht⟩) (fun q hq => absurd hq List.not_mem_nil) dX10_refusesBoth_17
def L_X10_copies_40 (x1 : Int32) (x2 : Int32) : Nat → Int32 → Int32 → Int32 → (Nat → Int64) → Option (Int32 × Int32 × (Nat → Int64))
  | 0, _, _, _, _ => none
  | n+1, x4_40, x5_40, x6_40, v_now_40 => ((f_X10_rows v_now_40).bind (fun o_533 => (if o_533 ≤ x6_40 then (some (x4_40, x5_40, v_now_40)) else ((f_X10_wayOf v_now_40 x1 x6_40).bind (fun o_536 => ((f_X10_kindOf v_now_40 x2).bind (fun o_538 => ((f_X10_canHold o_538 o_536).bind (fun o_540 => (if (b2i o_540) = 0 then (L_X10_copies_40 x1 x2 n x4_40 (x5_40 ||| ((1 : Int32) <<< (x6_40 &&& 31))) (x6_40 + 1) v_now_40) else ((f_X10_cell v_now_40 x1 x6_40).bind (fun o_543 => ((f_X10_store v_now_40 x2 x6_40 o_536 o_543).bind (fun o_545 => (L_X10_copies_40 x1 x2 n (x4_40 + 1) x5_40 (x6_40 + 1) o_545)))))))))))))))
def f_X10_copies (v_rowMany : Int32) (v_undoMany : Int32) (v_now : Nat → Int64) (v_row : Nat → Int64) (v_undos : Nat → Int64) (v_was : Nat → Int64) (x1 : Int32) (x2 : Int32) : Option (Int32 × Int32 × Int32 × Int32 × (Nat → Int64) × (Nat → Int64) × (Nat → Int64) × (Nat → Int64)) :=
  (((if x1 = x2 then (some (-1 : Int32)) else ((f_X10_refusesBoth v_now x1 x2).bind (fun o_528 => (some o_528))))).bind (fun v_523 => (if 0 ≤ v_523 then ((f_X10_change v_undoMany v_now v_undos v_was).bind (fun o_531 => ((L_X10_copies_40 x1 x2 fu (0 : Int32) (0 : Int32) (0 : Int32) v_now).bind (fun w_547 => ((f_X10_tell (0 : Int32) v_row (w_547.2.1).toInt64).bind (fun o_548 => (some (w_547.1, o_548.1, (0 : Int32), o_531.1, w_547.2.2, o_548.2, o_531.2.1, o_531.2.2)))))))) else (some (v_523, v_rowMany, (0 : Int32), v_undoMany, v_now, v_row, v_undos, v_was)))))
abbrev rm_X10_copies : Room := { frames := 4, cells := 0, slots := 0, locals := 93 }
set_option maxHeartbeats 4000000 in
set_option maxRecDepth 100000 in
theorem c_X10_copies (l : Launch) (dC : Nat → ClassId) (dI : Nat → Nat → Nat) (cB cC cI cJ cZ cT : ClassId) (h0 q_now q_text q_row q_read q_ranks q_distinct q_proper q_line q_order q_then q_bestOrder q_lineThen q_undos q_was q_kept q_isKept : Nat) (sz : Nat) (v_typed : Int32) (v_rowMany : Int32) (v_thrown : Int32) (v_length : Int32) (v_at : Int32) (v_wrong : Int32) (v_properMany : Int32) (v_orderMany : Int32) (v_undoMany : Int32) (v_drawn : Int32) (v_now : Nat → Int64) (v_row : Nat → Int64) (v_undos : Nat → Int64) (v_was : Nat → Int64) (x1 : Int32) (x2 : Int32) (o : (Int32 × Int32 × Int32 × Int32 × (Nat → Int64) × (Nat → Int64) × (Nat → Int64) × (Nat → Int64))) (hf : f_X10_copies v_rowMany v_undoMany v_now v_row v_undos v_was x1 x2 = some o) : Met l yX10_copies wsX10_copies rm_X10_copies (va_Pc [.ref h0, .int x1, .int x2] (fun U => U.heap.size = sz ∧ va_P (dC, dI) vwCl [(h0, .inr (8, [.ref q_now, .ref q_text, .int v_typed, .ref q_row, .int v_rowMany, .int v_thrown, .int v_length, .int v_at, .int v_wrong, .ref q_read, .ref q_ranks, .ref q_distinct, .ref q_proper, .int v_properMany, .ref q_line, .ref q_order, .int v_orderMany, .ref q_then, .ref q_bestOrder, .ref q_lineThen, .ref q_undos, .ref q_was, .int v_undoMany, .int v_drawn, .ref q_kept, .ref q_isKept])), (q_now, .inl (cJ, 120, .inr (.inl v_now))), (q_row, .inl (cJ, 64, .inr (.inl v_row))), (q_undos, .inl (cJ, 960, .inr (.inl v_undos))), (q_was, .inl (cJ, 120, .inr (.inl v_was)))] U.heap ∧ va_K (dC, dI) vwCl (tyA cB cC cI cJ cZ cT) U ∧ va_D (fun _ => True) [(h0, .inr (8, [.ref q_now, .ref q_text, .int v_typed, .ref q_row, .int v_rowMany, .int v_thrown, .int v_length, .int v_at, .int v_wrong, .ref q_read, .ref q_ranks, .ref q_distinct, .ref q_proper, .int v_properMany, .ref q_line, .ref q_order, .int v_orderMany, .ref q_then, .ref q_bestOrder, .ref q_lineThen, .ref q_undos, .ref q_was, .int v_undoMany, .int v_drawn, .ref q_kept, .ref q_isKept])), (q_now, .inl (cJ, 120, .inr (.inl v_now))), (q_row, .inl (cJ, 64, .inr (.inl v_row))), (q_undos, .inl (cJ, 960, .inr (.inl v_undos))), (q_was, .inl (cJ, 120, .inr (.inl v_was)))] ∧ SX (va_A [(h0, .inr (8, [.ref q_now, .ref q_text, .int v_typed, .ref q_row, .int v_rowMany, .int v_thrown, .int v_length, .int v_at, .int v_wrong, .ref q_read, .ref q_ranks, .ref q_distinct, .ref q_proper, .int v_properMany, .ref q_line, .ref q_order, .int v_orderMany, .ref q_then, .ref q_bestOrder, .ref q_lineThen, .ref q_undos, .ref q_was, .int v_undoMany, .int v_drawn, .ref q_kept, .ref q_isKept])), (q_now, .inl (cJ, 120, .inr (.inl v_now))), (q_row, .inl (cJ, 64, .inr (.inl v_row))), (q_undos, .inl (cJ, 960, .inr (.inl v_undos))), (q_was, .inl (cJ, 120, .inr (.inl v_was)))] sz) U U.heap)) (va_Qi (fun (r : Int32) (_ : Unit) => o.1 = r) (fun _ t => va_P (dC, dI) vwCl [(h0, .inr (8, [.ref q_now, .ref q_text, .int v_typed, .ref q_row, .int o.2.1, .int o.2.2.1, .int v_length, .int v_at, .int v_wrong, .ref q_read, .ref q_ranks, .ref q_distinct, .ref q_proper, .int v_properMany, .ref q_line, .ref q_order, .int v_orderMany, .ref q_then, .ref q_bestOrder, .ref q_lineThen, .ref q_undos, .ref q_was, .int o.2.2.2.1, .int v_drawn, .ref q_kept, .ref q_isKept])), (q_now, .inl (cJ, 120, .inr (.inl o.2.2.2.2.1))), (q_row, .inl (cJ, 64, .inr (.inl o.2.2.2.2.2.1))), (q_undos, .inl (cJ, 960, .inr (.inl o.2.2.2.2.2.2.1))), (q_was, .inl (cJ, 120, .inr (.inl o.2.2.2.2.2.2.2)))] t.heap ∧ va_K (dC, dI) vwCl (tyA cB cC cI cJ cZ cT) t ∧ va_D (va_A [(h0, .inr (8, [.ref q_now, .ref q_text, .int v_typed, .ref q_row, .int v_rowMany, .int v_thrown, .int v_length, .int v_at, .int v_wrong, .ref q_read, .ref q_ranks, .ref q_distinct, .ref q_proper, .int v_properMany, .ref q_line, .ref q_order, .int v_orderMany, .ref q_then, .ref q_bestOrder, .ref q_lineThen, .ref q_undos, .ref q_was, .int v_undoMany, .int v_drawn, .ref q_kept, .ref q_isKept])), (q_now, .inl (cJ, 120, .inr (.inl v_now))), (q_row, .inl (cJ, 64, .inr (.inl v_row))), (q_undos, .inl (cJ, 960, .inr (.inl v_undos))), (q_was, .inl (cJ, 120, .inr (.inl v_was)))] sz) [(h0, .inr (8, [.ref q_now, .ref q_text, .int v_typed, .ref q_row, .int o.2.1, .int o.2.2.1, .int v_length, .int v_at, .int v_wrong, .ref q_read, .ref q_ranks, .ref q_distinct, .ref q_proper, .int v_properMany, .ref q_line, .ref q_order, .int v_orderMany, .ref q_then, .ref q_bestOrder, .ref q_lineThen, .ref q_undos, .ref q_was, .int o.2.2.2.1, .int v_drawn, .ref q_kept, .ref q_isKept])), (q_now, .inl (cJ, 120, .inr (.inl o.2.2.2.2.1))), (q_row, .inl (cJ, 64, .inr (.inl o.2.2.2.2.2.1))), (q_undos, .inl (cJ, 960, .inr (.inl o.2.2.2.2.2.2.1))), (q_was, .inl (cJ, 120, .inr (.inl o.2.2.2.2.2.2.2)))]) (va_A [(h0, .inr (8, [.ref q_now, .ref q_text, .int v_typed, .ref q_row, .int v_rowMany, .int v_thrown, .int v_length, .int v_at, .int v_wrong, .ref q_read, .ref q_ranks, .ref q_distinct, .ref q_proper, .int v_properMany, .ref q_line, .ref q_order, .int v_orderMany, .ref q_then, .ref q_bestOrder, .ref q_lineThen, .ref q_undos, .ref q_was, .int v_undoMany, .int v_drawn, .ref q_kept, .ref q_isKept])), (q_now, .inl (cJ, 120, .inr (.inl v_now))), (q_row, .inl (cJ, 64, .inr (.inl v_row))), (q_undos, .inl (cJ, 960, .inr (.inl v_undos))), (q_was, .inl (cJ, 120, .inr (.inl v_was)))] sz)) 0 0 (va_A [(h0, .inr (8, [.ref q_now, .ref q_text, .int v_typed, .ref q_row, .int v_rowMany, .int v_thrown, .int v_length, .int v_at, .int v_wrong, .ref q_read, .ref q_ranks, .ref q_distinct, .ref q_proper, .int v_properMany, .ref q_line, .ref q_order, .int v_orderMany, .ref q_then, .ref q_bestOrder, .ref q_lineThen, .ref q_undos, .ref q_was, .int v_undoMany, .int v_drawn, .ref q_kept, .ref q_isKept])), (q_now, .inl (cJ, 120, .inr (.inl v_now))), (q_row, .inl (cJ, 64, .inr (.inl v_row))), (q_undos, .inl (cJ, 960, .inr (.inl v_undos))), (q_was, .inl (cJ, 120, .inr (.inl v_was)))] sz) := by
  refine Met.ofW (cc := cX10_copies) (maxL := 8) (ret := (some .int)) (by decide +kernel) rfl ?_
  intro p e s m args below meth c s₁ B hml hv
  obtain ⟨hav, hsz, hP, hK, hD0, hX⟩ := hv
  have hx := B.exec
  have hb := B.bytes
  have hr := B.returns
  have hts := atoms_spec (ws := wsX10_copies) B.pre
  have hown : s.vm.findClass RX10 = some m.cls := findClass_of_methodNamed B.named
  have hlocks := B.notSynchronized
  subst hsz
  have hD := hD0.self (sz := s.heap.size)
  generalize hAe : va_A [(h0, .inr (8, [.ref q_now, .ref q_text, .int v_typed, .ref q_row, .int v_rowMany, .int v_thrown, .int v_length, .int v_at, .int v_wrong, .ref q_read, .ref q_ranks, .ref q_distinct, .ref q_proper, .int v_properMany, .ref q_line, .ref q_order, .int v_orderMany, .ref q_then, .ref q_bestOrder, .ref q_lineThen, .ref q_undos, .ref q_was, .int v_undoMany, .int v_drawn, .ref q_kept, .ref q_isKept])), (q_now, .inl (cJ, 120, .inr (.inl v_now))), (q_row, .inl (cJ, 64, .inr (.inl v_row))), (q_undos, .inl (cJ, 960, .inr (.inl v_undos))), (q_was, .inl (cJ, 120, .inr (.inl v_was)))] s.heap.size = A at hD hX ⊢
  have hA : ∀ q : Nat, s.heap.size ≤ q → A q := fun q h => by rw [← hAe]; exact Or.inr h
  have hS : va_S A s.heap s.heap [] := va_S.rf
  refine wstart (rm := rm_X10_copies) hav (Nat.le_of_ble_eq_true rfl) (fun QQ ls hQQ hl => ?_)
  have hl : lv_has ls 8 [(0, .ref h0), (1, .int x1), (2, .int x2)] := hl
  have hi_X10 : ∀ w ∈ u_ws RX10 TX10 26, w ∈ wsX10_copies := by decide +kernel
  have h := hf
  unfold f_X10_copies at h
  refine lv_aload_n hx hb dX10_copies_0 rfl (lv_at hl 0 rfl) ?_
  refine lv_iconst (v := 0) hx hb dX10_copies_1 (by decide) ?_
  refine va_put (D := (dC, dI)) (ci := 8) (v := .int (0 : Int32)) (ty := .int) (C := RX10) (T := TX10) (N := 26) hx hb hts hi_X10 tyX10 tyX10_ok nmX10 hown hK hP hD hS 0 rfl rfl 5 (by decide) (hts _ (List.mem_of_getElem? (i := 1) rfl)) (fun _ h9 => h9) rfl (by decide +kernel) rfl rfl (Nat.le_of_ble_eq_true rfl) dX10_copies_2 (fun H locs hP hD hS => ?_)
  replace hP : va_P (dC, dI) vwCl [(h0, .inr (8, [.ref q_now, .ref q_text, .int v_typed, .ref q_row, .int v_rowMany, .int (0 : Int32), .int v_length, .int v_at, .int v_wrong, .ref q_read, .ref q_ranks, .ref q_distinct, .ref q_proper, .int v_properMany, .ref q_line, .ref q_order, .int v_orderMany, .ref q_then, .ref q_bestOrder, .ref q_lineThen, .ref q_undos, .ref q_was, .int v_undoMany, .int v_drawn, .ref q_kept, .ref q_isKept])), (q_now, .inl (cJ, 120, .inr (.inl v_now))), (q_row, .inl (cJ, 64, .inr (.inl v_row))), (q_undos, .inl (cJ, 960, .inr (.inl v_undos))), (q_was, .inl (cJ, 120, .inr (.inl v_was)))] H := hP
  replace hD : va_D A [(h0, .inr (8, [.ref q_now, .ref q_text, .int v_typed, .ref q_row, .int v_rowMany, .int (0 : Int32), .int v_length, .int v_at, .int v_wrong, .ref q_read, .ref q_ranks, .ref q_distinct, .ref q_proper, .int v_properMany, .ref q_line, .ref q_order, .int v_orderMany, .ref q_then, .ref q_bestOrder, .ref q_lineThen, .ref q_undos, .ref q_was, .int v_undoMany, .int v_drawn, .ref q_kept, .ref q_isKept])), (q_now, .inl (cJ, 120, .inr (.inl v_now))), (q_row, .inl (cJ, 64, .inr (.inl v_row))), (q_undos, .inl (cJ, 960, .inr (.inl v_undos))), (q_was, .inl (cJ, 120, .inr (.inl v_was)))] := hD
  refine lv_iload_n hx hb dX10_copies_5 rfl (lv_at hl 1 rfl) ?_
  refine lv_iload_n hx hb dX10_copies_6 rfl (lv_at hl 2 rfl) ?_
  obtain ⟨v_523, hv_523, h⟩ := ob h
  have J_523 : ∀ (H : Heap) (locs : List Loc) (ls : Array Slot), va_P (dC, dI) vwCl [(h0, .inr (8, [.ref q_now, .ref q_text, .int v_typed, .ref q_row, .int v_rowMany, .int (0 : Int32), .int v_length, .int v_at, .int v_wrong, .ref q_read, .ref q_ranks, .ref q_distinct, .ref q_proper, .int v_properMany, .ref q_line, .ref q_order, .int v_orderMany, .ref q_then, .ref q_bestOrder, .ref q_lineThen, .ref q_undos, .ref q_was, .int v_undoMany, .int v_drawn, .ref q_kept, .ref q_isKept])), (q_now, .inl (cJ, 120, .inr (.inl v_now))), (q_row, .inl (cJ, 64, .inr (.inl v_row))), (q_undos, .inl (cJ, 960, .inr (.inl v_undos))), (q_was, .inl (cJ, 120, .inr (.inl v_was)))] H → va_D A [(h0, .inr (8, [.ref q_now, .ref q_text, .int v_typed, .ref q_row, .int v_rowMany, .int (0 : Int32), .int v_length, .int v_at, .int v_wrong, .ref q_read, .ref q_ranks, .ref q_distinct, .ref q_proper, .int v_properMany, .ref q_line, .ref q_order, .int v_orderMany, .ref q_then, .ref q_bestOrder, .ref q_lineThen, .ref q_undos, .ref q_was, .int v_undoMany, .int v_drawn, .ref q_kept, .ref q_isKept])), (q_now, .inl (cJ, 120, .inr (.inl v_now))), (q_row, .inl (cJ, 64, .inr (.inl v_row))), (q_undos, .inl (cJ, 960, .inr (.inl v_undos))), (q_was, .inl (cJ, 120, .inr (.inl v_was)))] → va_S A s.heap H locs → lv_has ls 8 [(0, .ref h0), (1, .int x1), (2, .int x2)] → W p l e rm_X10_copies s m args below meth c H locs 0 0 QQ (F0 m 20 ls [.int v_523]) := by
    intro H locs ls hP hD hS hl
    refine lv_istore_n (lv' := [(3, .int v_523), (0, .ref h0), (1, .int x1), (2, .int x2)]) hx hb dX10_copies_20 rfl hl (by decide) rfl (fun ls hl => ?_)
    refine lv_iload_n hx hb dX10_copies_21 rfl (lv_at hl 0 rfl) ?_
    refine lv_if_ge (tgt := 27) hx hb dX10_copies_22 (by decide) (fun c_530 => ?_) (fun c_530 => ?_)
    · replace h := op c_530 h
      refine lv_aload_n hx hb dX10_copies_27 rfl (lv_at hl 1 rfl) ?_
      obtain ⟨o_531, hr_531, h⟩ := ob h
      have hPc := hP.sub (ws' := [(h0, .inr (8, [.ref q_now, .ref q_text, .int v_typed, .ref q_row, .int v_rowMany, .int (0 : Int32), .int v_length, .int v_at, .int v_wrong, .ref q_read, .ref q_ranks, .ref q_distinct, .ref q_proper, .int v_properMany, .ref q_line, .ref q_order, .int v_orderMany, .ref q_then, .ref q_bestOrder, .ref q_lineThen, .ref q_undos, .ref q_was, .int v_undoMany, .int v_drawn, .ref q_kept, .ref q_isKept])), (q_now, .inl (cJ, 120, .inr (.inl v_now))), (q_undos, .inl (cJ, 960, .inr (.inl v_undos))), (q_was, .inl (cJ, 120, .inr (.inl v_was)))]) [0, 1, 3, 4] rfl
      have hDc := hD.sub (ws' := [(h0, .inr (8, [.ref q_now, .ref q_text, .int v_typed, .ref q_row, .int v_rowMany, .int (0 : Int32), .int v_length, .int v_at, .int v_wrong, .ref q_read, .ref q_ranks, .ref q_distinct, .ref q_proper, .int v_properMany, .ref q_line, .ref q_order, .int v_orderMany, .ref q_then, .ref q_bestOrder, .ref q_lineThen, .ref q_undos, .ref q_was, .int v_undoMany, .int v_drawn, .ref q_kept, .ref q_isKept])), (q_now, .inl (cJ, 120, .inr (.inl v_now))), (q_undos, .inl (cJ, 960, .inr (.inl v_undos))), (q_was, .inl (cJ, 120, .inr (.inl v_was)))]) [0, 1, 3, 4] (by decide) rfl
      have hFc := va_free (wc := [(h0, .inr (8, [.ref q_now, .ref q_text, .int v_typed, .ref q_row, .int v_rowMany, .int (0 : Int32), .int v_length, .int v_at, .int v_wrong, .ref q_read, .ref q_ranks, .ref q_distinct, .ref q_proper, .int v_properMany, .ref q_line, .ref q_order, .int v_orderMany, .ref q_then, .ref q_bestOrder, .ref q_lineThen, .ref q_undos, .ref q_was, .int v_undoMany, .int v_drawn, .ref q_kept, .ref q_isKept])), (q_now, .inl (cJ, 120, .inr (.inl v_now))), (q_undos, .inl (cJ, 960, .inr (.inl v_undos))), (q_was, .inl (cJ, 120, .inr (.inl v_was)))]) hD hS hA [0, 1, 3, 4] rfl
      refine va_callv (va_runV (As := []) (rest := []) ⟨hx, hb, hml, hown, hts⟩ (c_X10_change l dC dI cB cC cI cJ cZ cT h0 q_now q_text q_row q_read q_ranks q_distinct q_proper q_line q_order q_then q_bestOrder q_lineThen q_undos q_was q_kept q_isKept H.size v_typed v_rowMany (0 : Int32) v_length v_at v_wrong v_properMany v_orderMany v_undoMany v_drawn v_now v_undos v_was o_531 hr_531) (cwV 0 hts gX10_copies_X10_change rfl rfl rfl (by decide +kernel) ⟨Nat.le_of_ble_eq_true rfl, Nat.le_of_ble_eq_true rfl⟩) ⟨blW, va_recv hK hP (ci := 8) (q0 := 0) rfl rfl, fun U hU hW => ⟨rfl, by rw [hU], by rw [hU]; exact hPc, va_K.moved hW.alike hK, hDc.weaken (fun _ _ _ _ => trivial)⟩⟩ rfl rfl hl.1 rfl (lv_room (Nat.le_of_ble_eq_true rfl)) dX10_copies_28 ⟨Nat.le_of_ble_eq_true rfl, Nat.le_of_ble_eq_true rfl⟩) hS (fun q _ h => hFc q h) hFc (fun u_531 t_531 H locs ht hvm e_531 hB hz1 hk1 hS => ?_)
      obtain ⟨hP1, -, hD1⟩ := hB
      rw [ht] at hP1
      obtain ⟨hP, hD⟩ := va_join (wr := [(q_row, .inl (cJ, 64, .inr (.inl v_row)))]) (w1 := [(h0, .inr (8, [.ref q_now, .ref q_text, .int v_typed, .ref q_row, .int v_rowMany, .int (0 : Int32), .int v_length, .int v_at, .int v_wrong, .ref q_read, .ref q_ranks, .ref q_distinct, .ref q_proper, .int v_properMany, .ref q_line, .ref q_order, .int v_orderMany, .ref q_then, .ref q_bestOrder, .ref q_lineThen, .ref q_undos, .ref q_was, .int o_531.1, .int v_drawn, .ref q_kept, .ref q_isKept])), (q_now, .inl (cJ, 120, .inr (.inl v_now))), (q_undos, .inl (cJ, 960, .inr (.inl o_531.2.1))), (q_was, .inl (cJ, 120, .inr (.inl o_531.2.2)))]) hP hD [0, 1, 3, 4] [2] rfl rfl (by decide) (by decide) hk1 hFc hP1 hD1
      replace hP := hP.sub (ws' := [(h0, .inr (8, [.ref q_now, .ref q_text, .int v_typed, .ref q_row, .int v_rowMany, .int (0 : Int32), .int v_length, .int v_at, .int v_wrong, .ref q_read, .ref q_ranks, .ref q_distinct, .ref q_proper, .int v_properMany, .ref q_line, .ref q_order, .int v_orderMany, .ref q_then, .ref q_bestOrder, .ref q_lineThen, .ref q_undos, .ref q_was, .int o_531.1, .int v_drawn, .ref q_kept, .ref q_isKept])), (q_now, .inl (cJ, 120, .inr (.inl v_now))), (q_row, .inl (cJ, 64, .inr (.inl v_row))), (q_undos, .inl (cJ, 960, .inr (.inl o_531.2.1))), (q_was, .inl (cJ, 120, .inr (.inl o_531.2.2)))]) [1, 2, 0, 3, 4] rfl
      replace hD := hD.sub (ws' := [(h0, .inr (8, [.ref q_now, .ref q_text, .int v_typed, .ref q_row, .int v_rowMany, .int (0 : Int32), .int v_length, .int v_at, .int v_wrong, .ref q_read, .ref q_ranks, .ref q_distinct, .ref q_proper, .int v_properMany, .ref q_line, .ref q_order, .int v_orderMany, .ref q_then, .ref q_bestOrder, .ref q_lineThen, .ref q_undos, .ref q_was, .int o_531.1, .int v_drawn, .ref q_kept, .ref q_isKept])), (q_now, .inl (cJ, 120, .inr (.inl v_now))), (q_row, .inl (cJ, 64, .inr (.inl v_row))), (q_undos, .inl (cJ, 960, .inr (.inl o_531.2.1))), (q_was, .inl (cJ, 120, .inr (.inl o_531.2.2)))]) [1, 2, 0, 3, 4] (by decide) rfl
      refine lv_iconst (v := 0) hx hb dX10_copies_31 (by decide) ?_
      refine lv_istore (lv' := [(4, .int (0 : Int32)), (3, .int v_523), (0, .ref h0), (1, .int x1), (2, .int x2)]) hx hb dX10_copies_32 hl (by decide) rfl (fun ls hl => ?_)
      refine lv_iconst (v := 0) hx hb dX10_copies_34 (by decide) ?_
      refine lv_istore (lv' := [(5, .int (0 : Int32)), (4, .int (0 : Int32)), (3, .int v_523), (0, .ref h0), (1, .int x1), (2, .int x2)]) hx hb dX10_copies_35 hl (by decide) rfl (fun ls hl => ?_)
      refine lv_iconst (v := 0) hx hb dX10_copies_37 (by decide) ?_
      refine lv_istore (lv' := [(6, .int (0 : Int32)), (5, .int (0 : Int32)), (4, .int (0 : Int32)), (3, .int v_523), (0, .ref h0), (1, .int x1), (2, .int x2)]) hx hb dX10_copies_38 hl (by decide) rfl (fun ls hl => ?_)
      have LP_547 : ∀ (n : Nat) (x4_40 : Int32) (x5_40 : Int32) (x6_40 : Int32) (v_now_40 : (Nat → Int64)) (w : (Int32 × Int32 × (Nat → Int64))) (H : Heap) (locs : List Loc) (ls : Array Slot), L_X10_copies_40 x1 x2 n x4_40 x5_40 x6_40 v_now_40 = some w → va_P (dC, dI) vwCl [(h0, .inr (8, [.ref q_now, .ref q_text, .int v_typed, .ref q_row, .int v_rowMany, .int (0 : Int32), .int v_length, .int v_at, .int v_wrong, .ref q_read, .ref q_ranks, .ref q_distinct, .ref q_proper, .int v_properMany, .ref q_line, .ref q_order, .int v_orderMany, .ref q_then, .ref q_bestOrder, .ref q_lineThen, .ref q_undos, .ref q_was, .int o_531.1, .int v_drawn, .ref q_kept, .ref q_isKept])), (q_now, .inl (cJ, 120, .inr (.inl v_now_40))), (q_row, .inl (cJ, 64, .inr (.inl v_row))), (q_undos, .inl (cJ, 960, .inr (.inl o_531.2.1))), (q_was, .inl (cJ, 120, .inr (.inl o_531.2.2)))] H → va_D A [(h0, .inr (8, [.ref q_now, .ref q_text, .int v_typed, .ref q_row, .int v_rowMany, .int (0 : Int32), .int v_length, .int v_at, .int v_wrong, .ref q_read, .ref q_ranks, .ref q_distinct, .ref q_proper, .int v_properMany, .ref q_line, .ref q_order, .int v_orderMany, .ref q_then, .ref q_bestOrder, .ref q_lineThen, .ref q_undos, .ref q_was, .int o_531.1, .int v_drawn, .ref q_kept, .ref q_isKept])), (q_now, .inl (cJ, 120, .inr (.inl v_now_40))), (q_row, .inl (cJ, 64, .inr (.inl v_row))), (q_undos, .inl (cJ, 960, .inr (.inl o_531.2.1))), (q_was, .inl (cJ, 120, .inr (.inl o_531.2.2)))] → va_S A s.heap H locs → lv_has ls 8 [(0, .ref h0), (1, .int x1), (2, .int x2), (4, .int x4_40), (5, .int x5_40), (6, .int x6_40)] → (∀ (H : Heap) (locs : List Loc) (ls : Array Slot), va_P (dC, dI) vwCl [(h0, .inr (8, [.ref q_now, .ref q_text, .int v_typed, .ref q_row, .int v_rowMany, .int (0 : Int32), .int v_length, .int v_at, .int v_wrong, .ref q_read, .ref q_ranks, .ref q_distinct, .ref q_proper, .int v_properMany, .ref q_line, .ref q_order, .int v_orderMany, .ref q_then, .ref q_bestOrder, .ref q_lineThen, .ref q_undos, .ref q_was, .int o_531.1, .int v_drawn, .ref q_kept, .ref q_isKept])), (q_now, .inl (cJ, 120, .inr (.inl w.2.2))), (q_row, .inl (cJ, 64, .inr (.inl v_row))), (q_undos, .inl (cJ, 960, .inr (.inl o_531.2.1))), (q_was, .inl (cJ, 120, .inr (.inl o_531.2.2)))] H → va_D A [(h0, .inr (8, [.ref q_now, .ref q_text, .int v_typed, .ref q_row, .int v_rowMany, .int (0 : Int32), .int v_length, .int v_at, .int v_wrong, .ref q_read, .ref q_ranks, .ref q_distinct, .ref q_proper, .int v_properMany, .ref q_line, .ref q_order, .int v_orderMany, .ref q_then, .ref q_bestOrder, .ref q_lineThen, .ref q_undos, .ref q_was, .int o_531.1, .int v_drawn, .ref q_kept, .ref q_isKept])), (q_now, .inl (cJ, 120, .inr (.inl w.2.2))), (q_row, .inl (cJ, 64, .inr (.inl v_row))), (q_undos, .inl (cJ, 960, .inr (.inl o_531.2.1))), (q_was, .inl (cJ, 120, .inr (.inl o_531.2.2)))] → va_S A s.heap H locs → lv_has ls 8 [(0, .ref h0), (4, .int w.1), (5, .int w.2.1)] → W p l e rm_X10_copies s m args below meth c H locs 0 0 QQ (F0 m 109 ls [])) → W p l e rm_X10_copies s m args below meth c H locs 0 0 QQ (F0 m 40 ls []) := by
        intro n
        induction n with
        | zero => intro x4_40 x5_40 x6_40 v_now_40 w H locs ls h; exact absurd (show none = some w from h) nofun
        | succ n ih =>
          intro x4_40 x5_40 x6_40 v_now_40 w H locs ls h hP hD hS hl K
          rw [L_X10_copies_40] at h
          refine lv_iload hx hb dX10_copies_40 (lv_at hl 5 rfl) ?_
          refine lv_aload_n hx hb dX10_copies_42 rfl (lv_at hl 0 rfl) ?_
          obtain ⟨o_533, hr_533, h⟩ := ob h
          refine vp_callSi (va_Run.run (va_runV (As := []) (rest := [.int x6_40]) ⟨hx, hb, hml, hown, hts⟩ (c_X10_rows l dC dI cB cC cI cJ cZ cT h0 q_now q_text q_row q_read q_ranks q_distinct q_proper q_line q_order q_then q_bestOrder q_lineThen q_undos q_was q_kept q_isKept v_typed v_rowMany (0 : Int32) v_length v_at v_wrong v_properMany v_orderMany o_531.1 v_drawn v_now_40 o_533 hr_533) (cwV 0 hts gX10_copies_X10_rows rfl rfl rfl (by decide +kernel) ⟨Nat.le_of_ble_eq_true rfl, Nat.le_of_ble_eq_true rfl⟩) ⟨blR, va_recv hK hP (ci := 8) (q0 := 0) rfl rfl, fun U hU hW => ⟨rfl, by rw [hU]; exact hP.sub [0, 1] rfl, va_K.moved hW.alike hK⟩⟩ rfl rfl hl.1 rfl (lv_room (Nat.le_of_ble_eq_true rfl)) dX10_copies_43 ⟨Nat.le_of_ble_eq_true rfl, Nat.le_of_ble_eq_true rfl⟩)) (fun r_533 e_533 => ?_)
          subst e_533
          refine lv_icmp_ge (tgt := 109) hx hb dX10_copies_46 (by decide) (fun c_535 => ?_) (fun c_535 => ?_)
          · replace h := op c_535 h
            have ho := Option.some.inj h
            subst ho
            exact K H _ ls hP hD hS (lv_sub hl [0, 3, 4] rfl)
          · replace h := on c_535 h
            refine lv_aload_n hx hb dX10_copies_49 rfl (lv_at hl 0 rfl) ?_
            refine lv_iload_n hx hb dX10_copies_50 rfl (lv_at hl 1 rfl) ?_
            refine lv_iload hx hb dX10_copies_51 (lv_at hl 5 rfl) ?_
            obtain ⟨o_536, hr_536, h⟩ := ob h
            refine vp_callSi (va_Run.run (va_runV (As := [.int x1, .int x6_40]) (rest := []) ⟨hx, hb, hml, hown, hts⟩ (c_X10_wayOf l dC dI cB cC cI cJ cZ cT h0 q_now q_text q_row q_read q_ranks q_distinct q_proper q_line q_order q_then q_bestOrder q_lineThen q_undos q_was q_kept q_isKept v_typed v_rowMany (0 : Int32) v_length v_at v_wrong v_properMany v_orderMany o_531.1 v_drawn v_now_40 x1 x6_40 o_536 hr_536) (cwV 2 hts gX10_copies_X10_wayOf rfl rfl rfl (by decide +kernel) ⟨Nat.le_of_ble_eq_true rfl, Nat.le_of_ble_eq_true rfl⟩) ⟨blR, va_recv hK hP (ci := 8) (q0 := 0) rfl rfl, fun U hU hW => ⟨rfl, by rw [hU]; exact hP.sub [0, 1] rfl, va_K.moved hW.alike hK⟩⟩ rfl rfl hl.1 rfl (lv_room (Nat.le_of_ble_eq_true rfl)) dX10_copies_53 ⟨Nat.le_of_ble_eq_true rfl, Nat.le_of_ble_eq_true rfl⟩)) (fun r_536 e_536 => ?_)
            subst e_536
            refine lv_istore (lv' := [(7, .int o_536), (0, .ref h0), (1, .int x1), (2, .int x2), (4, .int x4_40), (5, .int x5_40), (6, .int x6_40)]) hx hb dX10_copies_56 hl (by decide) rfl (fun ls hl => ?_)
            refine lv_aload_n hx hb dX10_copies_58 rfl (lv_at hl 1 rfl) ?_
            refine lv_aload_n hx hb dX10_copies_59 rfl (lv_at hl 1 rfl) ?_
            refine lv_iload_n hx hb dX10_copies_60 rfl (lv_at hl 3 rfl) ?_
            obtain ⟨o_538, hr_538, h⟩ := ob h
            refine vp_callSi (va_Run.run (va_runV (As := [.int x2]) (rest := [.ref h0]) ⟨hx, hb, hml, hown, hts⟩ (c_X10_kindOf l dC dI cB cC cI cJ cZ cT h0 q_now q_text q_row q_read q_ranks q_distinct q_proper q_line q_order q_then q_bestOrder q_lineThen q_undos q_was q_kept q_isKept v_typed v_rowMany (0 : Int32) v_length v_at v_wrong v_properMany v_orderMany o_531.1 v_drawn v_now_40 x2 o_538 hr_538) (cwV 1 hts gX10_copies_X10_kindOf rfl rfl rfl (by decide +kernel) ⟨Nat.le_of_ble_eq_true rfl, Nat.le_of_ble_eq_true rfl⟩) ⟨blR, va_recv hK hP (ci := 8) (q0 := 0) rfl rfl, fun U hU hW => ⟨rfl, by rw [hU]; exact hP.sub [0, 1] rfl, va_K.moved hW.alike hK⟩⟩ rfl rfl hl.1 rfl (lv_room (Nat.le_of_ble_eq_true rfl)) dX10_copies_61 ⟨Nat.le_of_ble_eq_true rfl, Nat.le_of_ble_eq_true rfl⟩)) (fun r_538 e_538 => ?_)
            subst e_538
            refine lv_iload hx hb dX10_copies_64 (lv_at hl 0 rfl) ?_
            obtain ⟨o_540, hr_540, h⟩ := ob h
            refine vp_callSi (va_Run.run (va_runV (As := [.int o_538, .int o_536]) (rest := []) ⟨hx, hb, hml, hown, hts⟩ (c_X10_canHold l dC dI cB cC cI cJ cZ cT h0 o_538 o_536 o_540 hr_540) (cwV 2 hts gX10_copies_X10_canHold rfl rfl rfl (by decide +kernel) ⟨Nat.le_of_ble_eq_true rfl, Nat.le_of_ble_eq_true rfl⟩) ⟨blTX, va_recv hK hP (ci := 8) (q0 := 0) rfl rfl, fun U hU hW => ⟨rfl, by show SX (fun _ => False) U U.heap; rw [hU]; exact SX.use hW hS hX⟩⟩ rfl rfl hl.1 rfl (lv_room (Nat.le_of_ble_eq_true rfl)) dX10_copies_66 ⟨Nat.le_of_ble_eq_true rfl, Nat.le_of_ble_eq_true rfl⟩)) (fun r_540 e_540 => ?_)
            subst e_540
            refine lv_if_eq (tgt := 94) hx hb dX10_copies_69 (by decide) (fun c_542 => ?_) (fun c_542 => ?_)
            · replace h := op c_542 h
              refine lv_iload hx hb dX10_copies_94 (lv_at hl 5 rfl) ?_
              refine lv_iconst (v := 1) hx hb dX10_copies_96 (by decide) ?_
              refine lv_iload hx hb dX10_copies_97 (lv_at hl 6 rfl) ?_
              refine lv_ishl hx hb dX10_copies_99 ?_
              refine lv_ior hx hb dX10_copies_100 ?_
              refine lv_istore (lv' := [(5, .int (x5_40 ||| ((1 : Int32) <<< (x6_40 &&& 31)))), (7, .int o_536), (0, .ref h0), (1, .int x1), (2, .int x2), (4, .int x4_40), (6, .int x6_40)]) hx hb dX10_copies_101 hl (by decide) rfl (fun ls hl => ?_)
              refine lv_iinc (v := (x6_40 + 1)) (lv' := [(6, .int (x6_40 + 1)), (5, .int (x5_40 ||| ((1 : Int32) <<< (x6_40 &&& 31)))), (7, .int o_536), (0, .ref h0), (1, .int x1), (2, .int x2), (4, .int x4_40)]) hx hb dX10_copies_103 hl (k := 6) rfl (by rfl) (by decide) rfl (fun ls hl => ?_)
              refine lv_goto (tgt := 40) hx hb dX10_copies_106 (by decide) ?_
              exact ih x4_40 (x5_40 ||| ((1 : Int32) <<< (x6_40 &&& 31))) (x6_40 + 1) v_now_40 w H _ ls h hP hD hS (lv_sub hl [3, 4, 5, 6, 1, 0] rfl) K
            · replace h := on c_542 h
              refine lv_aload_n hx hb dX10_copies_72 rfl (lv_at hl 1 rfl) ?_
              refine lv_iload_n hx hb dX10_copies_73 rfl (lv_at hl 3 rfl) ?_
              refine lv_iload hx hb dX10_copies_74 (lv_at hl 6 rfl) ?_
              refine lv_iload hx hb dX10_copies_76 (lv_at hl 0 rfl) ?_
              refine lv_aload_n hx hb dX10_copies_78 rfl (lv_at hl 1 rfl) ?_
              refine lv_iload_n hx hb dX10_copies_79 rfl (lv_at hl 2 rfl) ?_
              refine lv_iload hx hb dX10_copies_80 (lv_at hl 6 rfl) ?_
              obtain ⟨o_543, hr_543, h⟩ := ob h
              refine vp_callSl (va_Run.run (va_runV (As := [.int x1, .int x6_40]) (rest := [.int o_536, .int x6_40, .int x2, .ref h0]) ⟨hx, hb, hml, hown, hts⟩ (c_X10_cell l dC dI cB cC cI cJ cZ cT h0 q_now q_text q_row q_read q_ranks q_distinct q_proper q_line q_order q_then q_bestOrder q_lineThen q_undos q_was q_kept q_isKept v_typed v_rowMany (0 : Int32) v_length v_at v_wrong v_properMany v_orderMany o_531.1 v_drawn v_now_40 x1 x6_40 o_543 hr_543) (cwV 2 hts gX10_copies_X10_cell rfl rfl rfl (by decide +kernel) ⟨Nat.le_of_ble_eq_true rfl, Nat.le_of_ble_eq_true rfl⟩) ⟨blR, va_recv hK hP (ci := 8) (q0 := 0) rfl rfl, fun U hU hW => ⟨rfl, by rw [hU]; exact hP.sub [0, 1] rfl, va_K.moved hW.alike hK⟩⟩ rfl rfl hl.1 rfl (lv_room (Nat.le_of_ble_eq_true rfl)) dX10_copies_82 ⟨Nat.le_of_ble_eq_true rfl, Nat.le_of_ble_eq_true rfl⟩)) (fun r_543 e_543 => ?_)
              subst e_543
              obtain ⟨o_545, hr_545, h⟩ := ob h
              have hPc := hP.sub (ws' := [(h0, .inr (8, [.ref q_now, .ref q_text, .int v_typed, .ref q_row, .int v_rowMany, .int (0 : Int32), .int v_length, .int v_at, .int v_wrong, .ref q_read, .ref q_ranks, .ref q_distinct, .ref q_proper, .int v_properMany, .ref q_line, .ref q_order, .int v_orderMany, .ref q_then, .ref q_bestOrder, .ref q_lineThen, .ref q_undos, .ref q_was, .int o_531.1, .int v_drawn, .ref q_kept, .ref q_isKept])), (q_now, .inl (cJ, 120, .inr (.inl v_now_40)))]) [0, 1] rfl
              have hDc := hD.sub (ws' := [(h0, .inr (8, [.ref q_now, .ref q_text, .int v_typed, .ref q_row, .int v_rowMany, .int (0 : Int32), .int v_length, .int v_at, .int v_wrong, .ref q_read, .ref q_ranks, .ref q_distinct, .ref q_proper, .int v_properMany, .ref q_line, .ref q_order, .int v_orderMany, .ref q_then, .ref q_bestOrder, .ref q_lineThen, .ref q_undos, .ref q_was, .int o_531.1, .int v_drawn, .ref q_kept, .ref q_isKept])), (q_now, .inl (cJ, 120, .inr (.inl v_now_40)))]) [0, 1] (by decide) rfl
              have hFc := va_free (wc := [(h0, .inr (8, [.ref q_now, .ref q_text, .int v_typed, .ref q_row, .int v_rowMany, .int (0 : Int32), .int v_length, .int v_at, .int v_wrong, .ref q_read, .ref q_ranks, .ref q_distinct, .ref q_proper, .int v_properMany, .ref q_line, .ref q_order, .int v_orderMany, .ref q_then, .ref q_bestOrder, .ref q_lineThen, .ref q_undos, .ref q_was, .int o_531.1, .int v_drawn, .ref q_kept, .ref q_isKept])), (q_now, .inl (cJ, 120, .inr (.inl v_now_40)))]) hD hS hA [0, 1] rfl
              refine va_callv (va_runV (As := [.int x2, .int x6_40, .int o_536, .long o_543]) (rest := []) ⟨hx, hb, hml, hown, hts⟩ (c_X10_store l dC dI cB cC cI cJ cZ cT h0 q_now q_text q_row q_read q_ranks q_distinct q_proper q_line q_order q_then q_bestOrder q_lineThen q_undos q_was q_kept q_isKept H.size v_typed v_rowMany (0 : Int32) v_length v_at v_wrong v_properMany v_orderMany o_531.1 v_drawn v_now_40 x2 x6_40 o_536 o_543 o_545 hr_545) (cwV 4 hts gX10_copies_X10_store rfl rfl rfl (by decide +kernel) ⟨Nat.le_of_ble_eq_true rfl, Nat.le_of_ble_eq_true rfl⟩) ⟨blW, va_recv hK hP (ci := 8) (q0 := 0) rfl rfl, fun U hU hW => ⟨rfl, by rw [hU], by rw [hU]; exact hPc, va_K.moved hW.alike hK, hDc.weaken (fun _ _ _ _ => trivial)⟩⟩ rfl rfl hl.1 rfl (lv_room (Nat.le_of_ble_eq_true rfl)) dX10_copies_85 ⟨Nat.le_of_ble_eq_true rfl, Nat.le_of_ble_eq_true rfl⟩) hS (fun q _ h => hFc q h) hFc (fun u_545 t_545 H locs ht hvm e_545 hB hz1 hk1 hS => ?_)
              obtain ⟨hP1, -, hD1⟩ := hB
              rw [ht] at hP1
              obtain ⟨hP, hD⟩ := va_join (wr := [(q_row, .inl (cJ, 64, .inr (.inl v_row))), (q_undos, .inl (cJ, 960, .inr (.inl o_531.2.1))), (q_was, .inl (cJ, 120, .inr (.inl o_531.2.2)))]) (w1 := [(h0, .inr (8, [.ref q_now, .ref q_text, .int v_typed, .ref q_row, .int v_rowMany, .int (0 : Int32), .int v_length, .int v_at, .int v_wrong, .ref q_read, .ref q_ranks, .ref q_distinct, .ref q_proper, .int v_properMany, .ref q_line, .ref q_order, .int v_orderMany, .ref q_then, .ref q_bestOrder, .ref q_lineThen, .ref q_undos, .ref q_was, .int o_531.1, .int v_drawn, .ref q_kept, .ref q_isKept])), (q_now, .inl (cJ, 120, .inr (.inl o_545)))]) hP hD [0, 1] [2, 3, 4] rfl rfl (by decide) (by decide) hk1 hFc hP1 hD1
              replace hP := hP.sub (ws' := [(h0, .inr (8, [.ref q_now, .ref q_text, .int v_typed, .ref q_row, .int v_rowMany, .int (0 : Int32), .int v_length, .int v_at, .int v_wrong, .ref q_read, .ref q_ranks, .ref q_distinct, .ref q_proper, .int v_properMany, .ref q_line, .ref q_order, .int v_orderMany, .ref q_then, .ref q_bestOrder, .ref q_lineThen, .ref q_undos, .ref q_was, .int o_531.1, .int v_drawn, .ref q_kept, .ref q_isKept])), (q_now, .inl (cJ, 120, .inr (.inl o_545))), (q_row, .inl (cJ, 64, .inr (.inl v_row))), (q_undos, .inl (cJ, 960, .inr (.inl o_531.2.1))), (q_was, .inl (cJ, 120, .inr (.inl o_531.2.2)))]) [3, 4, 0, 1, 2] rfl
              replace hD := hD.sub (ws' := [(h0, .inr (8, [.ref q_now, .ref q_text, .int v_typed, .ref q_row, .int v_rowMany, .int (0 : Int32), .int v_length, .int v_at, .int v_wrong, .ref q_read, .ref q_ranks, .ref q_distinct, .ref q_proper, .int v_properMany, .ref q_line, .ref q_order, .int v_orderMany, .ref q_then, .ref q_bestOrder, .ref q_lineThen, .ref q_undos, .ref q_was, .int o_531.1, .int v_drawn, .ref q_kept, .ref q_isKept])), (q_now, .inl (cJ, 120, .inr (.inl o_545))), (q_row, .inl (cJ, 64, .inr (.inl v_row))), (q_undos, .inl (cJ, 960, .inr (.inl o_531.2.1))), (q_was, .inl (cJ, 120, .inr (.inl o_531.2.2)))]) [3, 4, 0, 1, 2] (by decide) rfl
              refine lv_iinc (v := (x4_40 + 1)) (lv' := [(4, .int (x4_40 + 1)), (7, .int o_536), (0, .ref h0), (1, .int x1), (2, .int x2), (5, .int x5_40), (6, .int x6_40)]) hx hb dX10_copies_88 hl (k := 4) rfl (by rfl) (by decide) rfl (fun ls hl => ?_)
              refine lv_goto (tgt := 103) hx hb dX10_copies_91 (by decide) ?_
              refine lv_iinc (v := (x6_40 + 1)) (lv' := [(6, .int (x6_40 + 1)), (4, .int (x4_40 + 1)), (7, .int o_536), (0, .ref h0), (1, .int x1), (2, .int x2), (5, .int x5_40)]) hx hb dX10_copies_103 hl (k := 6) rfl (by rfl) (by decide) rfl (fun ls hl => ?_)
              refine lv_goto (tgt := 40) hx hb dX10_copies_106 (by decide) ?_
              exact ih (x4_40 + 1) x5_40 (x6_40 + 1) o_545 w H _ ls h hP hD hS (lv_sub hl [3, 4, 5, 1, 6, 0] rfl) K
      obtain ⟨w_547, hw_547, h⟩ := ob h
      refine LP_547 fu (0 : Int32) (0 : Int32) (0 : Int32) v_now w_547 H _ ls hw_547 hP hD hS (lv_sub hl [4, 5, 6, 2, 1, 0] rfl) (fun H locs ls hP hD hS hl => ?_)
      refine lv_aload_n hx hb dX10_copies_109 rfl (lv_at hl 0 rfl) ?_
      refine lv_iconst (v := 0) hx hb dX10_copies_110 (by decide) ?_
      refine va_put (D := (dC, dI)) (ci := 8) (v := .int (0 : Int32)) (ty := .int) (C := RX10) (T := TX10) (N := 26) hx hb hts hi_X10 tyX10 tyX10_ok nmX10 hown hK hP hD hS 0 rfl rfl 4 (by decide) (hts _ (List.mem_of_getElem? (i := 2) rfl)) (fun _ h9 => h9) rfl (by decide +kernel) rfl rfl (Nat.le_of_ble_eq_true rfl) dX10_copies_111 (fun H locs hP hD hS => ?_)
      replace hP : va_P (dC, dI) vwCl [(h0, .inr (8, [.ref q_now, .ref q_text, .int v_typed, .ref q_row, .int (0 : Int32), .int (0 : Int32), .int v_length, .int v_at, .int v_wrong, .ref q_read, .ref q_ranks, .ref q_distinct, .ref q_proper, .int v_properMany, .ref q_line, .ref q_order, .int v_orderMany, .ref q_then, .ref q_bestOrder, .ref q_lineThen, .ref q_undos, .ref q_was, .int o_531.1, .int v_drawn, .ref q_kept, .ref q_isKept])), (q_now, .inl (cJ, 120, .inr (.inl w_547.2.2))), (q_row, .inl (cJ, 64, .inr (.inl v_row))), (q_undos, .inl (cJ, 960, .inr (.inl o_531.2.1))), (q_was, .inl (cJ, 120, .inr (.inl o_531.2.2)))] H := hP
      replace hD : va_D A [(h0, .inr (8, [.ref q_now, .ref q_text, .int v_typed, .ref q_row, .int (0 : Int32), .int (0 : Int32), .int v_length, .int v_at, .int v_wrong, .ref q_read, .ref q_ranks, .ref q_distinct, .ref q_proper, .int v_properMany, .ref q_line, .ref q_order, .int v_orderMany, .ref q_then, .ref q_bestOrder, .ref q_lineThen, .ref q_undos, .ref q_was, .int o_531.1, .int v_drawn, .ref q_kept, .ref q_isKept])), (q_now, .inl (cJ, 120, .inr (.inl w_547.2.2))), (q_row, .inl (cJ, 64, .inr (.inl v_row))), (q_undos, .inl (cJ, 960, .inr (.inl o_531.2.1))), (q_was, .inl (cJ, 120, .inr (.inl o_531.2.2)))] := hD
      refine lv_aload_n hx hb dX10_copies_114 rfl (lv_at hl 0 rfl) ?_
      refine lv_iload hx hb dX10_copies_115 (lv_at hl 2 rfl) ?_
      refine lv_i2l (v := (w_547.2.1).toInt64) hx hb dX10_copies_117 rfl ?_
      obtain ⟨o_548, hr_548, h⟩ := ob h
      have hPc := hP.sub (ws' := [(h0, .inr (8, [.ref q_now, .ref q_text, .int v_typed, .ref q_row, .int (0 : Int32), .int (0 : Int32), .int v_length, .int v_at, .int v_wrong, .ref q_read, .ref q_ranks, .ref q_distinct, .ref q_proper, .int v_properMany, .ref q_line, .ref q_order, .int v_orderMany, .ref q_then, .ref q_bestOrder, .ref q_lineThen, .ref q_undos, .ref q_was, .int o_531.1, .int v_drawn, .ref q_kept, .ref q_isKept])), (q_row, .inl (cJ, 64, .inr (.inl v_row)))]) [0, 2] rfl
      have hDc := hD.sub (ws' := [(h0, .inr (8, [.ref q_now, .ref q_text, .int v_typed, .ref q_row, .int (0 : Int32), .int (0 : Int32), .int v_length, .int v_at, .int v_wrong, .ref q_read, .ref q_ranks, .ref q_distinct, .ref q_proper, .int v_properMany, .ref q_line, .ref q_order, .int v_orderMany, .ref q_then, .ref q_bestOrder, .ref q_lineThen, .ref q_undos, .ref q_was, .int o_531.1, .int v_drawn, .ref q_kept, .ref q_isKept])), (q_row, .inl (cJ, 64, .inr (.inl v_row)))]) [0, 2] (by decide) rfl
      have hFc := va_free (wc := [(h0, .inr (8, [.ref q_now, .ref q_text, .int v_typed, .ref q_row, .int (0 : Int32), .int (0 : Int32), .int v_length, .int v_at, .int v_wrong, .ref q_read, .ref q_ranks, .ref q_distinct, .ref q_proper, .int v_properMany, .ref q_line, .ref q_order, .int v_orderMany, .ref q_then, .ref q_bestOrder, .ref q_lineThen, .ref q_undos, .ref q_was, .int o_531.1, .int v_drawn, .ref q_kept, .ref q_isKept])), (q_row, .inl (cJ, 64, .inr (.inl v_row)))]) hD hS hA [0, 2] rfl
      refine va_callv (va_runV (As := [.long (w_547.2.1).toInt64]) (rest := []) ⟨hx, hb, hml, hown, hts⟩ (c_X10_tell l dC dI cB cC cI cJ cZ cT h0 q_now q_text q_row q_read q_ranks q_distinct q_proper q_line q_order q_then q_bestOrder q_lineThen q_undos q_was q_kept q_isKept H.size v_typed (0 : Int32) (0 : Int32) v_length v_at v_wrong v_properMany v_orderMany o_531.1 v_drawn v_row (w_547.2.1).toInt64 o_548 hr_548) (cwV 1 hts gX10_copies_X10_tell rfl rfl rfl (by decide +kernel) ⟨Nat.le_of_ble_eq_true rfl, Nat.le_of_ble_eq_true rfl⟩) ⟨blW, va_recv hK hP (ci := 8) (q0 := 0) rfl rfl, fun U hU hW => ⟨rfl, by rw [hU], by rw [hU]; exact hPc, va_K.moved hW.alike hK, hDc.weaken (fun _ _ _ _ => trivial)⟩⟩ rfl rfl hl.1 rfl (lv_room (Nat.le_of_ble_eq_true rfl)) dX10_copies_118 ⟨Nat.le_of_ble_eq_true rfl, Nat.le_of_ble_eq_true rfl⟩) hS (fun q _ h => hFc q h) hFc (fun u_548 t_548 H locs ht hvm e_548 hB hz1 hk1 hS => ?_)
      obtain ⟨hP1, -, hD1⟩ := hB
      rw [ht] at hP1
      obtain ⟨hP, hD⟩ := va_join (wr := [(q_now, .inl (cJ, 120, .inr (.inl w_547.2.2))), (q_undos, .inl (cJ, 960, .inr (.inl o_531.2.1))), (q_was, .inl (cJ, 120, .inr (.inl o_531.2.2)))]) (w1 := [(h0, .inr (8, [.ref q_now, .ref q_text, .int v_typed, .ref q_row, .int o_548.1, .int (0 : Int32), .int v_length, .int v_at, .int v_wrong, .ref q_read, .ref q_ranks, .ref q_distinct, .ref q_proper, .int v_properMany, .ref q_line, .ref q_order, .int v_orderMany, .ref q_then, .ref q_bestOrder, .ref q_lineThen, .ref q_undos, .ref q_was, .int o_531.1, .int v_drawn, .ref q_kept, .ref q_isKept])), (q_row, .inl (cJ, 64, .inr (.inl o_548.2)))]) hP hD [0, 2] [1, 3, 4] rfl rfl (by decide) (by decide) hk1 hFc hP1 hD1
      replace hP := hP.sub (ws' := [(h0, .inr (8, [.ref q_now, .ref q_text, .int v_typed, .ref q_row, .int o_548.1, .int (0 : Int32), .int v_length, .int v_at, .int v_wrong, .ref q_read, .ref q_ranks, .ref q_distinct, .ref q_proper, .int v_properMany, .ref q_line, .ref q_order, .int v_orderMany, .ref q_then, .ref q_bestOrder, .ref q_lineThen, .ref q_undos, .ref q_was, .int o_531.1, .int v_drawn, .ref q_kept, .ref q_isKept])), (q_now, .inl (cJ, 120, .inr (.inl w_547.2.2))), (q_row, .inl (cJ, 64, .inr (.inl o_548.2))), (q_undos, .inl (cJ, 960, .inr (.inl o_531.2.1))), (q_was, .inl (cJ, 120, .inr (.inl o_531.2.2)))]) [3, 0, 4, 1, 2] rfl
      replace hD := hD.sub (ws' := [(h0, .inr (8, [.ref q_now, .ref q_text, .int v_typed, .ref q_row, .int o_548.1, .int (0 : Int32), .int v_length, .int v_at, .int v_wrong, .ref q_read, .ref q_ranks, .ref q_distinct, .ref q_proper, .int v_properMany, .ref q_line, .ref q_order, .int v_orderMany, .ref q_then, .ref q_bestOrder, .ref q_lineThen, .ref q_undos, .ref q_was, .int o_531.1, .int v_drawn, .ref q_kept, .ref q_isKept])), (q_now, .inl (cJ, 120, .inr (.inl w_547.2.2))), (q_row, .inl (cJ, 64, .inr (.inl o_548.2))), (q_undos, .inl (cJ, 960, .inr (.inl o_531.2.1))), (q_was, .inl (cJ, 120, .inr (.inl o_531.2.2)))]) [3, 0, 4, 1, 2] (by decide) rfl
      refine lv_iload hx hb dX10_copies_121 (lv_at hl 1 rfl) ?_
      rw [hQQ]
      have ho := Option.some.inj h
      subst ho
      exact W.iret hx hb hr (fun t ht hW => ⟨⟨_, (), rfl, rfl, by rw [ht]; exact hP, va_K.moved hW.alike hK, hD⟩, hS.F ht⟩) hS.2.2 dX10_copies_123
    · replace h := on c_530 h
      refine lv_iload_n hx hb dX10_copies_25 rfl (lv_at hl 0 rfl) ?_
      rw [hQQ]
      have ho := Option.some.inj h
      subst ho
      exact W.iret hx hb hr (fun t ht hW => ⟨⟨_, (), rfl, rfl, by rw [ht]; exact hP, va_K.moved hW.alike hK, hD⟩, hS.F ht⟩) hS.2.2 dX10_copies_26
  replace h := hv_523
  refine lv_icmp_ne (tgt := 14) hx hb dX10_copies_7 (by decide) (fun c_527 => ?_) (fun c_527 => ?_)
  · replace h := on c_527 h
    refine lv_aload_n hx hb dX10_copies_14 rfl (lv_at hl 0 rfl) ?_
    refine lv_iload_n hx hb dX10_copies_15 rfl (lv_at hl 1 rfl) ?_
    refine lv_iload_n hx hb dX10_copies_16 rfl (lv_at hl 2 rfl) ?_
    obtain ⟨o_528, hr_528, h⟩ := ob h
    refine vp_callSi (va_Run.run (va_runV (As := [.int x1, .int x2]) (rest := []) ⟨hx, hb, hml, hown, hts⟩ (c_X10_refusesBoth l dC dI cB cC cI cJ cZ cT h0 q_now q_text q_row q_read q_ranks q_distinct q_proper q_line q_order q_then q_bestOrder q_lineThen q_undos q_was q_kept q_isKept v_typed v_rowMany (0 : Int32) v_length v_at v_wrong v_properMany v_orderMany v_undoMany v_drawn v_now x1 x2 o_528 hr_528) (cwV 2 hts gX10_copies_X10_refusesBoth rfl rfl rfl (by decide +kernel) ⟨Nat.le_of_ble_eq_true rfl, Nat.le_of_ble_eq_true rfl⟩) ⟨blR, va_recv hK hP (ci := 8) (q0 := 0) rfl rfl, fun U hU hW => ⟨rfl, by rw [hU]; exact hP.sub [0, 1] rfl, va_K.moved hW.alike hK⟩⟩ rfl rfl hl.1 rfl (lv_room (Nat.le_of_ble_eq_true rfl)) dX10_copies_17 ⟨Nat.le_of_ble_eq_true rfl, Nat.le_of_ble_eq_true rfl⟩)) (fun r_528 e_528 => ?_)
    subst e_528
    have ho := Option.some.inj h
    subst ho
    exact J_523 H _ ls hP hD hS (lv_sub hl [0, 1, 2] rfl)
  · replace h := op c_527 h
    refine lv_iconst (v := -1) hx hb dX10_copies_10 (by decide) ?_
    refine lv_goto (tgt := 20) hx hb dX10_copies_11 (by decide) ?_
    have ho := Option.some.inj h
    subst ho
    exact J_523 H _ ls hP hD hS (lv_sub hl [0, 1, 2] rfl)
def f_X10_worth (x0 : Int32) (x1 : Int64) : Option UInt64 :=
  (if x0 = (6 : Int32) then (if vn_sni2f (x1).toInt32 = true then none else (if ¬ ((FP.f2d ((x1).toInt32).toUInt32) &&& 0x7fffffffffffffff ≤ 0x7ff0000000000000) then none else (some (FP.f2d ((x1).toInt32).toUInt32)))) else (if x0 = (7 : Int32) then (if vn_snl2d x1 = true then none else (some (x1).toUInt64)) else (some (FP.l2d x1))))
abbrev rm_X10_worth : Room := { frames := 1, cells := 0, slots := 0, locals := 23 }
set_option maxHeartbeats 4000000 in
set_option maxRecDepth 100000 in
theorem c_X10_worth (l : Launch) (dC : Nat → ClassId) (dI : Nat → Nat → Nat) (cB cC cI cJ cZ cT : ClassId) (x0 : Int32) (x1 : Int64) (o : UInt64) (hf : f_X10_worth x0 x1 = some o) : Met l yX10_worth wsX10_worth rm_X10_worth (va_Pc [.int x0, .long x1] (fun _ => True)) (vp_Sd (fun r => o = r)) 0 0 (fun _ => False) := by
  refine Met.ofW (cc := cX10_worth) (maxL := 3) (ret := (some .double)) (by decide +kernel) rfl ?_
  intro p e s m args below meth c s₁ B hml hv
  obtain ⟨hav, -⟩ := hv
  have hx := B.exec
  have hb := B.bytes
  have hr := B.returns
  have hts := atoms_spec (ws := wsX10_worth) B.pre
  have hown : s.vm.findClass RX10 = some m.cls := findClass_of_methodNamed B.named
  have hlocks := B.notSynchronized
  refine wstart (rm := rm_X10_worth) hav (Nat.le_of_ble_eq_true rfl) (fun QQ ls hQQ hl => ?_)
  have hl : lv_has ls 3 [(0, .int x0), (1, .long x1)] := hl
  have h := hf
  unfold f_X10_worth at h
  refine lv_iload_n hx hb dX10_worth_0 rfl (lv_at hl 0 rfl) ?_
  refine lv_bipush (v := 6) hx hb dX10_worth_1 (by decide) ?_
  refine lv_icmp_ne (tgt := 15) hx hb dX10_worth_3 (by decide) (fun c_550 => ?_) (fun c_550 => ?_)
  · replace h := on c_550 h
    refine lv_iload_n hx hb dX10_worth_15 rfl (lv_at hl 0 rfl) ?_
    refine lv_bipush (v := 7) hx hb dX10_worth_16 (by decide) ?_
    refine lv_icmp_ne (tgt := 28) hx hb dX10_worth_18 (by decide) (fun c_551 => ?_) (fun c_551 => ?_)
    · replace h := on c_551 h
      refine lv_lload_n hx hb dX10_worth_28 rfl (lv_at hl 1 rfl) ?_
      refine lv_l2d hx hb dX10_worth_29 ?_
      rw [hQQ]
      exact W.dret hx hb hr (fun t ht hW => ⟨_, rfl, (Option.some.inj h).symm, ht⟩) (fun q hq => absurd hq List.not_mem_nil) dX10_worth_30
    · replace h := op c_551 h
      refine lv_lload_n hx hb dX10_worth_21 rfl (lv_at hl 1 rfl) ?_
      obtain ⟨hi_552, h⟩ := og h
      refine vn_l2d hx hb (hml.trans hl.1.symm) hown (hts _ (List.mem_of_getElem? (i := 5) rfl)) (hts _ (List.mem_of_getElem? (i := 6) rfl)) (hts _ (List.mem_of_getElem? (i := 7) rfl)) (hts _ (List.mem_of_getElem? (i := 8) rfl)) (Bool.eq_false_iff.mpr hi_552) (Nat.le_of_ble_eq_true rfl) (Nat.le_of_ble_eq_true rfl) dX10_worth_22 ?_
      refine lv_goto (tgt := 30) hx hb dX10_worth_25 (by decide) ?_
      rw [hQQ]
      exact W.dret hx hb hr (fun t ht hW => ⟨_, rfl, (Option.some.inj h).symm, ht⟩) (fun q hq => absurd hq List.not_mem_nil) dX10_worth_30
  · replace h := op c_550 h
    refine lv_lload_n hx hb dX10_worth_6 rfl (lv_at hl 1 rfl) ?_
    refine lv_l2i (v := (x1).toInt32) hx hb dX10_worth_7 rfl ?_
    obtain ⟨hi_553, h⟩ := og h
    refine vn_i2f hx hb (hml.trans hl.1.symm) hown (hts _ (List.mem_of_getElem? (i := 1) rfl)) (hts _ (List.mem_of_getElem? (i := 2) rfl)) (hts _ (List.mem_of_getElem? (i := 3) rfl)) (hts _ (List.mem_of_getElem? (i := 4) rfl)) (Bool.eq_false_iff.mpr hi_553) (Nat.le_of_ble_eq_true rfl) (Nat.le_of_ble_eq_true rfl) dX10_worth_8 ?_
    obtain ⟨hi_554, h⟩ := og h
    refine lv_f2d hx hb dX10_worth_11 (Classical.not_not.mp hi_554) ?_
    refine lv_goto (tgt := 30) hx hb dX10_worth_12 (by decide) ?_
    rw [hQQ]
    exact W.dret hx hb hr (fun t ht hW => ⟨_, rfl, (Option.some.inj h).symm, ht⟩) (fun q hq => absurd hq List.not_mem_nil) dX10_worth_30
def f_X10_areSame (v_now : Nat → Int64) (x1 : Int32) (x2 : Int32) (x3 : Int32) : Option Bool :=
  ((f_X10_kindOf v_now x1).bind (fun o_555 => ((f_X10_kindOf v_now x2).bind (fun o_557 => ((f_X10_cell v_now x1 x3).bind (fun o_559 => ((f_X10_cell v_now x2 x3).bind (fun o_561 => (((if o_555 < (8 : Int32) then (some (0 : Int32)) else (((if (lg_cmp o_559 (-9223372036854775808 : Int64)) = 0 then (some (1 : Int32)) else (some (0 : Int32)))).bind (fun v_569 => (some v_569))))).bind (fun v_563 => (((if o_557 < (8 : Int32) then (some (0 : Int32)) else (((if (lg_cmp o_561 (-9223372036854775808 : Int64)) = 0 then (some (1 : Int32)) else (some (0 : Int32)))).bind (fun v_578 => (some v_578))))).bind (fun v_572 => (if v_563 = 0 then (if v_572 = 0 then ((f_X10_in o_555 (1 : Int32) (8 : Int32)).bind (fun o_585 => (if (b2i o_585) = 0 then (if o_555 = o_557 then (if (lg_cmp o_559 o_561) = 0 then (some true) else (some false)) else (some false)) else ((f_X10_in o_557 (1 : Int32) (8 : Int32)).bind (fun o_590 => (if (b2i o_590) = 0 then (if o_555 = o_557 then (if (lg_cmp o_559 o_561) = 0 then (some true) else (some false)) else (some false)) else ((f_X10_worth o_555 o_559).bind (fun o_595 => ((f_X10_worth o_557 o_561).bind (fun o_597 => (if (Op.cmpValue (FP.dcmp o_595 o_597) .l) = 0 then (some true) else (some false)))))))))))) else (if v_563 = 0 then (some false) else (if v_572 = 0 then (some false) else (some true)))) else (if v_563 = 0 then (some false) else (if v_572 = 0 then (some false) else (some true))))))))))))))))
abbrev rm_X10_areSame : Room := { frames := 2, cells := 0, slots := 0, locals := 45 }
set_option maxHeartbeats 4000000 in
set_option maxRecDepth 100000 in
theorem c_X10_areSame (l : Launch) (dC : Nat → ClassId) (dI : Nat → Nat → Nat) (cB cC cI cJ cZ cT : ClassId) (h0 q_now q_text q_row q_read q_ranks q_distinct q_proper q_line q_order q_then q_bestOrder q_lineThen q_undos q_was q_kept q_isKept : Nat) (v_typed : Int32) (v_rowMany : Int32) (v_thrown : Int32) (v_length : Int32) (v_at : Int32) (v_wrong : Int32) (v_properMany : Int32) (v_orderMany : Int32) (v_undoMany : Int32) (v_drawn : Int32) (v_now : Nat → Int64) (x1 : Int32) (x2 : Int32) (x3 : Int32) (o : Bool) (hf : f_X10_areSame v_now x1 x2 x3 = some o) : Met l yX10_areSame wsX10_areSame rm_X10_areSame (va_Pc [.ref h0, .int x1, .int x2, .int x3] (fun U => va_P (dC, dI) vwCl [(h0, .inr (8, [.ref q_now, .ref q_text, .int v_typed, .ref q_row, .int v_rowMany, .int v_thrown, .int v_length, .int v_at, .int v_wrong, .ref q_read, .ref q_ranks, .ref q_distinct, .ref q_proper, .int v_properMany, .ref q_line, .ref q_order, .int v_orderMany, .ref q_then, .ref q_bestOrder, .ref q_lineThen, .ref q_undos, .ref q_was, .int v_undoMany, .int v_drawn, .ref q_kept, .ref q_isKept])), (q_now, .inl (cJ, 120, .inr (.inl v_now)))] U.heap ∧ va_K (dC, dI) vwCl (tyA cB cC cI cJ cZ cT) U)) (vp_Si (fun r => b2i o = r)) 0 0 (fun _ => False) := by
  refine Met.ofW (cc := cX10_areSame) (maxL := 12) (ret := (some .boolean)) (by decide +kernel) rfl ?_
  intro p e s m args below meth c s₁ B hml hv
  obtain ⟨hav, hP, hK⟩ := hv
  have hx := B.exec
  have hb := B.bytes
  have hr := B.returns
  have hts := atoms_spec (ws := wsX10_areSame) B.pre
  have hown : s.vm.findClass RX10 = some m.cls := findClass_of_methodNamed B.named
  have hlocks := B.notSynchronized
  refine wstart (rm := rm_X10_areSame) hav (Nat.le_of_ble_eq_true rfl) (fun QQ ls hQQ hl => ?_)
  have hl : lv_has ls 12 [(0, .ref h0), (1, .int x1), (2, .int x2), (3, .int x3)] := hl
  have h := hf
  unfold f_X10_areSame at h
  refine lv_aload_n hx hb dX10_areSame_0 rfl (lv_at hl 0 rfl) ?_
  refine lv_iload_n hx hb dX10_areSame_1 rfl (lv_at hl 1 rfl) ?_
  obtain ⟨o_555, hr_555, h⟩ := ob h
  refine vp_callSi (va_Run.run (va_runV (As := [.int x1]) (rest := []) ⟨hx, hb, hml, hown, hts⟩ (c_X10_kindOf l dC dI cB cC cI cJ cZ cT h0 q_now q_text q_row q_read q_ranks q_distinct q_proper q_line q_order q_then q_bestOrder q_lineThen q_undos q_was q_kept q_isKept v_typed v_rowMany v_thrown v_length v_at v_wrong v_properMany v_orderMany v_undoMany v_drawn v_now x1 o_555 hr_555) (cwV 1 hts gX10_areSame_X10_kindOf rfl rfl rfl (by decide +kernel) ⟨Nat.le_of_ble_eq_true rfl, Nat.le_of_ble_eq_true rfl⟩) ⟨blR, va_recv hK hP (ci := 8) (q0 := 0) rfl rfl, fun U hU hW => ⟨rfl, by rw [hU]; exact hP.sub [0, 1] rfl, va_K.moved hW.alike hK⟩⟩ rfl rfl hl.1 rfl (lv_room (Nat.le_of_ble_eq_true rfl)) dX10_areSame_2 ⟨Nat.le_of_ble_eq_true rfl, Nat.le_of_ble_eq_true rfl⟩)) (fun r_555 e_555 => ?_)
  subst e_555
  refine lv_istore (lv' := [(4, .int o_555), (0, .ref h0), (1, .int x1), (2, .int x2), (3, .int x3)]) hx hb dX10_areSame_5 hl (by decide) rfl (fun ls hl => ?_)
  refine lv_aload_n hx hb dX10_areSame_7 rfl (lv_at hl 1 rfl) ?_
  refine lv_iload_n hx hb dX10_areSame_8 rfl (lv_at hl 3 rfl) ?_
  obtain ⟨o_557, hr_557, h⟩ := ob h
  refine vp_callSi (va_Run.run (va_runV (As := [.int x2]) (rest := []) ⟨hx, hb, hml, hown, hts⟩ (c_X10_kindOf l dC dI cB cC cI cJ cZ cT h0 q_now q_text q_row q_read q_ranks q_distinct q_proper q_line q_order q_then q_bestOrder q_lineThen q_undos q_was q_kept q_isKept v_typed v_rowMany v_thrown v_length v_at v_wrong v_properMany v_orderMany v_undoMany v_drawn v_now x2 o_557 hr_557) (cwV 1 hts gX10_areSame_X10_kindOf rfl rfl rfl (by decide +kernel) ⟨Nat.le_of_ble_eq_true rfl, Nat.le_of_ble_eq_true rfl⟩) ⟨blR, va_recv hK hP (ci := 8) (q0 := 0) rfl rfl, fun U hU hW => ⟨rfl, by rw [hU]; exact hP.sub [0, 1] rfl, va_K.moved hW.alike hK⟩⟩ rfl rfl hl.1 rfl (lv_room (Nat.le_of_ble_eq_true rfl)) dX10_areSame_9 ⟨Nat.le_of_ble_eq_true rfl, Nat.le_of_ble_eq_true rfl⟩)) (fun r_557 e_557 => ?_)
  subst e_557
  refine lv_istore (lv' := [(5, .int o_557), (4, .int o_555), (0, .ref h0), (1, .int x1), (2, .int x2), (3, .int x3)]) hx hb dX10_areSame_12 hl (by decide) rfl (fun ls hl => ?_)
  refine lv_aload_n hx hb dX10_areSame_14 rfl (lv_at hl 2 rfl) ?_
  refine lv_iload_n hx hb dX10_areSame_15 rfl (lv_at hl 3 rfl) ?_
  refine lv_iload_n hx hb dX10_areSame_16 rfl (lv_at hl 5 rfl) ?_
  obtain ⟨o_559, hr_559, h⟩ := ob h
  refine vp_callSl (va_Run.run (va_runV (As := [.int x1, .int x3]) (rest := []) ⟨hx, hb, hml, hown, hts⟩ (c_X10_cell l dC dI cB cC cI cJ cZ cT h0 q_now q_text q_row q_read q_ranks q_distinct q_proper q_line q_order q_then q_bestOrder q_lineThen q_undos q_was q_kept q_isKept v_typed v_rowMany v_thrown v_length v_at v_wrong v_properMany v_orderMany v_undoMany v_drawn v_now x1 x3 o_559 hr_559) (cwV 2 hts gX10_areSame_X10_cell rfl rfl rfl (by decide +kernel) ⟨Nat.le_of_ble_eq_true rfl, Nat.le_of_ble_eq_true rfl⟩) ⟨blR, va_recv hK hP (ci := 8) (q0 := 0) rfl rfl, fun U hU hW => ⟨rfl, by rw [hU]; exact hP.sub [0, 1] rfl, va_K.moved hW.alike hK⟩⟩ rfl rfl hl.1 rfl (lv_room (Nat.le_of_ble_eq_true rfl)) dX10_areSame_17 ⟨Nat.le_of_ble_eq_true rfl, Nat.le_of_ble_eq_true rfl⟩)) (fun r_559 e_559 => ?_)
  subst e_559
  refine lv_lstore (lv' := [(6, .long o_559), (5, .int o_557), (4, .int o_555), (0, .ref h0), (1, .int x1), (2, .int x2), (3, .int x3)]) hx hb dX10_areSame_20 hl (by decide) rfl (fun ls hl => ?_)
  refine lv_aload_n hx hb dX10_areSame_22 rfl (lv_at hl 3 rfl) ?_
  refine lv_iload_n hx hb dX10_areSame_23 rfl (lv_at hl 5 rfl) ?_
  refine lv_iload_n hx hb dX10_areSame_24 rfl (lv_at hl 6 rfl) ?_
  obtain ⟨o_561, hr_561, h⟩ := ob h
  refine vp_callSl (va_Run.run (va_runV (As := [.int x2, .int x3]) (rest := []) ⟨hx, hb, hml, hown, hts⟩ (c_X10_cell l dC dI cB cC cI cJ cZ cT h0 q_now q_text q_row q_read q_ranks q_distinct q_proper q_line q_order q_then q_bestOrder q_lineThen q_undos q_was q_kept q_isKept v_typed v_rowMany v_thrown v_length v_at v_wrong v_properMany v_orderMany v_undoMany v_drawn v_now x2 x3 o_561 hr_561) (cwV 2 hts gX10_areSame_X10_cell rfl rfl rfl (by decide +kernel) ⟨Nat.le_of_ble_eq_true rfl, Nat.le_of_ble_eq_true rfl⟩) ⟨blR, va_recv hK hP (ci := 8) (q0 := 0) rfl rfl, fun U hU hW => ⟨rfl, by rw [hU]; exact hP.sub [0, 1] rfl, va_K.moved hW.alike hK⟩⟩ rfl rfl hl.1 rfl (lv_room (Nat.le_of_ble_eq_true rfl)) dX10_areSame_25 ⟨Nat.le_of_ble_eq_true rfl, Nat.le_of_ble_eq_true rfl⟩)) (fun r_561 e_561 => ?_)
  subst e_561
  refine lv_lstore (lv' := [(8, .long o_561), (6, .long o_559), (5, .int o_557), (4, .int o_555), (0, .ref h0), (1, .int x1), (2, .int x2), (3, .int x3)]) hx hb dX10_areSame_28 hl (by decide) rfl (fun ls hl => ?_)
  refine lv_iload hx hb dX10_areSame_30 (lv_at hl 3 rfl) ?_
  refine lv_bipush (v := 8) hx hb dX10_areSame_32 (by decide) ?_
  obtain ⟨v_563, hv_563, h⟩ := ob h
  have J_563 : ∀ (ls : Array Slot), lv_has ls 12 [(4, .int o_555), (5, .int o_557), (6, .long o_559), (8, .long o_561)] → W p l e rm_X10_areSame s m args below meth c s.heap [] 0 0 QQ (F0 m 51 ls [.int v_563]) := by
    intro ls hl
    refine lv_istore (lv' := [(10, .int v_563), (4, .int o_555), (5, .int o_557), (6, .long o_559), (8, .long o_561)]) hx hb dX10_areSame_51 hl (by decide) rfl (fun ls hl => ?_)
    refine lv_iload hx hb dX10_areSame_53 (lv_at hl 2 rfl) ?_
    refine lv_bipush (v := 8) hx hb dX10_areSame_55 (by decide) ?_
    obtain ⟨v_572, hv_572, h⟩ := ob h
    have J_572 : ∀ (ls : Array Slot), lv_has ls 12 [(4, .int o_555), (5, .int o_557), (6, .long o_559), (8, .long o_561), (10, .int v_563)] → W p l e rm_X10_areSame s m args below meth c s.heap [] 0 0 QQ (F0 m 74 ls [.int v_572]) := by
      intro ls hl
      refine lv_istore (lv' := [(11, .int v_572), (4, .int o_555), (5, .int o_557), (6, .long o_559), (8, .long o_561), (10, .int v_563)]) hx hb dX10_areSame_74 hl (by decide) rfl (fun ls hl => ?_)
      refine lv_iload hx hb dX10_areSame_76 (lv_at hl 5 rfl) ?_
      refine lv_if_ne (tgt := 86) hx hb dX10_areSame_78 (by decide) (fun c_581 => ?_) (fun c_581 => ?_)
      · replace h := on c_581 h
        refine lv_iload hx hb dX10_areSame_86 (lv_at hl 5 rfl) ?_
        refine lv_if_eq (tgt := 100) hx hb dX10_areSame_88 (by decide) (fun c_582 => ?_) (fun c_582 => ?_)
        · replace h := op c_582 h
          refine lv_iconst (v := 0) hx hb dX10_areSame_100 (by decide) ?_
          rw [hQQ]
          exact W.zret hx hb hr rfl (fun t ht hW => ⟨_, rfl, (congrArg b2i (Option.some.inj h).symm), ht⟩) (fun q hq => absurd hq List.not_mem_nil) dX10_areSame_101
        · replace h := on c_582 h
          refine lv_iload hx hb dX10_areSame_91 (lv_at hl 0 rfl) ?_
          refine lv_if_eq (tgt := 100) hx hb dX10_areSame_93 (by decide) (fun c_583 => ?_) (fun c_583 => ?_)
          · replace h := op c_583 h
            refine lv_iconst (v := 0) hx hb dX10_areSame_100 (by decide) ?_
            rw [hQQ]
            exact W.zret hx hb hr rfl (fun t ht hW => ⟨_, rfl, (congrArg b2i (Option.some.inj h).symm), ht⟩) (fun q hq => absurd hq List.not_mem_nil) dX10_areSame_101
          · replace h := on c_583 h
            refine lv_iconst (v := 1) hx hb dX10_areSame_96 (by decide) ?_
            refine lv_goto (tgt := 101) hx hb dX10_areSame_97 (by decide) ?_
            rw [hQQ]
            exact W.zret hx hb hr rfl (fun t ht hW => ⟨_, rfl, (congrArg b2i (Option.some.inj h).symm), ht⟩) (fun q hq => absurd hq List.not_mem_nil) dX10_areSame_101
      · replace h := op c_581 h
        refine lv_iload hx hb dX10_areSame_81 (lv_at hl 0 rfl) ?_
        refine lv_if_eq (tgt := 102) hx hb dX10_areSame_83 (by decide) (fun c_584 => ?_) (fun c_584 => ?_)
        · replace h := op c_584 h
          refine lv_iload hx hb dX10_areSame_102 (lv_at hl 1 rfl) ?_
          refine lv_iconst (v := 1) hx hb dX10_areSame_104 (by decide) ?_
          refine lv_bipush (v := 8) hx hb dX10_areSame_105 (by decide) ?_
          obtain ⟨o_585, hr_585, h⟩ := ob h
          refine vp_callSi (va_Run.run (va_runS (As := [.int o_555, .int (1 : Int32), .int (8 : Int32)]) (rest := []) ⟨hx, hb, hml, hown, hts⟩ (c_X10_in l dC dI cB cC cI cJ cZ cT o_555 (1 : Int32) (8 : Int32) o_585 hr_585) (va_cwS 3 hts gX10_areSame_X10_in rfl rfl rfl (by decide +kernel) ⟨Nat.le_of_ble_eq_true rfl, Nat.le_of_ble_eq_true rfl⟩) ⟨blT, fun U hU hW => ⟨rfl, trivial⟩⟩ rfl rfl hl.1 rfl (lv_room (Nat.le_of_ble_eq_true rfl)) dX10_areSame_107 ⟨Nat.le_of_ble_eq_true rfl, Nat.le_of_ble_eq_true rfl⟩)) (fun r_585 e_585 => ?_)
          subst e_585
          refine lv_if_eq (tgt := 148) hx hb dX10_areSame_110 (by decide) (fun c_587 => ?_) (fun c_587 => ?_)
          · replace h := op c_587 h
            refine lv_iload hx hb dX10_areSame_148 (lv_at hl 1 rfl) ?_
            refine lv_iload hx hb dX10_areSame_150 (lv_at hl 2 rfl) ?_
            refine lv_icmp_ne (tgt := 167) hx hb dX10_areSame_152 (by decide) (fun c_588 => ?_) (fun c_588 => ?_)
            · replace h := on c_588 h
              refine lv_iconst (v := 0) hx hb dX10_areSame_167 (by decide) ?_
              rw [hQQ]
              exact W.zret hx hb hr rfl (fun t ht hW => ⟨_, rfl, (congrArg b2i (Option.some.inj h).symm), ht⟩) (fun q hq => absurd hq List.not_mem_nil) dX10_areSame_168
            · replace h := op c_588 h
              refine lv_lload hx hb dX10_areSame_155 (lv_at hl 3 rfl) ?_
              refine lv_lload hx hb dX10_areSame_157 (lv_at hl 4 rfl) ?_
              refine W.lcmp hx hb dX10_areSame_159 ?_
              refine lv_if_ne (tgt := 167) hx hb dX10_areSame_160 (by decide) (fun c_589 => ?_) (fun c_589 => ?_)
              · replace h := on c_589 h
                refine lv_iconst (v := 0) hx hb dX10_areSame_167 (by decide) ?_
                rw [hQQ]
                exact W.zret hx hb hr rfl (fun t ht hW => ⟨_, rfl, (congrArg b2i (Option.some.inj h).symm), ht⟩) (fun q hq => absurd hq List.not_mem_nil) dX10_areSame_168
              · replace h := op c_589 h
                refine lv_iconst (v := 1) hx hb dX10_areSame_163 (by decide) ?_
                refine lv_goto (tgt := 168) hx hb dX10_areSame_164 (by decide) ?_
                rw [hQQ]
                exact W.zret hx hb hr rfl (fun t ht hW => ⟨_, rfl, (congrArg b2i (Option.some.inj h).symm), ht⟩) (fun q hq => absurd hq List.not_mem_nil) dX10_areSame_168
          · replace h := on c_587 h
            refine lv_iload hx hb dX10_areSame_113 (lv_at hl 2 rfl) ?_
            refine lv_iconst (v := 1) hx hb dX10_areSame_115 (by decide) ?_
            refine lv_bipush (v := 8) hx hb dX10_areSame_116 (by decide) ?_
            obtain ⟨o_590, hr_590, h⟩ := ob h
            refine vp_callSi (va_Run.run (va_runS (As := [.int o_557, .int (1 : Int32), .int (8 : Int32)]) (rest := []) ⟨hx, hb, hml, hown, hts⟩ (c_X10_in l dC dI cB cC cI cJ cZ cT o_557 (1 : Int32) (8 : Int32) o_590 hr_590) (va_cwS 3 hts gX10_areSame_X10_in rfl rfl rfl (by decide +kernel) ⟨Nat.le_of_ble_eq_true rfl, Nat.le_of_ble_eq_true rfl⟩) ⟨blT, fun U hU hW => ⟨rfl, trivial⟩⟩ rfl rfl hl.1 rfl (lv_room (Nat.le_of_ble_eq_true rfl)) dX10_areSame_118 ⟨Nat.le_of_ble_eq_true rfl, Nat.le_of_ble_eq_true rfl⟩)) (fun r_590 e_590 => ?_)
            subst e_590
            refine lv_if_eq (tgt := 148) hx hb dX10_areSame_121 (by decide) (fun c_592 => ?_) (fun c_592 => ?_)
            · replace h := op c_592 h
              refine lv_iload hx hb dX10_areSame_148 (lv_at hl 1 rfl) ?_
              refine lv_iload hx hb dX10_areSame_150 (lv_at hl 2 rfl) ?_
              refine lv_icmp_ne (tgt := 167) hx hb dX10_areSame_152 (by decide) (fun c_593 => ?_) (fun c_593 => ?_)
              · replace h := on c_593 h
                refine lv_iconst (v := 0) hx hb dX10_areSame_167 (by decide) ?_
                rw [hQQ]
                exact W.zret hx hb hr rfl (fun t ht hW => ⟨_, rfl, (congrArg b2i (Option.some.inj h).symm), ht⟩) (fun q hq => absurd hq List.not_mem_nil) dX10_areSame_168
              · replace h := op c_593 h
                refine lv_lload hx hb dX10_areSame_155 (lv_at hl 3 rfl) ?_
                refine lv_lload hx hb dX10_areSame_157 (lv_at hl 4 rfl) ?_
                refine W.lcmp hx hb dX10_areSame_159 ?_
                refine lv_if_ne (tgt := 167) hx hb dX10_areSame_160 (by decide) (fun c_594 => ?_) (fun c_594 => ?_)
                · replace h := on c_594 h
                  refine lv_iconst (v := 0) hx hb dX10_areSame_167 (by decide) ?_
                  rw [hQQ]
                  exact W.zret hx hb hr rfl (fun t ht hW => ⟨_, rfl, (congrArg b2i (Option.some.inj h).symm), ht⟩) (fun q hq => absurd hq List.not_mem_nil) dX10_areSame_168
                · replace h := op c_594 h
                  refine lv_iconst (v := 1) hx hb dX10_areSame_163 (by decide) ?_
                  refine lv_goto (tgt := 168) hx hb dX10_areSame_164 (by decide) ?_
                  rw [hQQ]
                  exact W.zret hx hb hr rfl (fun t ht hW => ⟨_, rfl, (congrArg b2i (Option.some.inj h).symm), ht⟩) (fun q hq => absurd hq List.not_mem_nil) dX10_areSame_168
            · replace h := on c_592 h
              refine lv_iload hx hb dX10_areSame_124 (lv_at hl 1 rfl) ?_
              refine lv_lload hx hb dX10_areSame_126 (lv_at hl 3 rfl) ?_
              obtain ⟨o_595, hr_595, h⟩ := ob h
              refine vp_callSd (va_Run.run (va_runS (As := [.int o_555, .long o_559]) (rest := []) ⟨hx, hb, hml, hown, hts⟩ (c_X10_worth l dC dI cB cC cI cJ cZ cT o_555 o_559 o_595 hr_595) (va_cwS 2 hts gX10_areSame_X10_worth rfl rfl rfl (by decide +kernel) ⟨Nat.le_of_ble_eq_true rfl, Nat.le_of_ble_eq_true rfl⟩) ⟨blT, fun U hU hW => ⟨rfl, trivial⟩⟩ rfl rfl hl.1 rfl (lv_room (Nat.le_of_ble_eq_true rfl)) dX10_areSame_128 ⟨Nat.le_of_ble_eq_true rfl, Nat.le_of_ble_eq_true rfl⟩)) (fun r_595 e_595 => ?_)
              subst e_595
              refine lv_iload hx hb dX10_areSame_131 (lv_at hl 2 rfl) ?_
              refine lv_lload hx hb dX10_areSame_133 (lv_at hl 4 rfl) ?_
              obtain ⟨o_597, hr_597, h⟩ := ob h
              refine vp_callSd (va_Run.run (va_runS (As := [.int o_557, .long o_561]) (rest := [.double o_595]) ⟨hx, hb, hml, hown, hts⟩ (c_X10_worth l dC dI cB cC cI cJ cZ cT o_557 o_561 o_597 hr_597) (va_cwS 2 hts gX10_areSame_X10_worth rfl rfl rfl (by decide +kernel) ⟨Nat.le_of_ble_eq_true rfl, Nat.le_of_ble_eq_true rfl⟩) ⟨blT, fun U hU hW => ⟨rfl, trivial⟩⟩ rfl rfl hl.1 rfl (lv_room (Nat.le_of_ble_eq_true rfl)) dX10_areSame_135 ⟨Nat.le_of_ble_eq_true rfl, Nat.le_of_ble_eq_true rfl⟩)) (fun r_597 e_597 => ?_)
              subst e_597
              refine lv_dcmp hx hb dX10_areSame_138 ?_
              refine lv_if_ne (tgt := 146) hx hb dX10_areSame_139 (by decide) (fun c_599 => ?_) (fun c_599 => ?_)
              · replace h := on c_599 h
                refine lv_iconst (v := 0) hx hb dX10_areSame_146 (by decide) ?_
                rw [hQQ]
                exact W.zret hx hb hr rfl (fun t ht hW => ⟨_, rfl, (congrArg b2i (Option.some.inj h).symm), ht⟩) (fun q hq => absurd hq List.not_mem_nil) dX10_areSame_147
              · replace h := op c_599 h
                refine lv_iconst (v := 1) hx hb dX10_areSame_142 (by decide) ?_
                refine lv_goto (tgt := 147) hx hb dX10_areSame_143 (by decide) ?_
                rw [hQQ]
                exact W.zret hx hb hr rfl (fun t ht hW => ⟨_, rfl, (congrArg b2i (Option.some.inj h).symm), ht⟩) (fun q hq => absurd hq List.not_mem_nil) dX10_areSame_147
        · replace h := on c_584 h
          refine lv_iload hx hb dX10_areSame_86 (lv_at hl 5 rfl) ?_
          refine lv_if_eq (tgt := 100) hx hb dX10_areSame_88 (by decide) (fun c_600 => ?_) (fun c_600 => ?_)
          · replace h := op c_600 h
            refine lv_iconst (v := 0) hx hb dX10_areSame_100 (by decide) ?_
            rw [hQQ]
            exact W.zret hx hb hr rfl (fun t ht hW => ⟨_, rfl, (congrArg b2i (Option.some.inj h).symm), ht⟩) (fun q hq => absurd hq List.not_mem_nil) dX10_areSame_101
          · replace h := on c_600 h
            refine lv_iload hx hb dX10_areSame_91 (lv_at hl 0 rfl) ?_
            refine lv_if_eq (tgt := 100) hx hb dX10_areSame_93 (by decide) (fun c_601 => ?_) (fun c_601 => ?_)
            · replace h := op c_601 h
              refine lv_iconst (v := 0) hx hb dX10_areSame_100 (by decide) ?_
              rw [hQQ]
              exact W.zret hx hb hr rfl (fun t ht hW => ⟨_, rfl, (congrArg b2i (Option.some.inj h).symm), ht⟩) (fun q hq => absurd hq List.not_mem_nil) dX10_areSame_101
            · replace h := on c_601 h
              refine lv_iconst (v := 1) hx hb dX10_areSame_96 (by decide) ?_
              refine lv_goto (tgt := 101) hx hb dX10_areSame_97 (by decide) ?_
              rw [hQQ]
              exact W.zret hx hb hr rfl (fun t ht hW => ⟨_, rfl, (congrArg b2i (Option.some.inj h).symm), ht⟩) (fun q hq => absurd hq List.not_mem_nil) dX10_areSame_101
    replace h := hv_572
    refine lv_icmp_lt (tgt := 73) hx hb dX10_areSame_57 (by decide) (fun c_577 => ?_) (fun c_577 => ?_)
    · replace h := op c_577 h
      refine lv_iconst (v := 0) hx hb dX10_areSame_73 (by decide) ?_
      have ho := Option.some.inj h
      subst ho
      exact J_572 ls (lv_sub hl [1, 2, 3, 4, 0] rfl)
    · replace h := on c_577 h
      refine lv_lload hx hb dX10_areSame_60 (lv_at hl 4 rfl) ?_
      refine lv_ldc2 (v := -9223372036854775808) hx hb hown (hts _ (List.mem_of_getElem? (i := 1) rfl)) dX10_areSame_62 ?_
      refine W.lcmp hx hb dX10_areSame_65 ?_
      obtain ⟨v_578, hv_578, h⟩ := ob h
      have J_578 : ∀ (ls : Array Slot), lv_has ls 12 [(4, .int o_555), (5, .int o_557), (6, .long o_559), (8, .long o_561), (10, .int v_563)] → W p l e rm_X10_areSame s m args below meth c s.heap [] 0 0 QQ (F0 m 74 ls [.int v_578]) := by
        intro ls hl
        have ho := Option.some.inj h
        subst ho
        exact J_572 ls (lv_sub hl [0, 1, 2, 3, 4] rfl)
      replace h := hv_578
      refine lv_if_ne (tgt := 73) hx hb dX10_areSame_66 (by decide) (fun c_580 => ?_) (fun c_580 => ?_)
      · replace h := on c_580 h
        refine lv_iconst (v := 0) hx hb dX10_areSame_73 (by decide) ?_
        have ho := Option.some.inj h
        subst ho
        exact J_578 ls (lv_sub hl [1, 2, 3, 4, 0] rfl)
      · replace h := op c_580 h
        refine lv_iconst (v := 1) hx hb dX10_areSame_69 (by decide) ?_
        refine lv_goto (tgt := 74) hx hb dX10_areSame_70 (by decide) ?_
        have ho := Option.some.inj h
        subst ho
        exact J_578 ls (lv_sub hl [1, 2, 3, 4, 0] rfl)
  replace h := hv_563
  refine lv_icmp_lt (tgt := 50) hx hb dX10_areSame_34 (by decide) (fun c_568 => ?_) (fun c_568 => ?_)
  · replace h := op c_568 h
    refine lv_iconst (v := 0) hx hb dX10_areSame_50 (by decide) ?_
    have ho := Option.some.inj h
    subst ho
    exact J_563 ls (lv_sub hl [3, 2, 1, 0] rfl)
  · replace h := on c_568 h
    refine lv_lload hx hb dX10_areSame_37 (lv_at hl 1 rfl) ?_
    refine lv_ldc2 (v := -9223372036854775808) hx hb hown (hts _ (List.mem_of_getElem? (i := 1) rfl)) dX10_areSame_39 ?_
    refine W.lcmp hx hb dX10_areSame_42 ?_
    obtain ⟨v_569, hv_569, h⟩ := ob h
    have J_569 : ∀ (ls : Array Slot), lv_has ls 12 [(4, .int o_555), (5, .int o_557), (6, .long o_559), (8, .long o_561)] → W p l e rm_X10_areSame s m args below meth c s.heap [] 0 0 QQ (F0 m 51 ls [.int v_569]) := by
      intro ls hl
      have ho := Option.some.inj h
      subst ho
      exact J_563 ls (lv_sub hl [0, 1, 2, 3] rfl)
    replace h := hv_569
    refine lv_if_ne (tgt := 50) hx hb dX10_areSame_43 (by decide) (fun c_571 => ?_) (fun c_571 => ?_)
    · replace h := on c_571 h
      refine lv_iconst (v := 0) hx hb dX10_areSame_50 (by decide) ?_
      have ho := Option.some.inj h
      subst ho
      exact J_569 ls (lv_sub hl [3, 2, 1, 0] rfl)
    · replace h := op c_571 h
      refine lv_iconst (v := 1) hx hb dX10_areSame_46 (by decide) ?_
      refine lv_goto (tgt := 51) hx hb dX10_areSame_47 (by decide) ?_
      have ho := Option.some.inj h
      subst ho
      exact J_569 ls (lv_sub hl [3, 2, 1, 0] rfl)
def L_X10_same_32 (v_now : (Nat → Int64)) (x1 : Int32) (x2 : Int32) : Nat → Int32 → Int32 → Int32 → Option (Int32 × Int32)
  | 0, _, _, _ => none
  | n+1, x4_32, x5_32, x6_32 => (if x6_32 < 0 then (some (x4_32, x5_32)) else ((f_X10_areSame v_now x1 x2 x6_32).bind (fun o_608 => (if (b2i o_608) = 0 then (L_X10_same_32 v_now x1 x2 n x4_32 x6_32 (x6_32 + (-1))) else (L_X10_same_32 v_now x1 x2 n (x4_32 + 1) x5_32 (x6_32 + (-1)))))))
def f_X10_same (v_rowMany : Int32) (v_now : Nat → Int64) (v_row : Nat → Int64) (x1 : Int32) (x2 : Int32) : Option (Int32 × Int32 × Int32 × (Nat → Int64)) :=
  ((f_X10_refusesBoth v_now x1 x2).bind (fun o_602 => (if 0 ≤ o_602 then ((f_X10_rows v_now).bind (fun o_605 => ((L_X10_same_32 v_now x1 x2 fu (0 : Int32) (-1 : Int32) (o_605 - (1 : Int32))).bind (fun w_611 => ((f_X10_tell (0 : Int32) v_row (w_611.2).toInt64).bind (fun o_612 => (some (w_611.1, o_612.1, (0 : Int32), o_612.2)))))))) else (some (o_602, v_rowMany, (0 : Int32), v_row)))))
abbrev rm_X10_same : Room := { frames := 3, cells := 0, slots := 0, locals := 76 }
set_option maxHeartbeats 4000000 in
set_option maxRecDepth 100000 in
theorem c_X10_same (l : Launch) (dC : Nat → ClassId) (dI : Nat → Nat → Nat) (cB cC cI cJ cZ cT : ClassId) (h0 q_now q_text q_row q_read q_ranks q_distinct q_proper q_line q_order q_then q_bestOrder q_lineThen q_undos q_was q_kept q_isKept : Nat) (sz : Nat) (v_typed : Int32) (v_rowMany : Int32) (v_thrown : Int32) (v_length : Int32) (v_at : Int32) (v_wrong : Int32) (v_properMany : Int32) (v_orderMany : Int32) (v_undoMany : Int32) (v_drawn : Int32) (v_now : Nat → Int64) (v_row : Nat → Int64) (x1 : Int32) (x2 : Int32) (o : (Int32 × Int32 × Int32 × (Nat → Int64))) (hf : f_X10_same v_rowMany v_now v_row x1 x2 = some o) : Met l yX10_same wsX10_same rm_X10_same (va_Pc [.ref h0, .int x1, .int x2] (fun U => U.heap.size = sz ∧ va_P (dC, dI) vwCl [(h0, .inr (8, [.ref q_now, .ref q_text, .int v_typed, .ref q_row, .int v_rowMany, .int v_thrown, .int v_length, .int v_at, .int v_wrong, .ref q_read, .ref q_ranks, .ref q_distinct, .ref q_proper, .int v_properMany, .ref q_line, .ref q_order, .int v_orderMany, .ref q_then, .ref q_bestOrder, .ref q_lineThen, .ref q_undos, .ref q_was, .int v_undoMany, .int v_drawn, .ref q_kept, .ref q_isKept])), (q_now, .inl (cJ, 120, .inr (.inl v_now))), (q_row, .inl (cJ, 64, .inr (.inl v_row)))] U.heap ∧ va_K (dC, dI) vwCl (tyA cB cC cI cJ cZ cT) U ∧ va_D (fun _ => True) [(h0, .inr (8, [.ref q_now, .ref q_text, .int v_typed, .ref q_row, .int v_rowMany, .int v_thrown, .int v_length, .int v_at, .int v_wrong, .ref q_read, .ref q_ranks, .ref q_distinct, .ref q_proper, .int v_properMany, .ref q_line, .ref q_order, .int v_orderMany, .ref q_then, .ref q_bestOrder, .ref q_lineThen, .ref q_undos, .ref q_was, .int v_undoMany, .int v_drawn, .ref q_kept, .ref q_isKept])), (q_now, .inl (cJ, 120, .inr (.inl v_now))), (q_row, .inl (cJ, 64, .inr (.inl v_row)))])) (va_Qi (fun (r : Int32) (_ : Unit) => o.1 = r) (fun _ t => va_P (dC, dI) vwCl [(h0, .inr (8, [.ref q_now, .ref q_text, .int v_typed, .ref q_row, .int o.2.1, .int o.2.2.1, .int v_length, .int v_at, .int v_wrong, .ref q_read, .ref q_ranks, .ref q_distinct, .ref q_proper, .int v_properMany, .ref q_line, .ref q_order, .int v_orderMany, .ref q_then, .ref q_bestOrder, .ref q_lineThen, .ref q_undos, .ref q_was, .int v_undoMany, .int v_drawn, .ref q_kept, .ref q_isKept])), (q_now, .inl (cJ, 120, .inr (.inl v_now))), (q_row, .inl (cJ, 64, .inr (.inl o.2.2.2)))] t.heap ∧ va_K (dC, dI) vwCl (tyA cB cC cI cJ cZ cT) t ∧ va_D (va_A [(h0, .inr (8, [.ref q_now, .ref q_text, .int v_typed, .ref q_row, .int v_rowMany, .int v_thrown, .int v_length, .int v_at, .int v_wrong, .ref q_read, .ref q_ranks, .ref q_distinct, .ref q_proper, .int v_properMany, .ref q_line, .ref q_order, .int v_orderMany, .ref q_then, .ref q_bestOrder, .ref q_lineThen, .ref q_undos, .ref q_was, .int v_undoMany, .int v_drawn, .ref q_kept, .ref q_isKept])), (q_now, .inl (cJ, 120, .inr (.inl v_now))), (q_row, .inl (cJ, 64, .inr (.inl v_row)))] sz) [(h0, .inr (8, [.ref q_now, .ref q_text, .int v_typed, .ref q_row, .int o.2.1, .int o.2.2.1, .int v_length, .int v_at, .int v_wrong, .ref q_read, .ref q_ranks, .ref q_distinct, .ref q_proper, .int v_properMany, .ref q_line, .ref q_order, .int v_orderMany, .ref q_then, .ref q_bestOrder, .ref q_lineThen, .ref q_undos, .ref q_was, .int v_undoMany, .int v_drawn, .ref q_kept, .ref q_isKept])), (q_now, .inl (cJ, 120, .inr (.inl v_now))), (q_row, .inl (cJ, 64, .inr (.inl o.2.2.2)))]) (va_A [(h0, .inr (8, [.ref q_now, .ref q_text, .int v_typed, .ref q_row, .int v_rowMany, .int v_thrown, .int v_length, .int v_at, .int v_wrong, .ref q_read, .ref q_ranks, .ref q_distinct, .ref q_proper, .int v_properMany, .ref q_line, .ref q_order, .int v_orderMany, .ref q_then, .ref q_bestOrder, .ref q_lineThen, .ref q_undos, .ref q_was, .int v_undoMany, .int v_drawn, .ref q_kept, .ref q_isKept])), (q_now, .inl (cJ, 120, .inr (.inl v_now))), (q_row, .inl (cJ, 64, .inr (.inl v_row)))] sz)) 0 0 (va_A [(h0, .inr (8, [.ref q_now, .ref q_text, .int v_typed, .ref q_row, .int v_rowMany, .int v_thrown, .int v_length, .int v_at, .int v_wrong, .ref q_read, .ref q_ranks, .ref q_distinct, .ref q_proper, .int v_properMany, .ref q_line, .ref q_order, .int v_orderMany, .ref q_then, .ref q_bestOrder, .ref q_lineThen, .ref q_undos, .ref q_was, .int v_undoMany, .int v_drawn, .ref q_kept, .ref q_isKept])), (q_now, .inl (cJ, 120, .inr (.inl v_now))), (q_row, .inl (cJ, 64, .inr (.inl v_row)))] sz) := by
  refine Met.ofW (cc := cX10_same) (maxL := 7) (ret := (some .int)) (by decide +kernel) rfl ?_
  intro p e s m args below meth c s₁ B hml hv
  obtain ⟨hav, hsz, hP, hK, hD0⟩ := hv
  have hx := B.exec
  have hb := B.bytes
  have hr := B.returns
  have hts := atoms_spec (ws := wsX10_same) B.pre
  have hown : s.vm.findClass RX10 = some m.cls := findClass_of_methodNamed B.named
  have hlocks := B.notSynchronized
  subst hsz
  have hD := hD0.self (sz := s.heap.size)
  generalize hAe : va_A [(h0, .inr (8, [.ref q_now, .ref q_text, .int v_typed, .ref q_row, .int v_rowMany, .int v_thrown, .int v_length, .int v_at, .int v_wrong, .ref q_read, .ref q_ranks, .ref q_distinct, .ref q_proper, .int v_properMany, .ref q_line, .ref q_order, .int v_orderMany, .ref q_then, .ref q_bestOrder, .ref q_lineThen, .ref q_undos, .ref q_was, .int v_undoMany, .int v_drawn, .ref q_kept, .ref q_isKept])), (q_now, .inl (cJ, 120, .inr (.inl v_now))), (q_row, .inl (cJ, 64, .inr (.inl v_row)))] s.heap.size = A at hD ⊢
  have hA : ∀ q : Nat, s.heap.size ≤ q → A q := fun q h => by rw [← hAe]; exact Or.inr h
  have hS : va_S A s.heap s.heap [] := va_S.rf
  refine wstart (rm := rm_X10_same) hav (Nat.le_of_ble_eq_true rfl) (fun QQ ls hQQ hl => ?_)
  have hl : lv_has ls 7 [(0, .ref h0), (1, .int x1), (2, .int x2)] := hl
  have hi_X10 : ∀ w ∈ u_ws RX10 TX10 26, w ∈ wsX10_same := by decide +kernel
  have h := hf
  unfold f_X10_same at h
  refine lv_aload_n hx hb dX10_same_0 rfl (lv_at hl 0 rfl) ?_
  refine lv_iconst (v := 0) hx hb dX10_same_1 (by decide) ?_
  refine va_put (D := (dC, dI)) (ci := 8) (v := .int (0 : Int32)) (ty := .int) (C := RX10) (T := TX10) (N := 26) hx hb hts hi_X10 tyX10 tyX10_ok nmX10 hown hK hP hD hS 0 rfl rfl 5 (by decide) (hts _ (List.mem_of_getElem? (i := 1) rfl)) (fun _ h9 => h9) rfl (by decide +kernel) rfl rfl (Nat.le_of_ble_eq_true rfl) dX10_same_2 (fun H locs hP hD hS => ?_)
  replace hP : va_P (dC, dI) vwCl [(h0, .inr (8, [.ref q_now, .ref q_text, .int v_typed, .ref q_row, .int v_rowMany, .int (0 : Int32), .int v_length, .int v_at, .int v_wrong, .ref q_read, .ref q_ranks, .ref q_distinct, .ref q_proper, .int v_properMany, .ref q_line, .ref q_order, .int v_orderMany, .ref q_then, .ref q_bestOrder, .ref q_lineThen, .ref q_undos, .ref q_was, .int v_undoMany, .int v_drawn, .ref q_kept, .ref q_isKept])), (q_now, .inl (cJ, 120, .inr (.inl v_now))), (q_row, .inl (cJ, 64, .inr (.inl v_row)))] H := hP
  replace hD : va_D A [(h0, .inr (8, [.ref q_now, .ref q_text, .int v_typed, .ref q_row, .int v_rowMany, .int (0 : Int32), .int v_length, .int v_at, .int v_wrong, .ref q_read, .ref q_ranks, .ref q_distinct, .ref q_proper, .int v_properMany, .ref q_line, .ref q_order, .int v_orderMany, .ref q_then, .ref q_bestOrder, .ref q_lineThen, .ref q_undos, .ref q_was, .int v_undoMany, .int v_drawn, .ref q_kept, .ref q_isKept])), (q_now, .inl (cJ, 120, .inr (.inl v_now))), (q_row, .inl (cJ, 64, .inr (.inl v_row)))] := hD
  refine lv_aload_n hx hb dX10_same_5 rfl (lv_at hl 0 rfl) ?_
  refine lv_iload_n hx hb dX10_same_6 rfl (lv_at hl 1 rfl) ?_
  refine lv_iload_n hx hb dX10_same_7 rfl (lv_at hl 2 rfl) ?_
  obtain ⟨o_602, hr_602, h⟩ := ob h
  refine vp_callSi (va_Run.run (va_runV (As := [.int x1, .int x2]) (rest := []) ⟨hx, hb, hml, hown, hts⟩ (c_X10_refusesBoth l dC dI cB cC cI cJ cZ cT h0 q_now q_text q_row q_read q_ranks q_distinct q_proper q_line q_order q_then q_bestOrder q_lineThen q_undos q_was q_kept q_isKept v_typed v_rowMany (0 : Int32) v_length v_at v_wrong v_properMany v_orderMany v_undoMany v_drawn v_now x1 x2 o_602 hr_602) (cwV 2 hts gX10_same_X10_refusesBoth rfl rfl rfl (by decide +kernel) ⟨Nat.le_of_ble_eq_true rfl, Nat.le_of_ble_eq_true rfl⟩) ⟨blR, va_recv hK hP (ci := 8) (q0 := 0) rfl rfl, fun U hU hW => ⟨rfl, by rw [hU]; exact hP.sub [0, 1] rfl, va_K.moved hW.alike hK⟩⟩ rfl rfl hl.1 rfl (lv_room (Nat.le_of_ble_eq_true rfl)) dX10_same_8 ⟨Nat.le_of_ble_eq_true rfl, Nat.le_of_ble_eq_true rfl⟩)) (fun r_602 e_602 => ?_)
  subst e_602
  refine lv_istore_n (lv' := [(3, .int o_602), (0, .ref h0), (1, .int x1), (2, .int x2)]) hx hb dX10_same_11 rfl hl (by decide) rfl (fun ls hl => ?_)
  refine lv_iload_n hx hb dX10_same_12 rfl (lv_at hl 0 rfl) ?_
  refine lv_if_ge (tgt := 18) hx hb dX10_same_13 (by decide) (fun c_604 => ?_) (fun c_604 => ?_)
  · replace h := op c_604 h
    refine lv_iconst (v := 0) hx hb dX10_same_18 (by decide) ?_
    refine lv_istore (lv' := [(4, .int (0 : Int32)), (3, .int o_602), (0, .ref h0), (1, .int x1), (2, .int x2)]) hx hb dX10_same_19 hl (by decide) rfl (fun ls hl => ?_)
    refine lv_iconst (v := -1) hx hb dX10_same_21 (by decide) ?_
    refine lv_istore (lv' := [(5, .int (-1 : Int32)), (4, .int (0 : Int32)), (3, .int o_602), (0, .ref h0), (1, .int x1), (2, .int x2)]) hx hb dX10_same_22 hl (by decide) rfl (fun ls hl => ?_)
    refine lv_aload_n hx hb dX10_same_24 rfl (lv_at hl 3 rfl) ?_
    obtain ⟨o_605, hr_605, h⟩ := ob h
    refine vp_callSi (va_Run.run (va_runV (As := []) (rest := []) ⟨hx, hb, hml, hown, hts⟩ (c_X10_rows l dC dI cB cC cI cJ cZ cT h0 q_now q_text q_row q_read q_ranks q_distinct q_proper q_line q_order q_then q_bestOrder q_lineThen q_undos q_was q_kept q_isKept v_typed v_rowMany (0 : Int32) v_length v_at v_wrong v_properMany v_orderMany v_undoMany v_drawn v_now o_605 hr_605) (cwV 0 hts gX10_same_X10_rows rfl rfl rfl (by decide +kernel) ⟨Nat.le_of_ble_eq_true rfl, Nat.le_of_ble_eq_true rfl⟩) ⟨blR, va_recv hK hP (ci := 8) (q0 := 0) rfl rfl, fun U hU hW => ⟨rfl, by rw [hU]; exact hP.sub [0, 1] rfl, va_K.moved hW.alike hK⟩⟩ rfl rfl hl.1 rfl (lv_room (Nat.le_of_ble_eq_true rfl)) dX10_same_25 ⟨Nat.le_of_ble_eq_true rfl, Nat.le_of_ble_eq_true rfl⟩)) (fun r_605 e_605 => ?_)
    subst e_605
    refine lv_iconst (v := 1) hx hb dX10_same_28 (by decide) ?_
    refine lv_isub hx hb dX10_same_29 ?_
    refine lv_istore (lv' := [(6, .int (o_605 - (1 : Int32))), (5, .int (-1 : Int32)), (4, .int (0 : Int32)), (3, .int o_602), (0, .ref h0), (1, .int x1), (2, .int x2)]) hx hb dX10_same_30 hl (by decide) rfl (fun ls hl => ?_)
    have LP_611 : ∀ (n : Nat) (x4_32 : Int32) (x5_32 : Int32) (x6_32 : Int32) (w : (Int32 × Int32)) (H : Heap) (locs : List Loc) (ls : Array Slot), L_X10_same_32 v_now x1 x2 n x4_32 x5_32 x6_32 = some w → va_P (dC, dI) vwCl [(h0, .inr (8, [.ref q_now, .ref q_text, .int v_typed, .ref q_row, .int v_rowMany, .int (0 : Int32), .int v_length, .int v_at, .int v_wrong, .ref q_read, .ref q_ranks, .ref q_distinct, .ref q_proper, .int v_properMany, .ref q_line, .ref q_order, .int v_orderMany, .ref q_then, .ref q_bestOrder, .ref q_lineThen, .ref q_undos, .ref q_was, .int v_undoMany, .int v_drawn, .ref q_kept, .ref q_isKept])), (q_now, .inl (cJ, 120, .inr (.inl v_now))), (q_row, .inl (cJ, 64, .inr (.inl v_row)))] H → va_D A [(h0, .inr (8, [.ref q_now, .ref q_text, .int v_typed, .ref q_row, .int v_rowMany, .int (0 : Int32), .int v_length, .int v_at, .int v_wrong, .ref q_read, .ref q_ranks, .ref q_distinct, .ref q_proper, .int v_properMany, .ref q_line, .ref q_order, .int v_orderMany, .ref q_then, .ref q_bestOrder, .ref q_lineThen, .ref q_undos, .ref q_was, .int v_undoMany, .int v_drawn, .ref q_kept, .ref q_isKept])), (q_now, .inl (cJ, 120, .inr (.inl v_now))), (q_row, .inl (cJ, 64, .inr (.inl v_row)))] → va_S A s.heap H locs → lv_has ls 7 [(0, .ref h0), (1, .int x1), (2, .int x2), (4, .int x4_32), (5, .int x5_32), (6, .int x6_32)] → (∀ (H : Heap) (locs : List Loc) (ls : Array Slot), va_P (dC, dI) vwCl [(h0, .inr (8, [.ref q_now, .ref q_text, .int v_typed, .ref q_row, .int v_rowMany, .int (0 : Int32), .int v_length, .int v_at, .int v_wrong, .ref q_read, .ref q_ranks, .ref q_distinct, .ref q_proper, .int v_properMany, .ref q_line, .ref q_order, .int v_orderMany, .ref q_then, .ref q_bestOrder, .ref q_lineThen, .ref q_undos, .ref q_was, .int v_undoMany, .int v_drawn, .ref q_kept, .ref q_isKept])), (q_now, .inl (cJ, 120, .inr (.inl v_now))), (q_row, .inl (cJ, 64, .inr (.inl v_row)))] H → va_D A [(h0, .inr (8, [.ref q_now, .ref q_text, .int v_typed, .ref q_row, .int v_rowMany, .int (0 : Int32), .int v_length, .int v_at, .int v_wrong, .ref q_read, .ref q_ranks, .ref q_distinct, .ref q_proper, .int v_properMany, .ref q_line, .ref q_order, .int v_orderMany, .ref q_then, .ref q_bestOrder, .ref q_lineThen, .ref q_undos, .ref q_was, .int v_undoMany, .int v_drawn, .ref q_kept, .ref q_isKept])), (q_now, .inl (cJ, 120, .inr (.inl v_now))), (q_row, .inl (cJ, 64, .inr (.inl v_row)))] → va_S A s.heap H locs → lv_has ls 7 [(0, .ref h0), (4, .int w.1), (5, .int w.2)] → W p l e rm_X10_same s m args below meth c H locs 0 0 QQ (F0 m 64 ls [])) → W p l e rm_X10_same s m args below meth c H locs 0 0 QQ (F0 m 32 ls []) := by
      intro n
      induction n with
      | zero => intro x4_32 x5_32 x6_32 w H locs ls h; exact absurd (show none = some w from h) nofun
      | succ n ih =>
        intro x4_32 x5_32 x6_32 w H locs ls h hP hD hS hl K
        rw [L_X10_same_32] at h
        refine lv_iload hx hb dX10_same_32 (lv_at hl 5 rfl) ?_
        refine lv_if_lt (tgt := 64) hx hb dX10_same_34 (by decide) (fun c_607 => ?_) (fun c_607 => ?_)
        · replace h := op c_607 h
          have ho := Option.some.inj h
          subst ho
          exact K H _ ls hP hD hS (lv_sub hl [0, 3, 4] rfl)
        · replace h := on c_607 h
          refine lv_aload_n hx hb dX10_same_37 rfl (lv_at hl 0 rfl) ?_
          refine lv_iload_n hx hb dX10_same_38 rfl (lv_at hl 1 rfl) ?_
          refine lv_iload_n hx hb dX10_same_39 rfl (lv_at hl 2 rfl) ?_
          refine lv_iload hx hb dX10_same_40 (lv_at hl 5 rfl) ?_
          obtain ⟨o_608, hr_608, h⟩ := ob h
          refine vp_callSi (va_Run.run (va_runV (As := [.int x1, .int x2, .int x6_32]) (rest := []) ⟨hx, hb, hml, hown, hts⟩ (c_X10_areSame l dC dI cB cC cI cJ cZ cT h0 q_now q_text q_row q_read q_ranks q_distinct q_proper q_line q_order q_then q_bestOrder q_lineThen q_undos q_was q_kept q_isKept v_typed v_rowMany (0 : Int32) v_length v_at v_wrong v_properMany v_orderMany v_undoMany v_drawn v_now x1 x2 x6_32 o_608 hr_608) (cwV 3 hts gX10_same_X10_areSame rfl rfl rfl (by decide +kernel) ⟨Nat.le_of_ble_eq_true rfl, Nat.le_of_ble_eq_true rfl⟩) ⟨blR, va_recv hK hP (ci := 8) (q0 := 0) rfl rfl, fun U hU hW => ⟨rfl, by rw [hU]; exact hP.sub [0, 1] rfl, va_K.moved hW.alike hK⟩⟩ rfl rfl hl.1 rfl (lv_room (Nat.le_of_ble_eq_true rfl)) dX10_same_42 ⟨Nat.le_of_ble_eq_true rfl, Nat.le_of_ble_eq_true rfl⟩)) (fun r_608 e_608 => ?_)
          subst e_608
          refine lv_if_eq (tgt := 54) hx hb dX10_same_45 (by decide) (fun c_610 => ?_) (fun c_610 => ?_)
          · replace h := op c_610 h
            refine lv_iload hx hb dX10_same_54 (lv_at hl 5 rfl) ?_
            refine lv_istore (lv' := [(5, .int x6_32), (0, .ref h0), (1, .int x1), (2, .int x2), (4, .int x4_32), (6, .int x6_32)]) hx hb dX10_same_56 hl (by decide) rfl (fun ls hl => ?_)
            refine lv_iinc (v := (x6_32 + (-1))) (lv' := [(6, .int (x6_32 + (-1))), (5, .int x6_32), (0, .ref h0), (1, .int x1), (2, .int x2), (4, .int x4_32)]) hx hb dX10_same_58 hl (k := 5) rfl (by rfl) (by decide) rfl (fun ls hl => ?_)
            refine lv_goto (tgt := 32) hx hb dX10_same_61 (by decide) ?_
            exact ih x4_32 x6_32 (x6_32 + (-1)) w H _ ls h hP hD hS (lv_sub hl [2, 3, 4, 5, 1, 0] rfl) K
          · replace h := on c_610 h
            refine lv_iinc (v := (x4_32 + 1)) (lv' := [(4, .int (x4_32 + 1)), (0, .ref h0), (1, .int x1), (2, .int x2), (5, .int x5_32), (6, .int x6_32)]) hx hb dX10_same_48 hl (k := 3) rfl (by rfl) (by decide) rfl (fun ls hl => ?_)
            refine lv_goto (tgt := 58) hx hb dX10_same_51 (by decide) ?_
            refine lv_iinc (v := (x6_32 + (-1))) (lv' := [(6, .int (x6_32 + (-1))), (4, .int (x4_32 + 1)), (0, .ref h0), (1, .int x1), (2, .int x2), (5, .int x5_32)]) hx hb dX10_same_58 hl (k := 5) rfl (by rfl) (by decide) rfl (fun ls hl => ?_)
            refine lv_goto (tgt := 32) hx hb dX10_same_61 (by decide) ?_
            exact ih (x4_32 + 1) x5_32 (x6_32 + (-1)) w H _ ls h hP hD hS (lv_sub hl [2, 3, 4, 1, 5, 0] rfl) K
    obtain ⟨w_611, hw_611, h⟩ := ob h
    refine LP_611 fu (0 : Int32) (-1 : Int32) (o_605 - (1 : Int32)) w_611 H _ ls hw_611 hP hD hS (lv_sub hl [4, 5, 6, 2, 1, 0] rfl) (fun H locs ls hP hD hS hl => ?_)
    refine lv_aload_n hx hb dX10_same_64 rfl (lv_at hl 0 rfl) ?_
    refine lv_iconst (v := 0) hx hb dX10_same_65 (by decide) ?_
    refine va_put (D := (dC, dI)) (ci := 8) (v := .int (0 : Int32)) (ty := .int) (C := RX10) (T := TX10) (N := 26) hx hb hts hi_X10 tyX10 tyX10_ok nmX10 hown hK hP hD hS 0 rfl rfl 4 (by decide) (hts _ (List.mem_of_getElem? (i := 2) rfl)) (fun _ h9 => h9) rfl (by decide +kernel) rfl rfl (Nat.le_of_ble_eq_true rfl) dX10_same_66 (fun H locs hP hD hS => ?_)
    replace hP : va_P (dC, dI) vwCl [(h0, .inr (8, [.ref q_now, .ref q_text, .int v_typed, .ref q_row, .int (0 : Int32), .int (0 : Int32), .int v_length, .int v_at, .int v_wrong, .ref q_read, .ref q_ranks, .ref q_distinct, .ref q_proper, .int v_properMany, .ref q_line, .ref q_order, .int v_orderMany, .ref q_then, .ref q_bestOrder, .ref q_lineThen, .ref q_undos, .ref q_was, .int v_undoMany, .int v_drawn, .ref q_kept, .ref q_isKept])), (q_now, .inl (cJ, 120, .inr (.inl v_now))), (q_row, .inl (cJ, 64, .inr (.inl v_row)))] H := hP
    replace hD : va_D A [(h0, .inr (8, [.ref q_now, .ref q_text, .int v_typed, .ref q_row, .int (0 : Int32), .int (0 : Int32), .int v_length, .int v_at, .int v_wrong, .ref q_read, .ref q_ranks, .ref q_distinct, .ref q_proper, .int v_properMany, .ref q_line, .ref q_order, .int v_orderMany, .ref q_then, .ref q_bestOrder, .ref q_lineThen, .ref q_undos, .ref q_was, .int v_undoMany, .int v_drawn, .ref q_kept, .ref q_isKept])), (q_now, .inl (cJ, 120, .inr (.inl v_now))), (q_row, .inl (cJ, 64, .inr (.inl v_row)))] := hD
    refine lv_aload_n hx hb dX10_same_69 rfl (lv_at hl 0 rfl) ?_
    refine lv_iload hx hb dX10_same_70 (lv_at hl 2 rfl) ?_
    refine lv_i2l (v := (w_611.2).toInt64) hx hb dX10_same_72 rfl ?_
    obtain ⟨o_612, hr_612, h⟩ := ob h
    have hPc := hP.sub (ws' := [(h0, .inr (8, [.ref q_now, .ref q_text, .int v_typed, .ref q_row, .int (0 : Int32), .int (0 : Int32), .int v_length, .int v_at, .int v_wrong, .ref q_read, .ref q_ranks, .ref q_distinct, .ref q_proper, .int v_properMany, .ref q_line, .ref q_order, .int v_orderMany, .ref q_then, .ref q_bestOrder, .ref q_lineThen, .ref q_undos, .ref q_was, .int v_undoMany, .int v_drawn, .ref q_kept, .ref q_isKept])), (q_row, .inl (cJ, 64, .inr (.inl v_row)))]) [0, 2] rfl
    have hDc := hD.sub (ws' := [(h0, .inr (8, [.ref q_now, .ref q_text, .int v_typed, .ref q_row, .int (0 : Int32), .int (0 : Int32), .int v_length, .int v_at, .int v_wrong, .ref q_read, .ref q_ranks, .ref q_distinct, .ref q_proper, .int v_properMany, .ref q_line, .ref q_order, .int v_orderMany, .ref q_then, .ref q_bestOrder, .ref q_lineThen, .ref q_undos, .ref q_was, .int v_undoMany, .int v_drawn, .ref q_kept, .ref q_isKept])), (q_row, .inl (cJ, 64, .inr (.inl v_row)))]) [0, 2] (by decide) rfl
    have hFc := va_free (wc := [(h0, .inr (8, [.ref q_now, .ref q_text, .int v_typed, .ref q_row, .int (0 : Int32), .int (0 : Int32), .int v_length, .int v_at, .int v_wrong, .ref q_read, .ref q_ranks, .ref q_distinct, .ref q_proper, .int v_properMany, .ref q_line, .ref q_order, .int v_orderMany, .ref q_then, .ref q_bestOrder, .ref q_lineThen, .ref q_undos, .ref q_was, .int v_undoMany, .int v_drawn, .ref q_kept, .ref q_isKept])), (q_row, .inl (cJ, 64, .inr (.inl v_row)))]) hD hS hA [0, 2] rfl
    refine va_callv (va_runV (As := [.long (w_611.2).toInt64]) (rest := []) ⟨hx, hb, hml, hown, hts⟩ (c_X10_tell l dC dI cB cC cI cJ cZ cT h0 q_now q_text q_row q_read q_ranks q_distinct q_proper q_line q_order q_then q_bestOrder q_lineThen q_undos q_was q_kept q_isKept H.size v_typed (0 : Int32) (0 : Int32) v_length v_at v_wrong v_properMany v_orderMany v_undoMany v_drawn v_row (w_611.2).toInt64 o_612 hr_612) (cwV 1 hts gX10_same_X10_tell rfl rfl rfl (by decide +kernel) ⟨Nat.le_of_ble_eq_true rfl, Nat.le_of_ble_eq_true rfl⟩) ⟨blW, va_recv hK hP (ci := 8) (q0 := 0) rfl rfl, fun U hU hW => ⟨rfl, by rw [hU], by rw [hU]; exact hPc, va_K.moved hW.alike hK, hDc.weaken (fun _ _ _ _ => trivial)⟩⟩ rfl rfl hl.1 rfl (lv_room (Nat.le_of_ble_eq_true rfl)) dX10_same_73 ⟨Nat.le_of_ble_eq_true rfl, Nat.le_of_ble_eq_true rfl⟩) hS (fun q _ h => hFc q h) hFc (fun u_612 t_612 H locs ht hvm e_612 hB hz1 hk1 hS => ?_)
    obtain ⟨hP1, -, hD1⟩ := hB
    rw [ht] at hP1
    obtain ⟨hP, hD⟩ := va_join (wr := [(q_now, .inl (cJ, 120, .inr (.inl v_now)))]) (w1 := [(h0, .inr (8, [.ref q_now, .ref q_text, .int v_typed, .ref q_row, .int o_612.1, .int (0 : Int32), .int v_length, .int v_at, .int v_wrong, .ref q_read, .ref q_ranks, .ref q_distinct, .ref q_proper, .int v_properMany, .ref q_line, .ref q_order, .int v_orderMany, .ref q_then, .ref q_bestOrder, .ref q_lineThen, .ref q_undos, .ref q_was, .int v_undoMany, .int v_drawn, .ref q_kept, .ref q_isKept])), (q_row, .inl (cJ, 64, .inr (.inl o_612.2)))]) hP hD [0, 2] [1] rfl rfl (by decide) (by decide) hk1 hFc hP1 hD1
    replace hP := hP.sub (ws' := [(h0, .inr (8, [.ref q_now, .ref q_text, .int v_typed, .ref q_row, .int o_612.1, .int (0 : Int32), .int v_length, .int v_at, .int v_wrong, .ref q_read, .ref q_ranks, .ref q_distinct, .ref q_proper, .int v_properMany, .ref q_line, .ref q_order, .int v_orderMany, .ref q_then, .ref q_bestOrder, .ref q_lineThen, .ref q_undos, .ref q_was, .int v_undoMany, .int v_drawn, .ref q_kept, .ref q_isKept])), (q_now, .inl (cJ, 120, .inr (.inl v_now))), (q_row, .inl (cJ, 64, .inr (.inl o_612.2)))]) [1, 0, 2] rfl
    replace hD := hD.sub (ws' := [(h0, .inr (8, [.ref q_now, .ref q_text, .int v_typed, .ref q_row, .int o_612.1, .int (0 : Int32), .int v_length, .int v_at, .int v_wrong, .ref q_read, .ref q_ranks, .ref q_distinct, .ref q_proper, .int v_properMany, .ref q_line, .ref q_order, .int v_orderMany, .ref q_then, .ref q_bestOrder, .ref q_lineThen, .ref q_undos, .ref q_was, .int v_undoMany, .int v_drawn, .ref q_kept, .ref q_isKept])), (q_now, .inl (cJ, 120, .inr (.inl v_now))), (q_row, .inl (cJ, 64, .inr (.inl o_612.2)))]) [1, 0, 2] (by decide) rfl
    refine lv_iload hx hb dX10_same_76 (lv_at hl 1 rfl) ?_
    rw [hQQ]
    have ho := Option.some.inj h
    subst ho
    exact W.iret hx hb hr (fun t ht hW => ⟨⟨_, (), rfl, rfl, by rw [ht]; exact hP, va_K.moved hW.alike hK, hD⟩, hS.F ht⟩) hS.2.2 dX10_same_78
  · replace h := on c_604 h
    refine lv_iload_n hx hb dX10_same_16 rfl (lv_at hl 0 rfl) ?_
    rw [hQQ]
    have ho := Option.some.inj h
    subst ho
    exact W.iret hx hb hr (fun t ht hW => ⟨⟨_, (), rfl, rfl, by rw [ht]; exact hP, va_K.moved hW.alike hK, hD⟩, hS.F ht⟩) hS.2.2 dX10_same_17
def f_X10_carries (v_undoMany : Int32) (v_now : Nat → Int64) (v_undos : Nat → Int64) (v_was : Nat → Int64) (x1 : Int32) (x2 : Int32) (x3 : Int32) (x4 : Int32) (x5 : Int32) : Option (Int32 × Int32 × Int32 × (Nat → Int64) × (Nat → Int64) × (Nat → Int64)) :=
  ((f_X10_isColumn v_now x1).bind (fun o_614 => (if (b2i o_614) = 0 then (some ((-1 : Int32), (0 : Int32), v_undoMany, v_now, v_undos, v_was)) else ((f_X10_isColumn v_now x3).bind (fun o_617 => (if (b2i o_617) = 0 then (some ((-1 : Int32), (0 : Int32), v_undoMany, v_now, v_undos, v_was)) else ((f_X10_in x5 (0 : Int32) (7 : Int32)).bind (fun o_620 => (if (b2i o_620) = 0 then (some ((-1 : Int32), (0 : Int32), v_undoMany, v_now, v_undos, v_was)) else ((f_X10_whyTaken v_now x1 x2 x5).bind (fun o_623 => (if o_623 ≤ 0 then ((f_X10_cell v_now x1 x2).bind (fun o_626 => ((f_X10_kindOf v_now x1).bind (fun o_628 => ((f_X10_widened o_626 o_628 x5).bind (fun o_630 => ((f_X10_kindOf v_now x3).bind (fun o_632 => ((f_X10_canHold o_632 x5).bind (fun o_634 => ((f_X10_whyNot v_now x3 x4 x5 (b2i o_634)).bind (fun o_636 => (if o_636 ≤ 0 then ((f_X10_change v_undoMany v_now v_undos v_was).bind (fun o_639 => ((f_X10_store v_now x3 x4 x5 o_630).bind (fun o_641 => (some ((0 : Int32), (0 : Int32), o_639.1, o_641, o_639.2.1, o_639.2.2)))))) else (some (((-10 : Int32) - o_636), (0 : Int32), v_undoMany, v_now, v_undos, v_was))))))))))))))) else (some ((-o_623), (0 : Int32), v_undoMany, v_now, v_undos, v_was))))))))))))))
abbrev rm_X10_carries : Room := { frames := 4, cells := 0, slots := 0, locals := 93 }
set_option maxHeartbeats 4000000 in
set_option maxRecDepth 100000 in
theorem c_X10_carries (l : Launch) (dC : Nat → ClassId) (dI : Nat → Nat → Nat) (cB cC cI cJ cZ cT : ClassId) (h0 q_now q_text q_row q_read q_ranks q_distinct q_proper q_line q_order q_then q_bestOrder q_lineThen q_undos q_was q_kept q_isKept : Nat) (sz : Nat) (v_typed : Int32) (v_rowMany : Int32) (v_thrown : Int32) (v_length : Int32) (v_at : Int32) (v_wrong : Int32) (v_properMany : Int32) (v_orderMany : Int32) (v_undoMany : Int32) (v_drawn : Int32) (v_now : Nat → Int64) (v_undos : Nat → Int64) (v_was : Nat → Int64) (x1 : Int32) (x2 : Int32) (x3 : Int32) (x4 : Int32) (x5 : Int32) (o : (Int32 × Int32 × Int32 × (Nat → Int64) × (Nat → Int64) × (Nat → Int64))) (hf : f_X10_carries v_undoMany v_now v_undos v_was x1 x2 x3 x4 x5 = some o) : Met l yX10_carries wsX10_carries rm_X10_carries (va_Pc [.ref h0, .int x1, .int x2, .int x3, .int x4, .int x5] (fun U => U.heap.size = sz ∧ va_P (dC, dI) vwCl [(h0, .inr (8, [.ref q_now, .ref q_text, .int v_typed, .ref q_row, .int v_rowMany, .int v_thrown, .int v_length, .int v_at, .int v_wrong, .ref q_read, .ref q_ranks, .ref q_distinct, .ref q_proper, .int v_properMany, .ref q_line, .ref q_order, .int v_orderMany, .ref q_then, .ref q_bestOrder, .ref q_lineThen, .ref q_undos, .ref q_was, .int v_undoMany, .int v_drawn, .ref q_kept, .ref q_isKept])), (q_now, .inl (cJ, 120, .inr (.inl v_now))), (q_undos, .inl (cJ, 960, .inr (.inl v_undos))), (q_was, .inl (cJ, 120, .inr (.inl v_was)))] U.heap ∧ va_K (dC, dI) vwCl (tyA cB cC cI cJ cZ cT) U ∧ va_D (fun _ => True) [(h0, .inr (8, [.ref q_now, .ref q_text, .int v_typed, .ref q_row, .int v_rowMany, .int v_thrown, .int v_length, .int v_at, .int v_wrong, .ref q_read, .ref q_ranks, .ref q_distinct, .ref q_proper, .int v_properMany, .ref q_line, .ref q_order, .int v_orderMany, .ref q_then, .ref q_bestOrder, .ref q_lineThen, .ref q_undos, .ref q_was, .int v_undoMany, .int v_drawn, .ref q_kept, .ref q_isKept])), (q_now, .inl (cJ, 120, .inr (.inl v_now))), (q_undos, .inl (cJ, 960, .inr (.inl v_undos))), (q_was, .inl (cJ, 120, .inr (.inl v_was)))] ∧ SX (va_A [(h0, .inr (8, [.ref q_now, .ref q_text, .int v_typed, .ref q_row, .int v_rowMany, .int v_thrown, .int v_length, .int v_at, .int v_wrong, .ref q_read, .ref q_ranks, .ref q_distinct, .ref q_proper, .int v_properMany, .ref q_line, .ref q_order, .int v_orderMany, .ref q_then, .ref q_bestOrder, .ref q_lineThen, .ref q_undos, .ref q_was, .int v_undoMany, .int v_drawn, .ref q_kept, .ref q_isKept])), (q_now, .inl (cJ, 120, .inr (.inl v_now))), (q_undos, .inl (cJ, 960, .inr (.inl v_undos))), (q_was, .inl (cJ, 120, .inr (.inl v_was)))] sz) U U.heap)) (va_Qi (fun (r : Int32) (_ : Unit) => o.1 = r) (fun _ t => va_P (dC, dI) vwCl [(h0, .inr (8, [.ref q_now, .ref q_text, .int v_typed, .ref q_row, .int v_rowMany, .int o.2.1, .int v_length, .int v_at, .int v_wrong, .ref q_read, .ref q_ranks, .ref q_distinct, .ref q_proper, .int v_properMany, .ref q_line, .ref q_order, .int v_orderMany, .ref q_then, .ref q_bestOrder, .ref q_lineThen, .ref q_undos, .ref q_was, .int o.2.2.1, .int v_drawn, .ref q_kept, .ref q_isKept])), (q_now, .inl (cJ, 120, .inr (.inl o.2.2.2.1))), (q_undos, .inl (cJ, 960, .inr (.inl o.2.2.2.2.1))), (q_was, .inl (cJ, 120, .inr (.inl o.2.2.2.2.2)))] t.heap ∧ va_K (dC, dI) vwCl (tyA cB cC cI cJ cZ cT) t ∧ va_D (va_A [(h0, .inr (8, [.ref q_now, .ref q_text, .int v_typed, .ref q_row, .int v_rowMany, .int v_thrown, .int v_length, .int v_at, .int v_wrong, .ref q_read, .ref q_ranks, .ref q_distinct, .ref q_proper, .int v_properMany, .ref q_line, .ref q_order, .int v_orderMany, .ref q_then, .ref q_bestOrder, .ref q_lineThen, .ref q_undos, .ref q_was, .int v_undoMany, .int v_drawn, .ref q_kept, .ref q_isKept])), (q_now, .inl (cJ, 120, .inr (.inl v_now))), (q_undos, .inl (cJ, 960, .inr (.inl v_undos))), (q_was, .inl (cJ, 120, .inr (.inl v_was)))] sz) [(h0, .inr (8, [.ref q_now, .ref q_text, .int v_typed, .ref q_row, .int v_rowMany, .int o.2.1, .int v_length, .int v_at, .int v_wrong, .ref q_read, .ref q_ranks, .ref q_distinct, .ref q_proper, .int v_properMany, .ref q_line, .ref q_order, .int v_orderMany, .ref q_then, .ref q_bestOrder, .ref q_lineThen, .ref q_undos, .ref q_was, .int o.2.2.1, .int v_drawn, .ref q_kept, .ref q_isKept])), (q_now, .inl (cJ, 120, .inr (.inl o.2.2.2.1))), (q_undos, .inl (cJ, 960, .inr (.inl o.2.2.2.2.1))), (q_was, .inl (cJ, 120, .inr (.inl o.2.2.2.2.2)))]) (va_A [(h0, .inr (8, [.ref q_now, .ref q_text, .int v_typed, .ref q_row, .int v_rowMany, .int v_thrown, .int v_length, .int v_at, .int v_wrong, .ref q_read, .ref q_ranks, .ref q_distinct, .ref q_proper, .int v_properMany, .ref q_line, .ref q_order, .int v_orderMany, .ref q_then, .ref q_bestOrder, .ref q_lineThen, .ref q_undos, .ref q_was, .int v_undoMany, .int v_drawn, .ref q_kept, .ref q_isKept])), (q_now, .inl (cJ, 120, .inr (.inl v_now))), (q_undos, .inl (cJ, 960, .inr (.inl v_undos))), (q_was, .inl (cJ, 120, .inr (.inl v_was)))] sz)) 0 0 (va_A [(h0, .inr (8, [.ref q_now, .ref q_text, .int v_typed, .ref q_row, .int v_rowMany, .int v_thrown, .int v_length, .int v_at, .int v_wrong, .ref q_read, .ref q_ranks, .ref q_distinct, .ref q_proper, .int v_properMany, .ref q_line, .ref q_order, .int v_orderMany, .ref q_then, .ref q_bestOrder, .ref q_lineThen, .ref q_undos, .ref q_was, .int v_undoMany, .int v_drawn, .ref q_kept, .ref q_isKept])), (q_now, .inl (cJ, 120, .inr (.inl v_now))), (q_undos, .inl (cJ, 960, .inr (.inl v_undos))), (q_was, .inl (cJ, 120, .inr (.inl v_was)))] sz) := by
  refine Met.ofW (cc := cX10_carries) (maxL := 9) (ret := (some .int)) (by decide +kernel) rfl ?_
  intro p e s m args below meth c s₁ B hml hv
  obtain ⟨hav, hsz, hP, hK, hD0, hX⟩ := hv
  have hx := B.exec
  have hb := B.bytes
  have hr := B.returns
  have hts := atoms_spec (ws := wsX10_carries) B.pre
  have hown : s.vm.findClass RX10 = some m.cls := findClass_of_methodNamed B.named
  have hlocks := B.notSynchronized
  subst hsz
  have hD := hD0.self (sz := s.heap.size)
  generalize hAe : va_A [(h0, .inr (8, [.ref q_now, .ref q_text, .int v_typed, .ref q_row, .int v_rowMany, .int v_thrown, .int v_length, .int v_at, .int v_wrong, .ref q_read, .ref q_ranks, .ref q_distinct, .ref q_proper, .int v_properMany, .ref q_line, .ref q_order, .int v_orderMany, .ref q_then, .ref q_bestOrder, .ref q_lineThen, .ref q_undos, .ref q_was, .int v_undoMany, .int v_drawn, .ref q_kept, .ref q_isKept])), (q_now, .inl (cJ, 120, .inr (.inl v_now))), (q_undos, .inl (cJ, 960, .inr (.inl v_undos))), (q_was, .inl (cJ, 120, .inr (.inl v_was)))] s.heap.size = A at hD hX ⊢
  have hA : ∀ q : Nat, s.heap.size ≤ q → A q := fun q h => by rw [← hAe]; exact Or.inr h
  have hS : va_S A s.heap s.heap [] := va_S.rf
  refine wstart (rm := rm_X10_carries) hav (Nat.le_of_ble_eq_true rfl) (fun QQ ls hQQ hl => ?_)
  have hl : lv_has ls 9 [(0, .ref h0), (1, .int x1), (2, .int x2), (3, .int x3), (4, .int x4), (5, .int x5)] := hl
  have hi_X10 : ∀ w ∈ u_ws RX10 TX10 26, w ∈ wsX10_carries := by decide +kernel
  have h := hf
  unfold f_X10_carries at h
  refine lv_aload_n hx hb dX10_carries_0 rfl (lv_at hl 0 rfl) ?_
  refine lv_iconst (v := 0) hx hb dX10_carries_1 (by decide) ?_
  refine va_put (D := (dC, dI)) (ci := 8) (v := .int (0 : Int32)) (ty := .int) (C := RX10) (T := TX10) (N := 26) hx hb hts hi_X10 tyX10 tyX10_ok nmX10 hown hK hP hD hS 0 rfl rfl 5 (by decide) (hts _ (List.mem_of_getElem? (i := 1) rfl)) (fun _ h9 => h9) rfl (by decide +kernel) rfl rfl (Nat.le_of_ble_eq_true rfl) dX10_carries_2 (fun H locs hP hD hS => ?_)
  replace hP : va_P (dC, dI) vwCl [(h0, .inr (8, [.ref q_now, .ref q_text, .int v_typed, .ref q_row, .int v_rowMany, .int (0 : Int32), .int v_length, .int v_at, .int v_wrong, .ref q_read, .ref q_ranks, .ref q_distinct, .ref q_proper, .int v_properMany, .ref q_line, .ref q_order, .int v_orderMany, .ref q_then, .ref q_bestOrder, .ref q_lineThen, .ref q_undos, .ref q_was, .int v_undoMany, .int v_drawn, .ref q_kept, .ref q_isKept])), (q_now, .inl (cJ, 120, .inr (.inl v_now))), (q_undos, .inl (cJ, 960, .inr (.inl v_undos))), (q_was, .inl (cJ, 120, .inr (.inl v_was)))] H := hP
  replace hD : va_D A [(h0, .inr (8, [.ref q_now, .ref q_text, .int v_typed, .ref q_row, .int v_rowMany, .int (0 : Int32), .int v_length, .int v_at, .int v_wrong, .ref q_read, .ref q_ranks, .ref q_distinct, .ref q_proper, .int v_properMany, .ref q_line, .ref q_order, .int v_orderMany, .ref q_then, .ref q_bestOrder, .ref q_lineThen, .ref q_undos, .ref q_was, .int v_undoMany, .int v_drawn, .ref q_kept, .ref q_isKept])), (q_now, .inl (cJ, 120, .inr (.inl v_now))), (q_undos, .inl (cJ, 960, .inr (.inl v_undos))), (q_was, .inl (cJ, 120, .inr (.inl v_was)))] := hD
  refine lv_aload_n hx hb dX10_carries_5 rfl (lv_at hl 0 rfl) ?_
  refine lv_iload_n hx hb dX10_carries_6 rfl (lv_at hl 1 rfl) ?_
  obtain ⟨o_614, hr_614, h⟩ := ob h
  refine vp_callSi (va_Run.run (va_runV (As := [.int x1]) (rest := []) ⟨hx, hb, hml, hown, hts⟩ (c_X10_isColumn l dC dI cB cC cI cJ cZ cT h0 q_now q_text q_row q_read q_ranks q_distinct q_proper q_line q_order q_then q_bestOrder q_lineThen q_undos q_was q_kept q_isKept v_typed v_rowMany (0 : Int32) v_length v_at v_wrong v_properMany v_orderMany v_undoMany v_drawn v_now x1 o_614 hr_614) (cwV 1 hts gX10_carries_X10_isColumn rfl rfl rfl (by decide +kernel) ⟨Nat.le_of_ble_eq_true rfl, Nat.le_of_ble_eq_true rfl⟩) ⟨blR, va_recv hK hP (ci := 8) (q0 := 0) rfl rfl, fun U hU hW => ⟨rfl, by rw [hU]; exact hP.sub [0, 1] rfl, va_K.moved hW.alike hK⟩⟩ rfl rfl hl.1 rfl (lv_room (Nat.le_of_ble_eq_true rfl)) dX10_carries_7 ⟨Nat.le_of_ble_eq_true rfl, Nat.le_of_ble_eq_true rfl⟩)) (fun r_614 e_614 => ?_)
  subst e_614
  refine lv_if_eq (tgt := 32) hx hb dX10_carries_10 (by decide) (fun c_616 => ?_) (fun c_616 => ?_)
  · replace h := op c_616 h
    refine lv_iconst (v := -1) hx hb dX10_carries_32 (by decide) ?_
    rw [hQQ]
    have ho := Option.some.inj h
    subst ho
    exact W.iret hx hb hr (fun t ht hW => ⟨⟨_, (), rfl, rfl, by rw [ht]; exact hP, va_K.moved hW.alike hK, hD⟩, hS.F ht⟩) hS.2.2 dX10_carries_33
  · replace h := on c_616 h
    refine lv_aload_n hx hb dX10_carries_13 rfl (lv_at hl 0 rfl) ?_
    refine lv_iload_n hx hb dX10_carries_14 rfl (lv_at hl 3 rfl) ?_
    obtain ⟨o_617, hr_617, h⟩ := ob h
    refine vp_callSi (va_Run.run (va_runV (As := [.int x3]) (rest := []) ⟨hx, hb, hml, hown, hts⟩ (c_X10_isColumn l dC dI cB cC cI cJ cZ cT h0 q_now q_text q_row q_read q_ranks q_distinct q_proper q_line q_order q_then q_bestOrder q_lineThen q_undos q_was q_kept q_isKept v_typed v_rowMany (0 : Int32) v_length v_at v_wrong v_properMany v_orderMany v_undoMany v_drawn v_now x3 o_617 hr_617) (cwV 1 hts gX10_carries_X10_isColumn rfl rfl rfl (by decide +kernel) ⟨Nat.le_of_ble_eq_true rfl, Nat.le_of_ble_eq_true rfl⟩) ⟨blR, va_recv hK hP (ci := 8) (q0 := 0) rfl rfl, fun U hU hW => ⟨rfl, by rw [hU]; exact hP.sub [0, 1] rfl, va_K.moved hW.alike hK⟩⟩ rfl rfl hl.1 rfl (lv_room (Nat.le_of_ble_eq_true rfl)) dX10_carries_15 ⟨Nat.le_of_ble_eq_true rfl, Nat.le_of_ble_eq_true rfl⟩)) (fun r_617 e_617 => ?_)
    subst e_617
    refine lv_if_eq (tgt := 32) hx hb dX10_carries_18 (by decide) (fun c_619 => ?_) (fun c_619 => ?_)
    · replace h := op c_619 h
      refine lv_iconst (v := -1) hx hb dX10_carries_32 (by decide) ?_
      rw [hQQ]
      have ho := Option.some.inj h
      subst ho
      exact W.iret hx hb hr (fun t ht hW => ⟨⟨_, (), rfl, rfl, by rw [ht]; exact hP, va_K.moved hW.alike hK, hD⟩, hS.F ht⟩) hS.2.2 dX10_carries_33
    · replace h := on c_619 h
      refine lv_iload hx hb dX10_carries_21 (lv_at hl 5 rfl) ?_
      refine lv_iconst (v := 0) hx hb dX10_carries_23 (by decide) ?_
      refine lv_bipush (v := 7) hx hb dX10_carries_24 (by decide) ?_
      obtain ⟨o_620, hr_620, h⟩ := ob h
      refine vp_callSi (va_Run.run (va_runS (As := [.int x5, .int (0 : Int32), .int (7 : Int32)]) (rest := []) ⟨hx, hb, hml, hown, hts⟩ (c_X10_in l dC dI cB cC cI cJ cZ cT x5 (0 : Int32) (7 : Int32) o_620 hr_620) (va_cwS 3 hts gX10_carries_X10_in rfl rfl rfl (by decide +kernel) ⟨Nat.le_of_ble_eq_true rfl, Nat.le_of_ble_eq_true rfl⟩) ⟨blT, fun U hU hW => ⟨rfl, trivial⟩⟩ rfl rfl hl.1 rfl (lv_room (Nat.le_of_ble_eq_true rfl)) dX10_carries_26 ⟨Nat.le_of_ble_eq_true rfl, Nat.le_of_ble_eq_true rfl⟩)) (fun r_620 e_620 => ?_)
      subst e_620
      refine lv_if_ne (tgt := 34) hx hb dX10_carries_29 (by decide) (fun c_622 => ?_) (fun c_622 => ?_)
      · replace h := on c_622 h
        refine lv_aload_n hx hb dX10_carries_34 rfl (lv_at hl 0 rfl) ?_
        refine lv_iload_n hx hb dX10_carries_35 rfl (lv_at hl 1 rfl) ?_
        refine lv_iload_n hx hb dX10_carries_36 rfl (lv_at hl 2 rfl) ?_
        refine lv_iload hx hb dX10_carries_37 (lv_at hl 5 rfl) ?_
        obtain ⟨o_623, hr_623, h⟩ := ob h
        refine vp_callSi (va_Run.run (va_runV (As := [.int x1, .int x2, .int x5]) (rest := []) ⟨hx, hb, hml, hown, hts⟩ (c_X10_whyTaken l dC dI cB cC cI cJ cZ cT h0 q_now q_text q_row q_read q_ranks q_distinct q_proper q_line q_order q_then q_bestOrder q_lineThen q_undos q_was q_kept q_isKept v_typed v_rowMany (0 : Int32) v_length v_at v_wrong v_properMany v_orderMany v_undoMany v_drawn v_now x1 x2 x5 o_623 hr_623) (cwV 3 hts gX10_carries_X10_whyTaken rfl rfl rfl (by decide +kernel) ⟨Nat.le_of_ble_eq_true rfl, Nat.le_of_ble_eq_true rfl⟩) ⟨blRX, va_recv hK hP (ci := 8) (q0 := 0) rfl rfl, fun U hU hW => ⟨rfl, by rw [hU]; exact hP.sub [0, 1] rfl, va_K.moved hW.alike hK, by rw [hU]; exact SX.use hW hS hX⟩⟩ rfl rfl hl.1 rfl (lv_room (Nat.le_of_ble_eq_true rfl)) dX10_carries_39 ⟨Nat.le_of_ble_eq_true rfl, Nat.le_of_ble_eq_true rfl⟩)) (fun r_623 e_623 => ?_)
        subst e_623
        refine lv_istore (lv' := [(6, .int o_623), (0, .ref h0), (1, .int x1), (2, .int x2), (3, .int x3), (4, .int x4), (5, .int x5)]) hx hb dX10_carries_42 hl (by decide) rfl (fun ls hl => ?_)
        refine lv_iload hx hb dX10_carries_44 (lv_at hl 0 rfl) ?_
        refine lv_if_le (tgt := 53) hx hb dX10_carries_46 (by decide) (fun c_625 => ?_) (fun c_625 => ?_)
        · replace h := op c_625 h
          refine lv_aload_n hx hb dX10_carries_53 rfl (lv_at hl 1 rfl) ?_
          refine lv_iload_n hx hb dX10_carries_54 rfl (lv_at hl 2 rfl) ?_
          refine lv_iload_n hx hb dX10_carries_55 rfl (lv_at hl 3 rfl) ?_
          obtain ⟨o_626, hr_626, h⟩ := ob h
          refine vp_callSl (va_Run.run (va_runV (As := [.int x1, .int x2]) (rest := []) ⟨hx, hb, hml, hown, hts⟩ (c_X10_cell l dC dI cB cC cI cJ cZ cT h0 q_now q_text q_row q_read q_ranks q_distinct q_proper q_line q_order q_then q_bestOrder q_lineThen q_undos q_was q_kept q_isKept v_typed v_rowMany (0 : Int32) v_length v_at v_wrong v_properMany v_orderMany v_undoMany v_drawn v_now x1 x2 o_626 hr_626) (cwV 2 hts gX10_carries_X10_cell rfl rfl rfl (by decide +kernel) ⟨Nat.le_of_ble_eq_true rfl, Nat.le_of_ble_eq_true rfl⟩) ⟨blR, va_recv hK hP (ci := 8) (q0 := 0) rfl rfl, fun U hU hW => ⟨rfl, by rw [hU]; exact hP.sub [0, 1] rfl, va_K.moved hW.alike hK⟩⟩ rfl rfl hl.1 rfl (lv_room (Nat.le_of_ble_eq_true rfl)) dX10_carries_56 ⟨Nat.le_of_ble_eq_true rfl, Nat.le_of_ble_eq_true rfl⟩)) (fun r_626 e_626 => ?_)
          subst e_626
          refine lv_aload_n hx hb dX10_carries_59 rfl (lv_at hl 1 rfl) ?_
          refine lv_iload_n hx hb dX10_carries_60 rfl (lv_at hl 2 rfl) ?_
          obtain ⟨o_628, hr_628, h⟩ := ob h
          refine vp_callSi (va_Run.run (va_runV (As := [.int x1]) (rest := [.long o_626]) ⟨hx, hb, hml, hown, hts⟩ (c_X10_kindOf l dC dI cB cC cI cJ cZ cT h0 q_now q_text q_row q_read q_ranks q_distinct q_proper q_line q_order q_then q_bestOrder q_lineThen q_undos q_was q_kept q_isKept v_typed v_rowMany (0 : Int32) v_length v_at v_wrong v_properMany v_orderMany v_undoMany v_drawn v_now x1 o_628 hr_628) (cwV 1 hts gX10_carries_X10_kindOf rfl rfl rfl (by decide +kernel) ⟨Nat.le_of_ble_eq_true rfl, Nat.le_of_ble_eq_true rfl⟩) ⟨blR, va_recv hK hP (ci := 8) (q0 := 0) rfl rfl, fun U hU hW => ⟨rfl, by rw [hU]; exact hP.sub [0, 1] rfl, va_K.moved hW.alike hK⟩⟩ rfl rfl hl.1 rfl (lv_room (Nat.le_of_ble_eq_true rfl)) dX10_carries_61 ⟨Nat.le_of_ble_eq_true rfl, Nat.le_of_ble_eq_true rfl⟩)) (fun r_628 e_628 => ?_)
          subst e_628
          refine lv_iload hx hb dX10_carries_64 (lv_at hl 6 rfl) ?_
          obtain ⟨o_630, hr_630, h⟩ := ob h
          refine vp_callSl (va_Run.run (va_runS (As := [.long o_626, .int o_628, .int x5]) (rest := []) ⟨hx, hb, hml, hown, hts⟩ (c_X10_widened l dC dI cB cC cI cJ cZ cT o_626 o_628 x5 o_630 hr_630) (va_cwS 3 hts gX10_carries_X10_widened rfl rfl rfl (by decide +kernel) ⟨Nat.le_of_ble_eq_true rfl, Nat.le_of_ble_eq_true rfl⟩) ⟨blT, fun U hU hW => ⟨rfl, trivial⟩⟩ rfl rfl hl.1 rfl (lv_room (Nat.le_of_ble_eq_true rfl)) dX10_carries_66 ⟨Nat.le_of_ble_eq_true rfl, Nat.le_of_ble_eq_true rfl⟩)) (fun r_630 e_630 => ?_)
          subst e_630
          refine lv_lstore (lv' := [(7, .long o_630), (6, .int o_623), (0, .ref h0), (1, .int x1), (2, .int x2), (3, .int x3), (4, .int x4), (5, .int x5)]) hx hb dX10_carries_69 hl (by decide) rfl (fun ls hl => ?_)
          refine lv_aload_n hx hb dX10_carries_71 rfl (lv_at hl 2 rfl) ?_
          refine lv_iload_n hx hb dX10_carries_72 rfl (lv_at hl 5 rfl) ?_
          refine lv_iload hx hb dX10_carries_73 (lv_at hl 6 rfl) ?_
          refine lv_iload hx hb dX10_carries_75 (lv_at hl 7 rfl) ?_
          refine lv_aload_n hx hb dX10_carries_77 rfl (lv_at hl 2 rfl) ?_
          refine lv_aload_n hx hb dX10_carries_78 rfl (lv_at hl 2 rfl) ?_
          refine lv_iload_n hx hb dX10_carries_79 rfl (lv_at hl 5 rfl) ?_
          obtain ⟨o_632, hr_632, h⟩ := ob h
          refine vp_callSi (va_Run.run (va_runV (As := [.int x3]) (rest := [.ref h0, .int x5, .int x4, .int x3, .ref h0]) ⟨hx, hb, hml, hown, hts⟩ (c_X10_kindOf l dC dI cB cC cI cJ cZ cT h0 q_now q_text q_row q_read q_ranks q_distinct q_proper q_line q_order q_then q_bestOrder q_lineThen q_undos q_was q_kept q_isKept v_typed v_rowMany (0 : Int32) v_length v_at v_wrong v_properMany v_orderMany v_undoMany v_drawn v_now x3 o_632 hr_632) (cwV 1 hts gX10_carries_X10_kindOf rfl rfl rfl (by decide +kernel) ⟨Nat.le_of_ble_eq_true rfl, Nat.le_of_ble_eq_true rfl⟩) ⟨blR, va_recv hK hP (ci := 8) (q0 := 0) rfl rfl, fun U hU hW => ⟨rfl, by rw [hU]; exact hP.sub [0, 1] rfl, va_K.moved hW.alike hK⟩⟩ rfl rfl hl.1 rfl (lv_room (Nat.le_of_ble_eq_true rfl)) dX10_carries_80 ⟨Nat.le_of_ble_eq_true rfl, Nat.le_of_ble_eq_true rfl⟩)) (fun r_632 e_632 => ?_)
          subst e_632
          refine lv_iload hx hb dX10_carries_83 (lv_at hl 7 rfl) ?_
          obtain ⟨o_634, hr_634, h⟩ := ob h
          refine vp_callSi (va_Run.run (va_runV (As := [.int o_632, .int x5]) (rest := [.int x5, .int x4, .int x3, .ref h0]) ⟨hx, hb, hml, hown, hts⟩ (c_X10_canHold l dC dI cB cC cI cJ cZ cT h0 o_632 x5 o_634 hr_634) (cwV 2 hts gX10_carries_X10_canHold rfl rfl rfl (by decide +kernel) ⟨Nat.le_of_ble_eq_true rfl, Nat.le_of_ble_eq_true rfl⟩) ⟨blTX, va_recv hK hP (ci := 8) (q0 := 0) rfl rfl, fun U hU hW => ⟨rfl, by show SX (fun _ => False) U U.heap; rw [hU]; exact SX.use hW hS hX⟩⟩ rfl rfl hl.1 rfl (lv_room (Nat.le_of_ble_eq_true rfl)) dX10_carries_85 ⟨Nat.le_of_ble_eq_true rfl, Nat.le_of_ble_eq_true rfl⟩)) (fun r_634 e_634 => ?_)
          subst e_634
          obtain ⟨o_636, hr_636, h⟩ := ob h
          refine vp_callSi (va_Run.run (va_runV (As := [.int x3, .int x4, .int x5, .int (b2i o_634)]) (rest := []) ⟨hx, hb, hml, hown, hts⟩ (c_X10_whyNot l dC dI cB cC cI cJ cZ cT h0 q_now q_text q_row q_read q_ranks q_distinct q_proper q_line q_order q_then q_bestOrder q_lineThen q_undos q_was q_kept q_isKept v_typed v_rowMany (0 : Int32) v_length v_at v_wrong v_properMany v_orderMany v_undoMany v_drawn v_now x3 x4 x5 (b2i o_634) o_636 hr_636) (cwV 4 hts gX10_carries_X10_whyNot rfl rfl rfl (by decide +kernel) ⟨Nat.le_of_ble_eq_true rfl, Nat.le_of_ble_eq_true rfl⟩) ⟨blR, va_recv hK hP (ci := 8) (q0 := 0) rfl rfl, fun U hU hW => ⟨rfl, by rw [hU]; exact hP.sub [0, 1] rfl, va_K.moved hW.alike hK⟩⟩ rfl rfl hl.1 rfl (lv_room (Nat.le_of_ble_eq_true rfl)) dX10_carries_88 ⟨Nat.le_of_ble_eq_true rfl, Nat.le_of_ble_eq_true rfl⟩)) (fun r_636 e_636 => ?_)
          subst e_636
          refine lv_istore (lv' := [(6, .int o_636), (7, .long o_630), (0, .ref h0), (1, .int x1), (2, .int x2), (3, .int x3), (4, .int x4), (5, .int x5)]) hx hb dX10_carries_91 hl (by decide) rfl (fun ls hl => ?_)
          refine lv_iload hx hb dX10_carries_93 (lv_at hl 0 rfl) ?_
          refine lv_if_le (tgt := 104) hx hb dX10_carries_95 (by decide) (fun c_638 => ?_) (fun c_638 => ?_)
          · replace h := op c_638 h
            refine lv_aload_n hx hb dX10_carries_104 rfl (lv_at hl 2 rfl) ?_
            obtain ⟨o_639, hr_639, h⟩ := ob h
            have hPc := hP.sub (ws' := [(h0, .inr (8, [.ref q_now, .ref q_text, .int v_typed, .ref q_row, .int v_rowMany, .int (0 : Int32), .int v_length, .int v_at, .int v_wrong, .ref q_read, .ref q_ranks, .ref q_distinct, .ref q_proper, .int v_properMany, .ref q_line, .ref q_order, .int v_orderMany, .ref q_then, .ref q_bestOrder, .ref q_lineThen, .ref q_undos, .ref q_was, .int v_undoMany, .int v_drawn, .ref q_kept, .ref q_isKept])), (q_now, .inl (cJ, 120, .inr (.inl v_now))), (q_undos, .inl (cJ, 960, .inr (.inl v_undos))), (q_was, .inl (cJ, 120, .inr (.inl v_was)))]) [0, 1, 2, 3] rfl
            have hDc := hD.sub (ws' := [(h0, .inr (8, [.ref q_now, .ref q_text, .int v_typed, .ref q_row, .int v_rowMany, .int (0 : Int32), .int v_length, .int v_at, .int v_wrong, .ref q_read, .ref q_ranks, .ref q_distinct, .ref q_proper, .int v_properMany, .ref q_line, .ref q_order, .int v_orderMany, .ref q_then, .ref q_bestOrder, .ref q_lineThen, .ref q_undos, .ref q_was, .int v_undoMany, .int v_drawn, .ref q_kept, .ref q_isKept])), (q_now, .inl (cJ, 120, .inr (.inl v_now))), (q_undos, .inl (cJ, 960, .inr (.inl v_undos))), (q_was, .inl (cJ, 120, .inr (.inl v_was)))]) [0, 1, 2, 3] (by decide) rfl
            have hFc := va_free (wc := [(h0, .inr (8, [.ref q_now, .ref q_text, .int v_typed, .ref q_row, .int v_rowMany, .int (0 : Int32), .int v_length, .int v_at, .int v_wrong, .ref q_read, .ref q_ranks, .ref q_distinct, .ref q_proper, .int v_properMany, .ref q_line, .ref q_order, .int v_orderMany, .ref q_then, .ref q_bestOrder, .ref q_lineThen, .ref q_undos, .ref q_was, .int v_undoMany, .int v_drawn, .ref q_kept, .ref q_isKept])), (q_now, .inl (cJ, 120, .inr (.inl v_now))), (q_undos, .inl (cJ, 960, .inr (.inl v_undos))), (q_was, .inl (cJ, 120, .inr (.inl v_was)))]) hD hS hA [0, 1, 2, 3] rfl
            refine va_callv (va_runV (As := []) (rest := []) ⟨hx, hb, hml, hown, hts⟩ (c_X10_change l dC dI cB cC cI cJ cZ cT h0 q_now q_text q_row q_read q_ranks q_distinct q_proper q_line q_order q_then q_bestOrder q_lineThen q_undos q_was q_kept q_isKept H.size v_typed v_rowMany (0 : Int32) v_length v_at v_wrong v_properMany v_orderMany v_undoMany v_drawn v_now v_undos v_was o_639 hr_639) (cwV 0 hts gX10_carries_X10_change rfl rfl rfl (by decide +kernel) ⟨Nat.le_of_ble_eq_true rfl, Nat.le_of_ble_eq_true rfl⟩) ⟨blW, va_recv hK hP (ci := 8) (q0 := 0) rfl rfl, fun U hU hW => ⟨rfl, by rw [hU], by rw [hU]; exact hPc, va_K.moved hW.alike hK, hDc.weaken (fun _ _ _ _ => trivial)⟩⟩ rfl rfl hl.1 rfl (lv_room (Nat.le_of_ble_eq_true rfl)) dX10_carries_105 ⟨Nat.le_of_ble_eq_true rfl, Nat.le_of_ble_eq_true rfl⟩) hS (fun q _ h => hFc q h) hFc (fun u_639 t_639 H locs ht hvm e_639 hB hz1 hk1 hS => ?_)
            obtain ⟨hP1, -, hD1⟩ := hB
            rw [ht] at hP1
            obtain ⟨hP, hD⟩ := va_join (wr := []) (w1 := [(h0, .inr (8, [.ref q_now, .ref q_text, .int v_typed, .ref q_row, .int v_rowMany, .int (0 : Int32), .int v_length, .int v_at, .int v_wrong, .ref q_read, .ref q_ranks, .ref q_distinct, .ref q_proper, .int v_properMany, .ref q_line, .ref q_order, .int v_orderMany, .ref q_then, .ref q_bestOrder, .ref q_lineThen, .ref q_undos, .ref q_was, .int o_639.1, .int v_drawn, .ref q_kept, .ref q_isKept])), (q_now, .inl (cJ, 120, .inr (.inl v_now))), (q_undos, .inl (cJ, 960, .inr (.inl o_639.2.1))), (q_was, .inl (cJ, 120, .inr (.inl o_639.2.2)))]) hP hD [0, 1, 2, 3] [] rfl rfl (by decide) (by decide) hk1 hFc hP1 hD1
            replace hP := hP.sub (ws' := [(h0, .inr (8, [.ref q_now, .ref q_text, .int v_typed, .ref q_row, .int v_rowMany, .int (0 : Int32), .int v_length, .int v_at, .int v_wrong, .ref q_read, .ref q_ranks, .ref q_distinct, .ref q_proper, .int v_properMany, .ref q_line, .ref q_order, .int v_orderMany, .ref q_then, .ref q_bestOrder, .ref q_lineThen, .ref q_undos, .ref q_was, .int o_639.1, .int v_drawn, .ref q_kept, .ref q_isKept])), (q_now, .inl (cJ, 120, .inr (.inl v_now))), (q_undos, .inl (cJ, 960, .inr (.inl o_639.2.1))), (q_was, .inl (cJ, 120, .inr (.inl o_639.2.2)))]) [0, 1, 2, 3] rfl
            replace hD := hD.sub (ws' := [(h0, .inr (8, [.ref q_now, .ref q_text, .int v_typed, .ref q_row, .int v_rowMany, .int (0 : Int32), .int v_length, .int v_at, .int v_wrong, .ref q_read, .ref q_ranks, .ref q_distinct, .ref q_proper, .int v_properMany, .ref q_line, .ref q_order, .int v_orderMany, .ref q_then, .ref q_bestOrder, .ref q_lineThen, .ref q_undos, .ref q_was, .int o_639.1, .int v_drawn, .ref q_kept, .ref q_isKept])), (q_now, .inl (cJ, 120, .inr (.inl v_now))), (q_undos, .inl (cJ, 960, .inr (.inl o_639.2.1))), (q_was, .inl (cJ, 120, .inr (.inl o_639.2.2)))]) [0, 1, 2, 3] (by decide) rfl
            refine lv_aload_n hx hb dX10_carries_108 rfl (lv_at hl 2 rfl) ?_
            refine lv_iload_n hx hb dX10_carries_109 rfl (lv_at hl 5 rfl) ?_
            refine lv_iload hx hb dX10_carries_110 (lv_at hl 6 rfl) ?_
            refine lv_iload hx hb dX10_carries_112 (lv_at hl 7 rfl) ?_
            refine lv_lload hx hb dX10_carries_114 (lv_at hl 1 rfl) ?_
            obtain ⟨o_641, hr_641, h⟩ := ob h
            have hPc := hP.sub (ws' := [(h0, .inr (8, [.ref q_now, .ref q_text, .int v_typed, .ref q_row, .int v_rowMany, .int (0 : Int32), .int v_length, .int v_at, .int v_wrong, .ref q_read, .ref q_ranks, .ref q_distinct, .ref q_proper, .int v_properMany, .ref q_line, .ref q_order, .int v_orderMany, .ref q_then, .ref q_bestOrder, .ref q_lineThen, .ref q_undos, .ref q_was, .int o_639.1, .int v_drawn, .ref q_kept, .ref q_isKept])), (q_now, .inl (cJ, 120, .inr (.inl v_now)))]) [0, 1] rfl
            have hDc := hD.sub (ws' := [(h0, .inr (8, [.ref q_now, .ref q_text, .int v_typed, .ref q_row, .int v_rowMany, .int (0 : Int32), .int v_length, .int v_at, .int v_wrong, .ref q_read, .ref q_ranks, .ref q_distinct, .ref q_proper, .int v_properMany, .ref q_line, .ref q_order, .int v_orderMany, .ref q_then, .ref q_bestOrder, .ref q_lineThen, .ref q_undos, .ref q_was, .int o_639.1, .int v_drawn, .ref q_kept, .ref q_isKept])), (q_now, .inl (cJ, 120, .inr (.inl v_now)))]) [0, 1] (by decide) rfl
            have hFc := va_free (wc := [(h0, .inr (8, [.ref q_now, .ref q_text, .int v_typed, .ref q_row, .int v_rowMany, .int (0 : Int32), .int v_length, .int v_at, .int v_wrong, .ref q_read, .ref q_ranks, .ref q_distinct, .ref q_proper, .int v_properMany, .ref q_line, .ref q_order, .int v_orderMany, .ref q_then, .ref q_bestOrder, .ref q_lineThen, .ref q_undos, .ref q_was, .int o_639.1, .int v_drawn, .ref q_kept, .ref q_isKept])), (q_now, .inl (cJ, 120, .inr (.inl v_now)))]) hD hS hA [0, 1] rfl
            refine va_callv (va_runV (As := [.int x3, .int x4, .int x5, .long o_630]) (rest := []) ⟨hx, hb, hml, hown, hts⟩ (c_X10_store l dC dI cB cC cI cJ cZ cT h0 q_now q_text q_row q_read q_ranks q_distinct q_proper q_line q_order q_then q_bestOrder q_lineThen q_undos q_was q_kept q_isKept H.size v_typed v_rowMany (0 : Int32) v_length v_at v_wrong v_properMany v_orderMany o_639.1 v_drawn v_now x3 x4 x5 o_630 o_641 hr_641) (cwV 4 hts gX10_carries_X10_store rfl rfl rfl (by decide +kernel) ⟨Nat.le_of_ble_eq_true rfl, Nat.le_of_ble_eq_true rfl⟩) ⟨blW, va_recv hK hP (ci := 8) (q0 := 0) rfl rfl, fun U hU hW => ⟨rfl, by rw [hU], by rw [hU]; exact hPc, va_K.moved hW.alike hK, hDc.weaken (fun _ _ _ _ => trivial)⟩⟩ rfl rfl hl.1 rfl (lv_room (Nat.le_of_ble_eq_true rfl)) dX10_carries_116 ⟨Nat.le_of_ble_eq_true rfl, Nat.le_of_ble_eq_true rfl⟩) hS (fun q _ h => hFc q h) hFc (fun u_641 t_641 H locs ht hvm e_641 hB hz1 hk1 hS => ?_)
            obtain ⟨hP1, -, hD1⟩ := hB
            rw [ht] at hP1
            obtain ⟨hP, hD⟩ := va_join (wr := [(q_undos, .inl (cJ, 960, .inr (.inl o_639.2.1))), (q_was, .inl (cJ, 120, .inr (.inl o_639.2.2)))]) (w1 := [(h0, .inr (8, [.ref q_now, .ref q_text, .int v_typed, .ref q_row, .int v_rowMany, .int (0 : Int32), .int v_length, .int v_at, .int v_wrong, .ref q_read, .ref q_ranks, .ref q_distinct, .ref q_proper, .int v_properMany, .ref q_line, .ref q_order, .int v_orderMany, .ref q_then, .ref q_bestOrder, .ref q_lineThen, .ref q_undos, .ref q_was, .int o_639.1, .int v_drawn, .ref q_kept, .ref q_isKept])), (q_now, .inl (cJ, 120, .inr (.inl o_641)))]) hP hD [0, 1] [2, 3] rfl rfl (by decide) (by decide) hk1 hFc hP1 hD1
            replace hP := hP.sub (ws' := [(h0, .inr (8, [.ref q_now, .ref q_text, .int v_typed, .ref q_row, .int v_rowMany, .int (0 : Int32), .int v_length, .int v_at, .int v_wrong, .ref q_read, .ref q_ranks, .ref q_distinct, .ref q_proper, .int v_properMany, .ref q_line, .ref q_order, .int v_orderMany, .ref q_then, .ref q_bestOrder, .ref q_lineThen, .ref q_undos, .ref q_was, .int o_639.1, .int v_drawn, .ref q_kept, .ref q_isKept])), (q_now, .inl (cJ, 120, .inr (.inl o_641))), (q_undos, .inl (cJ, 960, .inr (.inl o_639.2.1))), (q_was, .inl (cJ, 120, .inr (.inl o_639.2.2)))]) [2, 3, 0, 1] rfl
            replace hD := hD.sub (ws' := [(h0, .inr (8, [.ref q_now, .ref q_text, .int v_typed, .ref q_row, .int v_rowMany, .int (0 : Int32), .int v_length, .int v_at, .int v_wrong, .ref q_read, .ref q_ranks, .ref q_distinct, .ref q_proper, .int v_properMany, .ref q_line, .ref q_order, .int v_orderMany, .ref q_then, .ref q_bestOrder, .ref q_lineThen, .ref q_undos, .ref q_was, .int o_639.1, .int v_drawn, .ref q_kept, .ref q_isKept])), (q_now, .inl (cJ, 120, .inr (.inl o_641))), (q_undos, .inl (cJ, 960, .inr (.inl o_639.2.1))), (q_was, .inl (cJ, 120, .inr (.inl o_639.2.2)))]) [2, 3, 0, 1] (by decide) rfl
            refine lv_iconst (v := 0) hx hb dX10_carries_119 (by decide) ?_
            rw [hQQ]
            have ho := Option.some.inj h
            subst ho
            exact W.iret hx hb hr (fun t ht hW => ⟨⟨_, (), rfl, rfl, by rw [ht]; exact hP, va_K.moved hW.alike hK, hD⟩, hS.F ht⟩) hS.2.2 dX10_carries_120
          · replace h := on c_638 h
            refine lv_bipush (v := -10) hx hb dX10_carries_98 (by decide) ?_
            refine lv_iload hx hb dX10_carries_100 (lv_at hl 0 rfl) ?_
            refine lv_isub hx hb dX10_carries_102 ?_
            rw [hQQ]
            have ho := Option.some.inj h
            subst ho
            exact W.iret hx hb hr (fun t ht hW => ⟨⟨_, (), rfl, rfl, by rw [ht]; exact hP, va_K.moved hW.alike hK, hD⟩, hS.F ht⟩) hS.2.2 dX10_carries_103
        · replace h := on c_625 h
          refine lv_iload hx hb dX10_carries_49 (lv_at hl 0 rfl) ?_
          refine lv_ineg hx hb dX10_carries_51 ?_
          rw [hQQ]
          have ho := Option.some.inj h
          subst ho
          exact W.iret hx hb hr (fun t ht hW => ⟨⟨_, (), rfl, rfl, by rw [ht]; exact hP, va_K.moved hW.alike hK, hD⟩, hS.F ht⟩) hS.2.2 dX10_carries_52
      · replace h := op c_622 h
        refine lv_iconst (v := -1) hx hb dX10_carries_32 (by decide) ?_
        rw [hQQ]
        have ho := Option.some.inj h
        subst ho
        exact W.iret hx hb hr (fun t ht hW => ⟨⟨_, (), rfl, rfl, by rw [ht]; exact hP, va_K.moved hW.alike hK, hD⟩, hS.F ht⟩) hS.2.2 dX10_carries_33
def L_X10_ways_22 (v_now : (Nat → Int64)) (x1 : Int32) : Nat → Int32 → Int32 → Int32 → Option (Int32 × Int32)
  | 0, _, _, _ => none
  | n+1, x2_22, x3_22, x4_22 => (if (8 : Int32) ≤ x4_22 then (some (x2_22, x3_22)) else ((f_X10_whyTaken v_now x1 (0 : Int32) x4_22).bind (fun o_647 => (((if o_647 = 0 then (some ((1 : Int32) <<< (x4_22 &&& 31))) else (some (0 : Int32)))).bind (fun v_649 => ((f_X10_kindOf v_now x1).bind (fun o_652 => ((f_X10_canHold o_652 x4_22).bind (fun o_654 => ((f_X10_whyNot v_now x1 (0 : Int32) x4_22 (b2i o_654)).bind (fun o_656 => (if o_656 = 0 then (L_X10_ways_22 v_now x1 n (x2_22 ||| v_649) (x3_22 ||| ((1 : Int32) <<< (x4_22 &&& 31))) (x4_22 + 1)) else (L_X10_ways_22 v_now x1 n (x2_22 ||| v_649) (x3_22 ||| (0 : Int32)) (x4_22 + 1))))))))))))))
def f_X10_ways (v_rowMany : Int32) (v_now : Nat → Int64) (v_row : Nat → Int64) (x1 : Int32) : Option (Int32 × Int32 × Int32 × (Nat → Int64)) :=
  ((f_X10_isColumn v_now x1).bind (fun o_643 => (if (b2i o_643) = 0 then (some ((-1 : Int32), v_rowMany, (0 : Int32), v_row)) else ((L_X10_ways_22 v_now x1 fu (0 : Int32) (0 : Int32) (0 : Int32)).bind (fun w_659 => ((f_X10_tell (0 : Int32) v_row (w_659.2).toInt64).bind (fun o_660 => (some (w_659.1, o_660.1, (0 : Int32), o_660.2)))))))))
abbrev rm_X10_ways : Room := { frames := 4, cells := 0, slots := 0, locals := 91 }
set_option maxHeartbeats 4000000 in
set_option maxRecDepth 100000 in
theorem c_X10_ways (l : Launch) (dC : Nat → ClassId) (dI : Nat → Nat → Nat) (cB cC cI cJ cZ cT : ClassId) (h0 q_now q_text q_row q_read q_ranks q_distinct q_proper q_line q_order q_then q_bestOrder q_lineThen q_undos q_was q_kept q_isKept : Nat) (sz : Nat) (v_typed : Int32) (v_rowMany : Int32) (v_thrown : Int32) (v_length : Int32) (v_at : Int32) (v_wrong : Int32) (v_properMany : Int32) (v_orderMany : Int32) (v_undoMany : Int32) (v_drawn : Int32) (v_now : Nat → Int64) (v_row : Nat → Int64) (x1 : Int32) (o : (Int32 × Int32 × Int32 × (Nat → Int64))) (hf : f_X10_ways v_rowMany v_now v_row x1 = some o) : Met l yX10_ways wsX10_ways rm_X10_ways (va_Pc [.ref h0, .int x1] (fun U => U.heap.size = sz ∧ va_P (dC, dI) vwCl [(h0, .inr (8, [.ref q_now, .ref q_text, .int v_typed, .ref q_row, .int v_rowMany, .int v_thrown, .int v_length, .int v_at, .int v_wrong, .ref q_read, .ref q_ranks, .ref q_distinct, .ref q_proper, .int v_properMany, .ref q_line, .ref q_order, .int v_orderMany, .ref q_then, .ref q_bestOrder, .ref q_lineThen, .ref q_undos, .ref q_was, .int v_undoMany, .int v_drawn, .ref q_kept, .ref q_isKept])), (q_now, .inl (cJ, 120, .inr (.inl v_now))), (q_row, .inl (cJ, 64, .inr (.inl v_row)))] U.heap ∧ va_K (dC, dI) vwCl (tyA cB cC cI cJ cZ cT) U ∧ va_D (fun _ => True) [(h0, .inr (8, [.ref q_now, .ref q_text, .int v_typed, .ref q_row, .int v_rowMany, .int v_thrown, .int v_length, .int v_at, .int v_wrong, .ref q_read, .ref q_ranks, .ref q_distinct, .ref q_proper, .int v_properMany, .ref q_line, .ref q_order, .int v_orderMany, .ref q_then, .ref q_bestOrder, .ref q_lineThen, .ref q_undos, .ref q_was, .int v_undoMany, .int v_drawn, .ref q_kept, .ref q_isKept])), (q_now, .inl (cJ, 120, .inr (.inl v_now))), (q_row, .inl (cJ, 64, .inr (.inl v_row)))] ∧ SX (va_A [(h0, .inr (8, [.ref q_now, .ref q_text, .int v_typed, .ref q_row, .int v_rowMany, .int v_thrown, .int v_length, .int v_at, .int v_wrong, .ref q_read, .ref q_ranks, .ref q_distinct, .ref q_proper, .int v_properMany, .ref q_line, .ref q_order, .int v_orderMany, .ref q_then, .ref q_bestOrder, .ref q_lineThen, .ref q_undos, .ref q_was, .int v_undoMany, .int v_drawn, .ref q_kept, .ref q_isKept])), (q_now, .inl (cJ, 120, .inr (.inl v_now))), (q_row, .inl (cJ, 64, .inr (.inl v_row)))] sz) U U.heap)) (va_Qi (fun (r : Int32) (_ : Unit) => o.1 = r) (fun _ t => va_P (dC, dI) vwCl [(h0, .inr (8, [.ref q_now, .ref q_text, .int v_typed, .ref q_row, .int o.2.1, .int o.2.2.1, .int v_length, .int v_at, .int v_wrong, .ref q_read, .ref q_ranks, .ref q_distinct, .ref q_proper, .int v_properMany, .ref q_line, .ref q_order, .int v_orderMany, .ref q_then, .ref q_bestOrder, .ref q_lineThen, .ref q_undos, .ref q_was, .int v_undoMany, .int v_drawn, .ref q_kept, .ref q_isKept])), (q_now, .inl (cJ, 120, .inr (.inl v_now))), (q_row, .inl (cJ, 64, .inr (.inl o.2.2.2)))] t.heap ∧ va_K (dC, dI) vwCl (tyA cB cC cI cJ cZ cT) t ∧ va_D (va_A [(h0, .inr (8, [.ref q_now, .ref q_text, .int v_typed, .ref q_row, .int v_rowMany, .int v_thrown, .int v_length, .int v_at, .int v_wrong, .ref q_read, .ref q_ranks, .ref q_distinct, .ref q_proper, .int v_properMany, .ref q_line, .ref q_order, .int v_orderMany, .ref q_then, .ref q_bestOrder, .ref q_lineThen, .ref q_undos, .ref q_was, .int v_undoMany, .int v_drawn, .ref q_kept, .ref q_isKept])), (q_now, .inl (cJ, 120, .inr (.inl v_now))), (q_row, .inl (cJ, 64, .inr (.inl v_row)))] sz) [(h0, .inr (8, [.ref q_now, .ref q_text, .int v_typed, .ref q_row, .int o.2.1, .int o.2.2.1, .int v_length, .int v_at, .int v_wrong, .ref q_read, .ref q_ranks, .ref q_distinct, .ref q_proper, .int v_properMany, .ref q_line, .ref q_order, .int v_orderMany, .ref q_then, .ref q_bestOrder, .ref q_lineThen, .ref q_undos, .ref q_was, .int v_undoMany, .int v_drawn, .ref q_kept, .ref q_isKept])), (q_now, .inl (cJ, 120, .inr (.inl v_now))), (q_row, .inl (cJ, 64, .inr (.inl o.2.2.2)))]) (va_A [(h0, .inr (8, [.ref q_now, .ref q_text, .int v_typed, .ref q_row, .int v_rowMany, .int v_thrown, .int v_length, .int v_at, .int v_wrong, .ref q_read, .ref q_ranks, .ref q_distinct, .ref q_proper, .int v_properMany, .ref q_line, .ref q_order, .int v_orderMany, .ref q_then, .ref q_bestOrder, .ref q_lineThen, .ref q_undos, .ref q_was, .int v_undoMany, .int v_drawn, .ref q_kept, .ref q_isKept])), (q_now, .inl (cJ, 120, .inr (.inl v_now))), (q_row, .inl (cJ, 64, .inr (.inl v_row)))] sz)) 0 0 (va_A [(h0, .inr (8, [.ref q_now, .ref q_text, .int v_typed, .ref q_row, .int v_rowMany, .int v_thrown, .int v_length, .int v_at, .int v_wrong, .ref q_read, .ref q_ranks, .ref q_distinct, .ref q_proper, .int v_properMany, .ref q_line, .ref q_order, .int v_orderMany, .ref q_then, .ref q_bestOrder, .ref q_lineThen, .ref q_undos, .ref q_was, .int v_undoMany, .int v_drawn, .ref q_kept, .ref q_isKept])), (q_now, .inl (cJ, 120, .inr (.inl v_now))), (q_row, .inl (cJ, 64, .inr (.inl v_row)))] sz) := by
  refine Met.ofW (cc := cX10_ways) (maxL := 5) (ret := (some .int)) (by decide +kernel) rfl ?_
  intro p e s m args below meth c s₁ B hml hv
  obtain ⟨hav, hsz, hP, hK, hD0, hX⟩ := hv
  have hx := B.exec
  have hb := B.bytes
  have hr := B.returns
  have hts := atoms_spec (ws := wsX10_ways) B.pre
  have hown : s.vm.findClass RX10 = some m.cls := findClass_of_methodNamed B.named
  have hlocks := B.notSynchronized
  subst hsz
  have hD := hD0.self (sz := s.heap.size)
  generalize hAe : va_A [(h0, .inr (8, [.ref q_now, .ref q_text, .int v_typed, .ref q_row, .int v_rowMany, .int v_thrown, .int v_length, .int v_at, .int v_wrong, .ref q_read, .ref q_ranks, .ref q_distinct, .ref q_proper, .int v_properMany, .ref q_line, .ref q_order, .int v_orderMany, .ref q_then, .ref q_bestOrder, .ref q_lineThen, .ref q_undos, .ref q_was, .int v_undoMany, .int v_drawn, .ref q_kept, .ref q_isKept])), (q_now, .inl (cJ, 120, .inr (.inl v_now))), (q_row, .inl (cJ, 64, .inr (.inl v_row)))] s.heap.size = A at hD hX ⊢
  have hA : ∀ q : Nat, s.heap.size ≤ q → A q := fun q h => by rw [← hAe]; exact Or.inr h
  have hS : va_S A s.heap s.heap [] := va_S.rf
  refine wstart (rm := rm_X10_ways) hav (Nat.le_of_ble_eq_true rfl) (fun QQ ls hQQ hl => ?_)
  have hl : lv_has ls 5 [(0, .ref h0), (1, .int x1)] := hl
  have hi_X10 : ∀ w ∈ u_ws RX10 TX10 26, w ∈ wsX10_ways := by decide +kernel
  have h := hf
  unfold f_X10_ways at h
  refine lv_aload_n hx hb dX10_ways_0 rfl (lv_at hl 0 rfl) ?_
  refine lv_iconst (v := 0) hx hb dX10_ways_1 (by decide) ?_
  refine va_put (D := (dC, dI)) (ci := 8) (v := .int (0 : Int32)) (ty := .int) (C := RX10) (T := TX10) (N := 26) hx hb hts hi_X10 tyX10 tyX10_ok nmX10 hown hK hP hD hS 0 rfl rfl 5 (by decide) (hts _ (List.mem_of_getElem? (i := 1) rfl)) (fun _ h9 => h9) rfl (by decide +kernel) rfl rfl (Nat.le_of_ble_eq_true rfl) dX10_ways_2 (fun H locs hP hD hS => ?_)
  replace hP : va_P (dC, dI) vwCl [(h0, .inr (8, [.ref q_now, .ref q_text, .int v_typed, .ref q_row, .int v_rowMany, .int (0 : Int32), .int v_length, .int v_at, .int v_wrong, .ref q_read, .ref q_ranks, .ref q_distinct, .ref q_proper, .int v_properMany, .ref q_line, .ref q_order, .int v_orderMany, .ref q_then, .ref q_bestOrder, .ref q_lineThen, .ref q_undos, .ref q_was, .int v_undoMany, .int v_drawn, .ref q_kept, .ref q_isKept])), (q_now, .inl (cJ, 120, .inr (.inl v_now))), (q_row, .inl (cJ, 64, .inr (.inl v_row)))] H := hP
  replace hD : va_D A [(h0, .inr (8, [.ref q_now, .ref q_text, .int v_typed, .ref q_row, .int v_rowMany, .int (0 : Int32), .int v_length, .int v_at, .int v_wrong, .ref q_read, .ref q_ranks, .ref q_distinct, .ref q_proper, .int v_properMany, .ref q_line, .ref q_order, .int v_orderMany, .ref q_then, .ref q_bestOrder, .ref q_lineThen, .ref q_undos, .ref q_was, .int v_undoMany, .int v_drawn, .ref q_kept, .ref q_isKept])), (q_now, .inl (cJ, 120, .inr (.inl v_now))), (q_row, .inl (cJ, 64, .inr (.inl v_row)))] := hD
  refine lv_aload_n hx hb dX10_ways_5 rfl (lv_at hl 0 rfl) ?_
  refine lv_iload_n hx hb dX10_ways_6 rfl (lv_at hl 1 rfl) ?_
  obtain ⟨o_643, hr_643, h⟩ := ob h
  refine vp_callSi (va_Run.run (va_runV (As := [.int x1]) (rest := []) ⟨hx, hb, hml, hown, hts⟩ (c_X10_isColumn l dC dI cB cC cI cJ cZ cT h0 q_now q_text q_row q_read q_ranks q_distinct q_proper q_line q_order q_then q_bestOrder q_lineThen q_undos q_was q_kept q_isKept v_typed v_rowMany (0 : Int32) v_length v_at v_wrong v_properMany v_orderMany v_undoMany v_drawn v_now x1 o_643 hr_643) (cwV 1 hts gX10_ways_X10_isColumn rfl rfl rfl (by decide +kernel) ⟨Nat.le_of_ble_eq_true rfl, Nat.le_of_ble_eq_true rfl⟩) ⟨blR, va_recv hK hP (ci := 8) (q0 := 0) rfl rfl, fun U hU hW => ⟨rfl, by rw [hU]; exact hP.sub [0, 1] rfl, va_K.moved hW.alike hK⟩⟩ rfl rfl hl.1 rfl (lv_room (Nat.le_of_ble_eq_true rfl)) dX10_ways_7 ⟨Nat.le_of_ble_eq_true rfl, Nat.le_of_ble_eq_true rfl⟩)) (fun r_643 e_643 => ?_)
  subst e_643
  refine lv_if_ne (tgt := 15) hx hb dX10_ways_10 (by decide) (fun c_645 => ?_) (fun c_645 => ?_)
  · replace h := on c_645 h
    refine lv_iconst (v := 0) hx hb dX10_ways_15 (by decide) ?_
    refine lv_istore_n (lv' := [(2, .int (0 : Int32)), (0, .ref h0), (1, .int x1)]) hx hb dX10_ways_16 rfl hl (by decide) rfl (fun ls hl => ?_)
    refine lv_iconst (v := 0) hx hb dX10_ways_17 (by decide) ?_
    refine lv_istore_n (lv' := [(3, .int (0 : Int32)), (2, .int (0 : Int32)), (0, .ref h0), (1, .int x1)]) hx hb dX10_ways_18 rfl hl (by decide) rfl (fun ls hl => ?_)
    refine lv_iconst (v := 0) hx hb dX10_ways_19 (by decide) ?_
    refine lv_istore (lv' := [(4, .int (0 : Int32)), (3, .int (0 : Int32)), (2, .int (0 : Int32)), (0, .ref h0), (1, .int x1)]) hx hb dX10_ways_20 hl (by decide) rfl (fun ls hl => ?_)
    have LP_659 : ∀ (n : Nat) (x2_22 : Int32) (x3_22 : Int32) (x4_22 : Int32) (w : (Int32 × Int32)) (H : Heap) (locs : List Loc) (ls : Array Slot), L_X10_ways_22 v_now x1 n x2_22 x3_22 x4_22 = some w → va_P (dC, dI) vwCl [(h0, .inr (8, [.ref q_now, .ref q_text, .int v_typed, .ref q_row, .int v_rowMany, .int (0 : Int32), .int v_length, .int v_at, .int v_wrong, .ref q_read, .ref q_ranks, .ref q_distinct, .ref q_proper, .int v_properMany, .ref q_line, .ref q_order, .int v_orderMany, .ref q_then, .ref q_bestOrder, .ref q_lineThen, .ref q_undos, .ref q_was, .int v_undoMany, .int v_drawn, .ref q_kept, .ref q_isKept])), (q_now, .inl (cJ, 120, .inr (.inl v_now))), (q_row, .inl (cJ, 64, .inr (.inl v_row)))] H → va_D A [(h0, .inr (8, [.ref q_now, .ref q_text, .int v_typed, .ref q_row, .int v_rowMany, .int (0 : Int32), .int v_length, .int v_at, .int v_wrong, .ref q_read, .ref q_ranks, .ref q_distinct, .ref q_proper, .int v_properMany, .ref q_line, .ref q_order, .int v_orderMany, .ref q_then, .ref q_bestOrder, .ref q_lineThen, .ref q_undos, .ref q_was, .int v_undoMany, .int v_drawn, .ref q_kept, .ref q_isKept])), (q_now, .inl (cJ, 120, .inr (.inl v_now))), (q_row, .inl (cJ, 64, .inr (.inl v_row)))] → va_S A s.heap H locs → lv_has ls 5 [(0, .ref h0), (1, .int x1), (2, .int x2_22), (3, .int x3_22), (4, .int x4_22)] → (∀ (H : Heap) (locs : List Loc) (ls : Array Slot), va_P (dC, dI) vwCl [(h0, .inr (8, [.ref q_now, .ref q_text, .int v_typed, .ref q_row, .int v_rowMany, .int (0 : Int32), .int v_length, .int v_at, .int v_wrong, .ref q_read, .ref q_ranks, .ref q_distinct, .ref q_proper, .int v_properMany, .ref q_line, .ref q_order, .int v_orderMany, .ref q_then, .ref q_bestOrder, .ref q_lineThen, .ref q_undos, .ref q_was, .int v_undoMany, .int v_drawn, .ref q_kept, .ref q_isKept])), (q_now, .inl (cJ, 120, .inr (.inl v_now))), (q_row, .inl (cJ, 64, .inr (.inl v_row)))] H → va_D A [(h0, .inr (8, [.ref q_now, .ref q_text, .int v_typed, .ref q_row, .int v_rowMany, .int (0 : Int32), .int v_length, .int v_at, .int v_wrong, .ref q_read, .ref q_ranks, .ref q_distinct, .ref q_proper, .int v_properMany, .ref q_line, .ref q_order, .int v_orderMany, .ref q_then, .ref q_bestOrder, .ref q_lineThen, .ref q_undos, .ref q_was, .int v_undoMany, .int v_drawn, .ref q_kept, .ref q_isKept])), (q_now, .inl (cJ, 120, .inr (.inl v_now))), (q_row, .inl (cJ, 64, .inr (.inl v_row)))] → va_S A s.heap H locs → lv_has ls 5 [(0, .ref h0), (2, .int w.1), (3, .int w.2)] → W p l e rm_X10_ways s m args below meth c H locs 0 0 QQ (F0 m 90 ls [])) → W p l e rm_X10_ways s m args below meth c H locs 0 0 QQ (F0 m 22 ls []) := by
      intro n
      induction n with
      | zero => intro x2_22 x3_22 x4_22 w H locs ls h; exact absurd (show none = some w from h) nofun
      | succ n ih =>
        intro x2_22 x3_22 x4_22 w H locs ls h hP hD hS hl K
        rw [L_X10_ways_22] at h
        refine lv_iload hx hb dX10_ways_22 (lv_at hl 4 rfl) ?_
        refine lv_bipush (v := 8) hx hb dX10_ways_24 (by decide) ?_
        refine lv_icmp_ge (tgt := 90) hx hb dX10_ways_26 (by decide) (fun c_646 => ?_) (fun c_646 => ?_)
        · replace h := op c_646 h
          have ho := Option.some.inj h
          subst ho
          exact K H _ ls hP hD hS (lv_sub hl [0, 2, 3] rfl)
        · replace h := on c_646 h
          refine lv_iload_n hx hb dX10_ways_29 rfl (lv_at hl 2 rfl) ?_
          refine lv_aload_n hx hb dX10_ways_30 rfl (lv_at hl 0 rfl) ?_
          refine lv_iload_n hx hb dX10_ways_31 rfl (lv_at hl 1 rfl) ?_
          refine lv_iconst (v := 0) hx hb dX10_ways_32 (by decide) ?_
          refine lv_iload hx hb dX10_ways_33 (lv_at hl 4 rfl) ?_
          obtain ⟨o_647, hr_647, h⟩ := ob h
          refine vp_callSi (va_Run.run (va_runV (As := [.int x1, .int (0 : Int32), .int x4_22]) (rest := [.int x2_22]) ⟨hx, hb, hml, hown, hts⟩ (c_X10_whyTaken l dC dI cB cC cI cJ cZ cT h0 q_now q_text q_row q_read q_ranks q_distinct q_proper q_line q_order q_then q_bestOrder q_lineThen q_undos q_was q_kept q_isKept v_typed v_rowMany (0 : Int32) v_length v_at v_wrong v_properMany v_orderMany v_undoMany v_drawn v_now x1 (0 : Int32) x4_22 o_647 hr_647) (cwV 3 hts gX10_ways_X10_whyTaken rfl rfl rfl (by decide +kernel) ⟨Nat.le_of_ble_eq_true rfl, Nat.le_of_ble_eq_true rfl⟩) ⟨blRX, va_recv hK hP (ci := 8) (q0 := 0) rfl rfl, fun U hU hW => ⟨rfl, by rw [hU]; exact hP.sub [0, 1] rfl, va_K.moved hW.alike hK, by rw [hU]; exact SX.use hW hS hX⟩⟩ rfl rfl hl.1 rfl (lv_room (Nat.le_of_ble_eq_true rfl)) dX10_ways_35 ⟨Nat.le_of_ble_eq_true rfl, Nat.le_of_ble_eq_true rfl⟩)) (fun r_647 e_647 => ?_)
          subst e_647
          obtain ⟨v_649, hv_649, h⟩ := ob h
          have J_649 : ∀ (H : Heap) (locs : List Loc) (ls : Array Slot), va_P (dC, dI) vwCl [(h0, .inr (8, [.ref q_now, .ref q_text, .int v_typed, .ref q_row, .int v_rowMany, .int (0 : Int32), .int v_length, .int v_at, .int v_wrong, .ref q_read, .ref q_ranks, .ref q_distinct, .ref q_proper, .int v_properMany, .ref q_line, .ref q_order, .int v_orderMany, .ref q_then, .ref q_bestOrder, .ref q_lineThen, .ref q_undos, .ref q_was, .int v_undoMany, .int v_drawn, .ref q_kept, .ref q_isKept])), (q_now, .inl (cJ, 120, .inr (.inl v_now))), (q_row, .inl (cJ, 64, .inr (.inl v_row)))] H → va_D A [(h0, .inr (8, [.ref q_now, .ref q_text, .int v_typed, .ref q_row, .int v_rowMany, .int (0 : Int32), .int v_length, .int v_at, .int v_wrong, .ref q_read, .ref q_ranks, .ref q_distinct, .ref q_proper, .int v_properMany, .ref q_line, .ref q_order, .int v_orderMany, .ref q_then, .ref q_bestOrder, .ref q_lineThen, .ref q_undos, .ref q_was, .int v_undoMany, .int v_drawn, .ref q_kept, .ref q_isKept])), (q_now, .inl (cJ, 120, .inr (.inl v_now))), (q_row, .inl (cJ, 64, .inr (.inl v_row)))] → va_S A s.heap H locs → lv_has ls 5 [(0, .ref h0), (1, .int x1), (3, .int x3_22), (4, .int x4_22)] → W p l e rm_X10_ways s m args below meth c H locs 0 0 QQ (F0 m 49 ls [.int v_649, .int x2_22]) := by
            intro H locs ls hP hD hS hl
            refine lv_ior hx hb dX10_ways_49 ?_
            refine lv_istore_n (lv' := [(2, .int (x2_22 ||| v_649)), (0, .ref h0), (1, .int x1), (3, .int x3_22), (4, .int x4_22)]) hx hb dX10_ways_50 rfl hl (by decide) rfl (fun ls hl => ?_)
            refine lv_iload_n hx hb dX10_ways_51 rfl (lv_at hl 3 rfl) ?_
            refine lv_aload_n hx hb dX10_ways_52 rfl (lv_at hl 1 rfl) ?_
            refine lv_iload_n hx hb dX10_ways_53 rfl (lv_at hl 2 rfl) ?_
            refine lv_iconst (v := 0) hx hb dX10_ways_54 (by decide) ?_
            refine lv_iload hx hb dX10_ways_55 (lv_at hl 4 rfl) ?_
            refine lv_aload_n hx hb dX10_ways_57 rfl (lv_at hl 1 rfl) ?_
            refine lv_aload_n hx hb dX10_ways_58 rfl (lv_at hl 1 rfl) ?_
            refine lv_iload_n hx hb dX10_ways_59 rfl (lv_at hl 2 rfl) ?_
            obtain ⟨o_652, hr_652, h⟩ := ob h
            refine vp_callSi (va_Run.run (va_runV (As := [.int x1]) (rest := [.ref h0, .int x4_22, .int (0 : Int32), .int x1, .ref h0, .int x3_22]) ⟨hx, hb, hml, hown, hts⟩ (c_X10_kindOf l dC dI cB cC cI cJ cZ cT h0 q_now q_text q_row q_read q_ranks q_distinct q_proper q_line q_order q_then q_bestOrder q_lineThen q_undos q_was q_kept q_isKept v_typed v_rowMany (0 : Int32) v_length v_at v_wrong v_properMany v_orderMany v_undoMany v_drawn v_now x1 o_652 hr_652) (cwV 1 hts gX10_ways_X10_kindOf rfl rfl rfl (by decide +kernel) ⟨Nat.le_of_ble_eq_true rfl, Nat.le_of_ble_eq_true rfl⟩) ⟨blR, va_recv hK hP (ci := 8) (q0 := 0) rfl rfl, fun U hU hW => ⟨rfl, by rw [hU]; exact hP.sub [0, 1] rfl, va_K.moved hW.alike hK⟩⟩ rfl rfl hl.1 rfl (lv_room (Nat.le_of_ble_eq_true rfl)) dX10_ways_60 ⟨Nat.le_of_ble_eq_true rfl, Nat.le_of_ble_eq_true rfl⟩)) (fun r_652 e_652 => ?_)
            subst e_652
            refine lv_iload hx hb dX10_ways_63 (lv_at hl 4 rfl) ?_
            obtain ⟨o_654, hr_654, h⟩ := ob h
            refine vp_callSi (va_Run.run (va_runV (As := [.int o_652, .int x4_22]) (rest := [.int x4_22, .int (0 : Int32), .int x1, .ref h0, .int x3_22]) ⟨hx, hb, hml, hown, hts⟩ (c_X10_canHold l dC dI cB cC cI cJ cZ cT h0 o_652 x4_22 o_654 hr_654) (cwV 2 hts gX10_ways_X10_canHold rfl rfl rfl (by decide +kernel) ⟨Nat.le_of_ble_eq_true rfl, Nat.le_of_ble_eq_true rfl⟩) ⟨blTX, va_recv hK hP (ci := 8) (q0 := 0) rfl rfl, fun U hU hW => ⟨rfl, by show SX (fun _ => False) U U.heap; rw [hU]; exact SX.use hW hS hX⟩⟩ rfl rfl hl.1 rfl (lv_room (Nat.le_of_ble_eq_true rfl)) dX10_ways_65 ⟨Nat.le_of_ble_eq_true rfl, Nat.le_of_ble_eq_true rfl⟩)) (fun r_654 e_654 => ?_)
            subst e_654
            obtain ⟨o_656, hr_656, h⟩ := ob h
            refine vp_callSi (va_Run.run (va_runV (As := [.int x1, .int (0 : Int32), .int x4_22, .int (b2i o_654)]) (rest := [.int x3_22]) ⟨hx, hb, hml, hown, hts⟩ (c_X10_whyNot l dC dI cB cC cI cJ cZ cT h0 q_now q_text q_row q_read q_ranks q_distinct q_proper q_line q_order q_then q_bestOrder q_lineThen q_undos q_was q_kept q_isKept v_typed v_rowMany (0 : Int32) v_length v_at v_wrong v_properMany v_orderMany v_undoMany v_drawn v_now x1 (0 : Int32) x4_22 (b2i o_654) o_656 hr_656) (cwV 4 hts gX10_ways_X10_whyNot rfl rfl rfl (by decide +kernel) ⟨Nat.le_of_ble_eq_true rfl, Nat.le_of_ble_eq_true rfl⟩) ⟨blR, va_recv hK hP (ci := 8) (q0 := 0) rfl rfl, fun U hU hW => ⟨rfl, by rw [hU]; exact hP.sub [0, 1] rfl, va_K.moved hW.alike hK⟩⟩ rfl rfl hl.1 rfl (lv_room (Nat.le_of_ble_eq_true rfl)) dX10_ways_68 ⟨Nat.le_of_ble_eq_true rfl, Nat.le_of_ble_eq_true rfl⟩)) (fun r_656 e_656 => ?_)
            subst e_656
            refine lv_if_ne (tgt := 81) hx hb dX10_ways_71 (by decide) (fun c_658 => ?_) (fun c_658 => ?_)
            · replace h := on c_658 h
              refine lv_iconst (v := 0) hx hb dX10_ways_81 (by decide) ?_
              refine lv_ior hx hb dX10_ways_82 ?_
              refine lv_istore_n (lv' := [(3, .int (x3_22 ||| (0 : Int32))), (2, .int (x2_22 ||| v_649)), (0, .ref h0), (1, .int x1), (4, .int x4_22)]) hx hb dX10_ways_83 rfl hl (by decide) rfl (fun ls hl => ?_)
              refine lv_iinc (v := (x4_22 + 1)) (lv' := [(4, .int (x4_22 + 1)), (3, .int (x3_22 ||| (0 : Int32))), (2, .int (x2_22 ||| v_649)), (0, .ref h0), (1, .int x1)]) hx hb dX10_ways_84 hl (k := 4) rfl (by rfl) (by decide) rfl (fun ls hl => ?_)
              refine lv_goto (tgt := 22) hx hb dX10_ways_87 (by decide) ?_
              exact ih (x2_22 ||| v_649) (x3_22 ||| (0 : Int32)) (x4_22 + 1) w H _ ls h hP hD hS (lv_sub hl [3, 4, 2, 1, 0] rfl) K
            · replace h := op c_658 h
              refine lv_iconst (v := 1) hx hb dX10_ways_74 (by decide) ?_
              refine lv_iload hx hb dX10_ways_75 (lv_at hl 4 rfl) ?_
              refine lv_ishl hx hb dX10_ways_77 ?_
              refine lv_goto (tgt := 82) hx hb dX10_ways_78 (by decide) ?_
              refine lv_ior hx hb dX10_ways_82 ?_
              refine lv_istore_n (lv' := [(3, .int (x3_22 ||| ((1 : Int32) <<< (x4_22 &&& 31)))), (2, .int (x2_22 ||| v_649)), (0, .ref h0), (1, .int x1), (4, .int x4_22)]) hx hb dX10_ways_83 rfl hl (by decide) rfl (fun ls hl => ?_)
              refine lv_iinc (v := (x4_22 + 1)) (lv' := [(4, .int (x4_22 + 1)), (3, .int (x3_22 ||| ((1 : Int32) <<< (x4_22 &&& 31)))), (2, .int (x2_22 ||| v_649)), (0, .ref h0), (1, .int x1)]) hx hb dX10_ways_84 hl (k := 4) rfl (by rfl) (by decide) rfl (fun ls hl => ?_)
              refine lv_goto (tgt := 22) hx hb dX10_ways_87 (by decide) ?_
              exact ih (x2_22 ||| v_649) (x3_22 ||| ((1 : Int32) <<< (x4_22 &&& 31))) (x4_22 + 1) w H _ ls h hP hD hS (lv_sub hl [3, 4, 2, 1, 0] rfl) K
          replace h := hv_649
          refine lv_if_ne (tgt := 48) hx hb dX10_ways_38 (by decide) (fun c_651 => ?_) (fun c_651 => ?_)
          · replace h := on c_651 h
            refine lv_iconst (v := 0) hx hb dX10_ways_48 (by decide) ?_
            have ho := Option.some.inj h
            subst ho
            exact J_649 H _ ls hP hD hS (lv_sub hl [0, 1, 3, 4] rfl)
          · replace h := op c_651 h
            refine lv_iconst (v := 1) hx hb dX10_ways_41 (by decide) ?_
            refine lv_iload hx hb dX10_ways_42 (lv_at hl 4 rfl) ?_
            refine lv_ishl hx hb dX10_ways_44 ?_
            refine lv_goto (tgt := 49) hx hb dX10_ways_45 (by decide) ?_
            have ho := Option.some.inj h
            subst ho
            exact J_649 H _ ls hP hD hS (lv_sub hl [0, 1, 3, 4] rfl)
    obtain ⟨w_659, hw_659, h⟩ := ob h
    refine LP_659 fu (0 : Int32) (0 : Int32) (0 : Int32) w_659 H _ ls hw_659 hP hD hS (lv_sub hl [3, 4, 2, 1, 0] rfl) (fun H locs ls hP hD hS hl => ?_)
    refine lv_aload_n hx hb dX10_ways_90 rfl (lv_at hl 0 rfl) ?_
    refine lv_iconst (v := 0) hx hb dX10_ways_91 (by decide) ?_
    refine va_put (D := (dC, dI)) (ci := 8) (v := .int (0 : Int32)) (ty := .int) (C := RX10) (T := TX10) (N := 26) hx hb hts hi_X10 tyX10 tyX10_ok nmX10 hown hK hP hD hS 0 rfl rfl 4 (by decide) (hts _ (List.mem_of_getElem? (i := 2) rfl)) (fun _ h9 => h9) rfl (by decide +kernel) rfl rfl (Nat.le_of_ble_eq_true rfl) dX10_ways_92 (fun H locs hP hD hS => ?_)
    replace hP : va_P (dC, dI) vwCl [(h0, .inr (8, [.ref q_now, .ref q_text, .int v_typed, .ref q_row, .int (0 : Int32), .int (0 : Int32), .int v_length, .int v_at, .int v_wrong, .ref q_read, .ref q_ranks, .ref q_distinct, .ref q_proper, .int v_properMany, .ref q_line, .ref q_order, .int v_orderMany, .ref q_then, .ref q_bestOrder, .ref q_lineThen, .ref q_undos, .ref q_was, .int v_undoMany, .int v_drawn, .ref q_kept, .ref q_isKept])), (q_now, .inl (cJ, 120, .inr (.inl v_now))), (q_row, .inl (cJ, 64, .inr (.inl v_row)))] H := hP
    replace hD : va_D A [(h0, .inr (8, [.ref q_now, .ref q_text, .int v_typed, .ref q_row, .int (0 : Int32), .int (0 : Int32), .int v_length, .int v_at, .int v_wrong, .ref q_read, .ref q_ranks, .ref q_distinct, .ref q_proper, .int v_properMany, .ref q_line, .ref q_order, .int v_orderMany, .ref q_then, .ref q_bestOrder, .ref q_lineThen, .ref q_undos, .ref q_was, .int v_undoMany, .int v_drawn, .ref q_kept, .ref q_isKept])), (q_now, .inl (cJ, 120, .inr (.inl v_now))), (q_row, .inl (cJ, 64, .inr (.inl v_row)))] := hD
    refine lv_aload_n hx hb dX10_ways_95 rfl (lv_at hl 0 rfl) ?_
    refine lv_iload_n hx hb dX10_ways_96 rfl (lv_at hl 2 rfl) ?_
    refine lv_i2l (v := (w_659.2).toInt64) hx hb dX10_ways_97 rfl ?_
    obtain ⟨o_660, hr_660, h⟩ := ob h
    have hPc := hP.sub (ws' := [(h0, .inr (8, [.ref q_now, .ref q_text, .int v_typed, .ref q_row, .int (0 : Int32), .int (0 : Int32), .int v_length, .int v_at, .int v_wrong, .ref q_read, .ref q_ranks, .ref q_distinct, .ref q_proper, .int v_properMany, .ref q_line, .ref q_order, .int v_orderMany, .ref q_then, .ref q_bestOrder, .ref q_lineThen, .ref q_undos, .ref q_was, .int v_undoMany, .int v_drawn, .ref q_kept, .ref q_isKept])), (q_row, .inl (cJ, 64, .inr (.inl v_row)))]) [0, 2] rfl
    have hDc := hD.sub (ws' := [(h0, .inr (8, [.ref q_now, .ref q_text, .int v_typed, .ref q_row, .int (0 : Int32), .int (0 : Int32), .int v_length, .int v_at, .int v_wrong, .ref q_read, .ref q_ranks, .ref q_distinct, .ref q_proper, .int v_properMany, .ref q_line, .ref q_order, .int v_orderMany, .ref q_then, .ref q_bestOrder, .ref q_lineThen, .ref q_undos, .ref q_was, .int v_undoMany, .int v_drawn, .ref q_kept, .ref q_isKept])), (q_row, .inl (cJ, 64, .inr (.inl v_row)))]) [0, 2] (by decide) rfl
    have hFc := va_free (wc := [(h0, .inr (8, [.ref q_now, .ref q_text, .int v_typed, .ref q_row, .int (0 : Int32), .int (0 : Int32), .int v_length, .int v_at, .int v_wrong, .ref q_read, .ref q_ranks, .ref q_distinct, .ref q_proper, .int v_properMany, .ref q_line, .ref q_order, .int v_orderMany, .ref q_then, .ref q_bestOrder, .ref q_lineThen, .ref q_undos, .ref q_was, .int v_undoMany, .int v_drawn, .ref q_kept, .ref q_isKept])), (q_row, .inl (cJ, 64, .inr (.inl v_row)))]) hD hS hA [0, 2] rfl
    refine va_callv (va_runV (As := [.long (w_659.2).toInt64]) (rest := []) ⟨hx, hb, hml, hown, hts⟩ (c_X10_tell l dC dI cB cC cI cJ cZ cT h0 q_now q_text q_row q_read q_ranks q_distinct q_proper q_line q_order q_then q_bestOrder q_lineThen q_undos q_was q_kept q_isKept H.size v_typed (0 : Int32) (0 : Int32) v_length v_at v_wrong v_properMany v_orderMany v_undoMany v_drawn v_row (w_659.2).toInt64 o_660 hr_660) (cwV 1 hts gX10_ways_X10_tell rfl rfl rfl (by decide +kernel) ⟨Nat.le_of_ble_eq_true rfl, Nat.le_of_ble_eq_true rfl⟩) ⟨blW, va_recv hK hP (ci := 8) (q0 := 0) rfl rfl, fun U hU hW => ⟨rfl, by rw [hU], by rw [hU]; exact hPc, va_K.moved hW.alike hK, hDc.weaken (fun _ _ _ _ => trivial)⟩⟩ rfl rfl hl.1 rfl (lv_room (Nat.le_of_ble_eq_true rfl)) dX10_ways_98 ⟨Nat.le_of_ble_eq_true rfl, Nat.le_of_ble_eq_true rfl⟩) hS (fun q _ h => hFc q h) hFc (fun u_660 t_660 H locs ht hvm e_660 hB hz1 hk1 hS => ?_)
    obtain ⟨hP1, -, hD1⟩ := hB
    rw [ht] at hP1
    obtain ⟨hP, hD⟩ := va_join (wr := [(q_now, .inl (cJ, 120, .inr (.inl v_now)))]) (w1 := [(h0, .inr (8, [.ref q_now, .ref q_text, .int v_typed, .ref q_row, .int o_660.1, .int (0 : Int32), .int v_length, .int v_at, .int v_wrong, .ref q_read, .ref q_ranks, .ref q_distinct, .ref q_proper, .int v_properMany, .ref q_line, .ref q_order, .int v_orderMany, .ref q_then, .ref q_bestOrder, .ref q_lineThen, .ref q_undos, .ref q_was, .int v_undoMany, .int v_drawn, .ref q_kept, .ref q_isKept])), (q_row, .inl (cJ, 64, .inr (.inl o_660.2)))]) hP hD [0, 2] [1] rfl rfl (by decide) (by decide) hk1 hFc hP1 hD1
    replace hP := hP.sub (ws' := [(h0, .inr (8, [.ref q_now, .ref q_text, .int v_typed, .ref q_row, .int o_660.1, .int (0 : Int32), .int v_length, .int v_at, .int v_wrong, .ref q_read, .ref q_ranks, .ref q_distinct, .ref q_proper, .int v_properMany, .ref q_line, .ref q_order, .int v_orderMany, .ref q_then, .ref q_bestOrder, .ref q_lineThen, .ref q_undos, .ref q_was, .int v_undoMany, .int v_drawn, .ref q_kept, .ref q_isKept])), (q_now, .inl (cJ, 120, .inr (.inl v_now))), (q_row, .inl (cJ, 64, .inr (.inl o_660.2)))]) [1, 0, 2] rfl
    replace hD := hD.sub (ws' := [(h0, .inr (8, [.ref q_now, .ref q_text, .int v_typed, .ref q_row, .int o_660.1, .int (0 : Int32), .int v_length, .int v_at, .int v_wrong, .ref q_read, .ref q_ranks, .ref q_distinct, .ref q_proper, .int v_properMany, .ref q_line, .ref q_order, .int v_orderMany, .ref q_then, .ref q_bestOrder, .ref q_lineThen, .ref q_undos, .ref q_was, .int v_undoMany, .int v_drawn, .ref q_kept, .ref q_isKept])), (q_now, .inl (cJ, 120, .inr (.inl v_now))), (q_row, .inl (cJ, 64, .inr (.inl o_660.2)))]) [1, 0, 2] (by decide) rfl
    refine lv_iload_n hx hb dX10_ways_101 rfl (lv_at hl 1 rfl) ?_
    rw [hQQ]
    have ho := Option.some.inj h
    subst ho
    exact W.iret hx hb hr (fun t ht hW => ⟨⟨_, (), rfl, rfl, by rw [ht]; exact hP, va_K.moved hW.alike hK, hD⟩, hS.F ht⟩) hS.2.2 dX10_ways_102
  · replace h := op c_645 h
    refine lv_iconst (v := -1) hx hb dX10_ways_13 (by decide) ?_
    rw [hQQ]
    have ho := Option.some.inj h
    subst ho
    exact W.iret hx hb hr (fun t ht hW => ⟨⟨_, (), rfl, rfl, by rw [ht]; exact hP, va_K.moved hW.alike hK, hD⟩, hS.F ht⟩) hS.2.2 dX10_ways_14
