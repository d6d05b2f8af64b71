def L_X10_copies_40 (x1 : Int32) (x2 : Int32) : Nat → Int32 → Int32 → Int32 → (Nat → Int64) → Option (Int32 × Int32 × (Nat → Int64))
  | 0, _, _, _, _ => none
  | n+1, x4_40, x5_40, x6_40, v_now_40 => ((f_X10_rows v_now_40).bind (fun o_438 => (if o_438 ≤ x6_40 then (some (x4_40, x5_40, v_now_40)) else ((f_X10_wayOf v_now_40 x1 x6_40).bind (fun o_441 => ((f_X10_kindOf v_now_40 x2).bind (fun o_443 => ((f_X10_canHold o_443 o_441).bind (fun o_445 => (if (b2i o_445) = 0 then (L_X10_copies_40 x1 x2 n x4_40 (x5_40 ||| ((1 : Int32) <<< (x6_40 &&& 31))) (x6_40 + 1) v_now_40) else ((f_X10_cell v_now_40 x1 x6_40).bind (fun o_448 => ((f_X10_store v_now_40 x2 x6_40 o_441 o_448).bind (fun o_450 => (L_X10_copies_40 x1 x2 n (x4_40 + 1) x5_40 (x6_40 + 1) o_450)))))))))))))))
def f_X10_copies (v_rowMany : Int32) (v_undoMany : Int32) (v_now : Nat → Int64) (v_row : Nat → Int64) (v_undos : Nat → Int64) (v_was : Nat → Int64) (x1 : Int32) (x2 : Int32) : Option (Int32 × Int32 × Int32 × Int32 × (Nat → Int64) × (Nat → Int64) × (Nat → Int64) × (Nat → Int64)) :=
  (((if x1 = x2 then (some (-1 : Int32)) else ((f_X10_refusesBoth v_now x1 x2).bind (fun o_433 => (some o_433))))).bind (fun v_428 => (if 0 ≤ v_428 then ((f_X10_change v_undoMany v_now v_undos v_was).bind (fun o_436 => ((L_X10_copies_40 x1 x2 fu (0 : Int32) (0 : Int32) (0 : Int32) v_now).bind (fun w_452 => ((f_X10_tell (0 : Int32) v_row (w_452.2.1).toInt64).bind (fun o_453 => (some (w_452.1, o_453.1, (0 : Int32), o_436.1, w_452.2.2, o_453.2, o_436.2.1, o_436.2.2)))))))) else (some (v_428, v_rowMany, (0 : Int32), v_undoMany, v_now, v_row, v_undos, v_was)))))
abbrev rm_X10_copies : Room := { frames := 4, cells := 0, slots := 0, locals := 93 }
set_option maxHeartbeats 4000000 in
set_option maxRecDepth 100000 in
theorem c_X10_copies (l : Launch) (dC : Nat → ClassId) (dI : Nat → Nat → Nat) (cB cC cI cJ cZ cT : ClassId) (h0 q_now q_text q_row q_read q_ranks q_distinct q_proper q_line q_order q_then q_bestOrder q_lineThen q_undos q_was q_kept q_isKept : Nat) (sz : Nat) (v_typed : Int32) (v_rowMany : Int32) (v_thrown : Int32) (v_length : Int32) (v_at : Int32) (v_wrong : Int32) (v_properMany : Int32) (v_orderMany : Int32) (v_undoMany : Int32) (v_drawn : Int32) (v_now : Nat → Int64) (v_row : Nat → Int64) (v_undos : Nat → Int64) (v_was : Nat → Int64) (x1 : Int32) (x2 : Int32) (o : (Int32 × Int32 × Int32 × Int32 × (Nat → Int64) × (Nat → Int64) × (Nat → Int64) × (Nat → Int64))) (hf : f_X10_copies v_rowMany v_undoMany v_now v_row v_undos v_was x1 x2 = some o) : Met l yX10_copies wsX10_copies rm_X10_copies (va_Pc [.ref h0, .int x1, .int x2] (fun U => U.heap.size = sz ∧ va_P (dC, dI) vwCl [(h0, .inr (8, [.ref q_now, .ref q_text, .int v_typed, .ref q_row, .int v_rowMany, .int v_thrown, .int v_length, .int v_at, .int v_wrong, .ref q_read, .ref q_ranks, .ref q_distinct, .ref q_proper, .int v_properMany, .ref q_line, .ref q_order, .int v_orderMany, .ref q_then, .ref q_bestOrder, .ref q_lineThen, .ref q_undos, .ref q_was, .int v_undoMany, .int v_drawn, .ref q_kept, .ref q_isKept])), (q_now, .inl (cJ, 120, .inr (.inl v_now))), (q_row, .inl (cJ, 64, .inr (.inl v_row))), (q_undos, .inl (cJ, 960, .inr (.inl v_undos))), (q_was, .inl (cJ, 120, .inr (.inl v_was)))] U.heap ∧ va_K (dC, dI) vwCl (tyA cB cC cI cJ cZ cT) U ∧ va_D (fun _ => True) [(h0, .inr (8, [.ref q_now, .ref q_text, .int v_typed, .ref q_row, .int v_rowMany, .int v_thrown, .int v_length, .int v_at, .int v_wrong, .ref q_read, .ref q_ranks, .ref q_distinct, .ref q_proper, .int v_properMany, .ref q_line, .ref q_order, .int v_orderMany, .ref q_then, .ref q_bestOrder, .ref q_lineThen, .ref q_undos, .ref q_was, .int v_undoMany, .int v_drawn, .ref q_kept, .ref q_isKept])), (q_now, .inl (cJ, 120, .inr (.inl v_now))), (q_row, .inl (cJ, 64, .inr (.inl v_row))), (q_undos, .inl (cJ, 960, .inr (.inl v_undos))), (q_was, .inl (cJ, 120, .inr (.inl v_was)))] ∧ SX (va_A [(h0, .inr (8, [.ref q_now, .ref q_text, .int v_typed, .ref q_row, .int v_rowMany, .int v_thrown, .int v_length, .int v_at, .int v_wrong, .ref q_read, .ref q_ranks, .ref q_distinct, .ref q_proper, .int v_properMany, .ref q_line, .ref q_order, .int v_orderMany, .ref q_then, .ref q_bestOrder, .ref q_lineThen, .ref q_undos, .ref q_was, .int v_undoMany, .int v_drawn, .ref q_kept, .ref q_isKept])), (q_now, .inl (cJ, 120, .inr (.inl v_now))), (q_row, .inl (cJ, 64, .inr (.inl v_row))), (q_undos, .inl (cJ, 960, .inr (.inl v_undos))), (q_was, .inl (cJ, 120, .inr (.inl v_was)))] sz) U U.heap)) (va_Qi (fun (r : Int32) (_ : Unit) => o.1 = r) (fun _ t => va_P (dC, dI) vwCl [(h0, .inr (8, [.ref q_now, .ref q_text, .int v_typed, .ref q_row, .int o.2.1, .int o.2.2.1, .int v_length, .int v_at, .int v_wrong, .ref q_read, .ref q_ranks, .ref q_distinct, .ref q_proper, .int v_properMany, .ref q_line, .ref q_order, .int v_orderMany, .ref q_then, .ref q_bestOrder, .ref q_lineThen, .ref q_undos, .ref q_was, .int o.2.2.2.1, .int v_drawn, .ref q_kept, .ref q_isKept])), (q_now, .inl (cJ, 120, .inr (.inl o.2.2.2.2.1))), (q_row, .inl (cJ, 64, .inr (.inl o.2.2.2.2.2.1))), (q_undos, .inl (cJ, 960, .inr (.inl o.2.2.2.2.2.2.1))), (q_was, .inl (cJ, 120, .inr (.inl o.2.2.2.2.2.2.2)))] t.heap ∧ va_K (dC, dI) vwCl (tyA cB cC cI cJ cZ cT) t ∧ va_D (va_A [(h0, .inr (8, [.ref q_now, .ref q_text, .int v_typed, .ref q_row, .int v_rowMany, .int v_thrown, .int v_length, .int v_at, .int v_wrong, .ref q_read, .ref q_ranks, .ref q_distinct, .ref q_proper, .int v_properMany, .ref q_line, .ref q_order, .int v_orderMany, .ref q_then, .ref q_bestOrder, .ref q_lineThen, .ref q_undos, .ref q_was, .int v_undoMany, .int v_drawn, .ref q_kept, .ref q_isKept])), (q_now, .inl (cJ, 120, .inr (.inl v_now))), (q_row, .inl (cJ, 64, .inr (.inl v_row))), (q_undos, .inl (cJ, 960, .inr (.inl v_undos))), (q_was, .inl (cJ, 120, .inr (.inl v_was)))] sz) [(h0, .inr (8, [.ref q_now, .ref q_text, .int v_typed, .ref q_row, .int o.2.1, .int o.2.2.1, .int v_length, .int v_at, .int v_wrong, .ref q_read, .ref q_ranks, .ref q_distinct, .ref q_proper, .int v_properMany, .ref q_line, .ref q_order, .int v_orderMany, .ref q_then, .ref q_bestOrder, .ref q_lineThen, .ref q_undos, .ref q_was, .int o.2.2.2.1, .int v_drawn, .ref q_kept, .ref q_isKept])), (q_now, .inl (cJ, 120, .inr (.inl o.2.2.2.2.1))), (q_row, .inl (cJ, 64, .inr (.inl o.2.2.2.2.2.1))), (q_undos, .inl (cJ, 960, .inr (.inl o.2.2.2.2.2.2.1))), (q_was, .inl (cJ, 120, .inr (.inl o.2.2.2.2.2.2.2)))]) (va_A [(h0, .inr (8, [.ref q_now, .ref q_text, .int v_typed, .ref q_row, .int v_rowMany, .int v_thrown, .int v_length, .int v_at, .int v_wrong, .ref q_read, .ref q_ranks, .ref q_distinct, .ref q_proper, .int v_properMany, .ref q_line, .ref q_order, .int v_orderMany, .ref q_then, .ref q_bestOrder, .ref q_lineThen, .ref q_undos, .ref q_was, .int v_undoMany, .int v_drawn, .ref q_kept, .ref q_isKept])), (q_now, .inl (cJ, 120, .inr (.inl v_now))), (q_row, .inl (cJ, 64, .inr (.inl v_row))), (q_undos, .inl (cJ, 960, .inr (.inl v_undos))), (q_was, .inl (cJ, 120, .inr (.inl v_was)))] sz)) 0 0 (va_A [(h0, .inr (8, [.ref q_now, .ref q_text, .int v_typed, .ref q_row, .int v_rowMany, .int v_thrown, .int v_length, .int v_at, .int v_wrong, .ref q_read, .ref q_ranks, .ref q_distinct, .ref q_proper, .int v_properMany, .ref q_line, .ref q_order, .int v_orderMany, .ref q_then, .ref q_bestOrder, .ref q_lineThen, .ref q_undos, .ref q_was, .int v_undoMany, .int v_drawn, .ref q_kept, .ref q_isKept])), (q_now, .inl (cJ, 120, .inr (.inl v_now))), (q_row, .inl (cJ, 64, .inr (.inl v_row))), (q_undos, .inl (cJ, 960, .inr (.inl v_undos))), (q_was, .inl (cJ, 120, .inr (.inl v_was)))] sz) := by
  refine Met.ofW (cc := cX10_copies) (maxL := 8) (ret := (some .int)) (by decide) rfl ?_
  intro p e s m args below meth c s₁ B hml hv
  obtain ⟨hav, hsz, hP, hK, hD0, hX⟩ := hv
  have hx := B.exec
  have hb := B.bytes
  have hr := B.returns
  have hts := atoms_spec (ws := wsX10_copies) B.pre
  have hown : s.vm.findClass RX10 = some m.cls := findClass_of_methodNamed B.named
  have hlocks := B.notSynchronized
  subst hsz
  have hD := hD0.self (sz := s.heap.size)
  generalize hAe : va_A [(h0, .inr (8, [.ref q_now, .ref q_text, .int v_typed, .ref q_row, .int v_rowMany, .int v_thrown, .int v_length, .int v_at, .int v_wrong, .ref q_read, .ref q_ranks, .ref q_distinct, .ref q_proper, .int v_properMany, .ref q_line, .ref q_order, .int v_orderMany, .ref q_then, .ref q_bestOrder, .ref q_lineThen, .ref q_undos, .ref q_was, .int v_undoMany, .int v_drawn, .ref q_kept, .ref q_isKept])), (q_now, .inl (cJ, 120, .inr (.inl v_now))), (q_row, .inl (cJ, 64, .inr (.inl v_row))), (q_undos, .inl (cJ, 960, .inr (.inl v_undos))), (q_was, .inl (cJ, 120, .inr (.inl v_was)))] s.heap.size = A at hD hX ⊢
  have hA : ∀ q : Nat, s.heap.size ≤ q → A q := fun q h => by rw [← hAe]; exact Or.inr h
  have hS : va_S A s.heap s.heap [] := va_S.rf
  refine wstart (rm := rm_X10_copies) hav (Nat.le_of_ble_eq_true rfl) (fun QQ ls hQQ hl => ?_)
  have hl : lv_has ls 8 [(0, .ref h0), (1, .int x1), (2, .int x2)] := hl
  have hi_X10 : ∀ w ∈ u_ws RX10 TX10 26, w ∈ wsX10_copies := by decide +kernel
  have h := hf
  unfold f_X10_copies at h
  refine lv_aload_n hx hb dX10_copies_0 rfl (lv_at hl 0 rfl) ?_
  refine lv_iconst (v := 0) hx hb dX10_copies_1 (by decide) ?_
  refine va_put (D := (dC, dI)) (ci := 8) (v := .int (0 : Int32)) (ty := .int) (C := RX10) (T := TX10) (N := 26) hx hb hts hi_X10 tyX10 tyX10_ok nmX10 hown hK hP hD hS 0 rfl rfl 5 (by decide) (hts _ (List.mem_of_getElem? (i := 1) rfl)) (fun _ h9 => h9) rfl (by decide +kernel) rfl rfl (Nat.le_of_ble_eq_true rfl) dX10_copies_2 (fun H locs hP hD hS => ?_)
  replace hP : va_P (dC, dI) vwCl [(h0, .inr (8, [.ref q_now, .ref q_text, .int v_typed, .ref q_row, .int v_rowMany, .int (0 : Int32), .int v_length, .int v_at, .int v_wrong, .ref q_read, .ref q_ranks, .ref q_distinct, .ref q_proper, .int v_properMany, .ref q_line, .ref q_order, .int v_orderMany, .ref q_then, .ref q_bestOrder, .ref q_lineThen, .ref q_undos, .ref q_was, .int v_undoMany, .int v_drawn, .ref q_kept, .ref q_isKept])), (q_now, .inl (cJ, 120, .inr (.inl v_now))), (q_row, .inl (cJ, 64, .inr (.inl v_row))), (q_undos, .inl (cJ, 960, .inr (.inl v_undos))), (q_was, .inl (cJ, 120, .inr (.inl v_was)))] H := hP
  replace hD : va_D A [(h0, .inr (8, [.ref q_now, .ref q_text, .int v_typed, .ref q_row, .int v_rowMany, .int (0 : Int32), .int v_length, .int v_at, .int v_wrong, .ref q_read, .ref q_ranks, .ref q_distinct, .ref q_proper, .int v_properMany, .ref q_line, .ref q_order, .int v_orderMany, .ref q_then, .ref q_bestOrder, .ref q_lineThen, .ref q_undos, .ref q_was, .int v_undoMany, .int v_drawn, .ref q_kept, .ref q_isKept])), (q_now, .inl (cJ, 120, .inr (.inl v_now))), (q_row, .inl (cJ, 64, .inr (.inl v_row))), (q_undos, .inl (cJ, 960, .inr (.inl v_undos))), (q_was, .inl (cJ, 120, .inr (.inl v_was)))] := hD
  refine lv_iload_n hx hb dX10_copies_5 rfl (lv_at hl 1 rfl) ?_
  refine lv_iload_n hx hb dX10_copies_6 rfl (lv_at hl 2 rfl) ?_
  obtain ⟨v_428, hv_428, h⟩ := ob h
  have J_428 : ∀ (H : Heap) (locs : List Loc) (ls : Array Slot), va_P (dC, dI) vwCl [(h0, .inr (8, [.ref q_now, .ref q_text, .int v_typed, .ref q_row, .int v_rowMany, .int (0 : Int32), .int v_length, .int v_at, .int v_wrong, .ref q_read, .ref q_ranks, .ref q_distinct, .ref q_proper, .int v_properMany, .ref q_line, .ref q_order, .int v_orderMany, .ref q_then, .ref q_bestOrder, .ref q_lineThen, .ref q_undos, .ref q_was, .int v_undoMany, .int v_drawn, .ref q_kept, .ref q_isKept])), (q_now, .inl (cJ, 120, .inr (.inl v_now))), (q_row, .inl (cJ, 64, .inr (.inl v_row))), (q_undos, .inl (cJ, 960, .inr (.inl v_undos))), (q_was, .inl (cJ, 120, .inr (.inl v_was)))] H → va_D A [(h0, .inr (8, [.ref q_now, .ref q_text, .int v_typed, .ref q_row, .int v_rowMany, .int (0 : Int32), .int v_length, .int v_at, .int v_wrong, .ref q_read, .ref q_ranks, .ref q_distinct, .ref q_proper, .int v_properMany, .ref q_line, .ref q_order, .int v_orderMany, .ref q_then, .ref q_bestOrder, .ref q_lineThen, .ref q_undos, .ref q_was, .int v_undoMany, .int v_drawn, .ref q_kept, .ref q_isKept])), (q_now, .inl (cJ, 120, .inr (.inl v_now))), (q_row, .inl (cJ, 64, .inr (.inl v_row))), (q_undos, .inl (cJ, 960, .inr (.inl v_undos))), (q_was, .inl (cJ, 120, .inr (.inl v_was)))] → va_S A s.heap H locs → lv_has ls 8 [(0, .ref h0), (1, .int x1), (2, .int x2)] → W p l e rm_X10_copies s m args below meth c H locs 0 0 QQ (F0 m 20 ls [.int v_428]) := by
    intro H locs ls hP hD hS hl
    refine lv_istore_n (lv' := [(3, .int v_428), (0, .ref h0), (1, .int x1), (2, .int x2)]) hx hb dX10_copies_20 rfl hl (by decide) rfl (fun ls hl => ?_)
    refine lv_iload_n hx hb dX10_copies_21 rfl (lv_at hl 0 rfl) ?_
    refine lv_if_ge (tgt := 27) hx hb dX10_copies_22 (by decide) (fun c_435 => ?_) (fun c_435 => ?_)
    · replace h := op c_435 h
      refine lv_aload_n hx hb dX10_copies_27 rfl (lv_at hl 1 rfl) ?_
      obtain ⟨o_436, hr_436, h⟩ := ob h
      have hPc := hP.sub (ws' := [(h0, .inr (8, [.ref q_now, .ref q_text, .int v_typed, .ref q_row, .int v_rowMany, .int (0 : Int32), .int v_length, .int v_at, .int v_wrong, .ref q_read, .ref q_ranks, .ref q_distinct, .ref q_proper, .int v_properMany, .ref q_line, .ref q_order, .int v_orderMany, .ref q_then, .ref q_bestOrder, .ref q_lineThen, .ref q_undos, .ref q_was, .int v_undoMany, .int v_drawn, .ref q_kept, .ref q_isKept])), (q_now, .inl (cJ, 120, .inr (.inl v_now))), (q_undos, .inl (cJ, 960, .inr (.inl v_undos))), (q_was, .inl (cJ, 120, .inr (.inl v_was)))]) [0, 1, 3, 4] rfl
      have hDc := hD.sub (ws' := [(h0, .inr (8, [.ref q_now, .ref q_text, .int v_typed, .ref q_row, .int v_rowMany, .int (0 : Int32), .int v_length, .int v_at, .int v_wrong, .ref q_read, .ref q_ranks, .ref q_distinct, .ref q_proper, .int v_properMany, .ref q_line, .ref q_order, .int v_orderMany, .ref q_then, .ref q_bestOrder, .ref q_lineThen, .ref q_undos, .ref q_was, .int v_undoMany, .int v_drawn, .ref q_kept, .ref q_isKept])), (q_now, .inl (cJ, 120, .inr (.inl v_now))), (q_undos, .inl (cJ, 960, .inr (.inl v_undos))), (q_was, .inl (cJ, 120, .inr (.inl v_was)))]) [0, 1, 3, 4] (by decide) rfl
      have hFc := va_free (wc := [(h0, .inr (8, [.ref q_now, .ref q_text, .int v_typed, .ref q_row, .int v_rowMany, .int (0 : Int32), .int v_length, .int v_at, .int v_wrong, .ref q_read, .ref q_ranks, .ref q_distinct, .ref q_proper, .int v_properMany, .ref q_line, .ref q_order, .int v_orderMany, .ref q_then, .ref q_bestOrder, .ref q_lineThen, .ref q_undos, .ref q_was, .int v_undoMany, .int v_drawn, .ref q_kept, .ref q_isKept])), (q_now, .inl (cJ, 120, .inr (.inl v_now))), (q_undos, .inl (cJ, 960, .inr (.inl v_undos))), (q_was, .inl (cJ, 120, .inr (.inl v_was)))]) hD hS hA [0, 1, 3, 4] rfl
      refine va_callv (va_runV (As := []) (rest := []) ⟨hx, hb, hml, hown, hts⟩ (c_X10_change l dC dI cB cC cI cJ cZ cT h0 q_now q_text q_row q_read q_ranks q_distinct q_proper q_line q_order q_then q_bestOrder q_lineThen q_undos q_was q_kept q_isKept H.size v_typed v_rowMany (0 : Int32) v_length v_at v_wrong v_properMany v_orderMany v_undoMany v_drawn v_now v_undos v_was o_436 hr_436) (cwV 0 hts gX10_copies_X10_change rfl rfl rfl (by decide +kernel) ⟨Nat.le_of_ble_eq_true rfl, Nat.le_of_ble_eq_true rfl⟩) ⟨blW, va_recv hK hP (ci := 8) (q0 := 0) rfl rfl, fun U hU hW => ⟨rfl, by rw [hU], by rw [hU]; exact hPc, va_K.moved hW.alike hK, hDc.weaken (fun _ _ _ _ => trivial)⟩⟩ rfl rfl hl.1 rfl (lv_room (Nat.le_of_ble_eq_true rfl)) dX10_copies_28 ⟨Nat.le_of_ble_eq_true rfl, Nat.le_of_ble_eq_true rfl⟩) hS (fun q _ h => hFc q h) hFc (fun u_436 t_436 H locs ht hvm e_436 hB hz1 hk1 hS => ?_)
      obtain ⟨hP1, -, hD1⟩ := hB
      rw [ht] at hP1
      obtain ⟨hP, hD⟩ := va_join (wr := [(q_row, .inl (cJ, 64, .inr (.inl v_row)))]) (w1 := [(h0, .inr (8, [.ref q_now, .ref q_text, .int v_typed, .ref q_row, .int v_rowMany, .int (0 : Int32), .int v_length, .int v_at, .int v_wrong, .ref q_read, .ref q_ranks, .ref q_distinct, .ref q_proper, .int v_properMany, .ref q_line, .ref q_order, .int v_orderMany, .ref q_then, .ref q_bestOrder, .ref q_lineThen, .ref q_undos, .ref q_was, .int o_436.1, .int v_drawn, .ref q_kept, .ref q_isKept])), (q_now, .inl (cJ, 120, .inr (.inl v_now))), (q_undos, .inl (cJ, 960, .inr (.inl o_436.2.1))), (q_was, .inl (cJ, 120, .inr (.inl o_436.2.2)))]) hP hD [0, 1, 3, 4] [2] rfl rfl (by decide) (by decide) hk1 hFc hP1 hD1
      replace hP := hP.sub (ws' := [(h0, .inr (8, [.ref q_now, .ref q_text, .int v_typed, .ref q_row, .int v_rowMany, .int (0 : Int32), .int v_length, .int v_at, .int v_wrong, .ref q_read, .ref q_ranks, .ref q_distinct, .ref q_proper, .int v_properMany, .ref q_line, .ref q_order, .int v_orderMany, .ref q_then, .ref q_bestOrder, .ref q_lineThen, .ref q_undos, .ref q_was, .int o_436.1, .int v_drawn, .ref q_kept, .ref q_isKept])), (q_now, .inl (cJ, 120, .inr (.inl v_now))), (q_row, .inl (cJ, 64, .inr (.inl v_row))), (q_undos, .inl (cJ, 960, .inr (.inl o_436.2.1))), (q_was, .inl (cJ, 120, .inr (.inl o_436.2.2)))]) [1, 2, 0, 3, 4] rfl
      replace hD := hD.sub (ws' := [(h0, .inr (8, [.ref q_now, .ref q_text, .int v_typed, .ref q_row, .int v_rowMany, .int (0 : Int32), .int v_length, .int v_at, .int v_wrong, .ref q_read, .ref q_ranks, .ref q_distinct, .ref q_proper, .int v_properMany, .ref q_line, .ref q_order, .int v_orderMany, .ref q_then, .ref q_bestOrder, .ref q_lineThen, .ref q_undos, .ref q_was, .int o_436.1, .int v_drawn, .ref q_kept, .ref q_isKept])), (q_now, .inl (cJ, 120, .inr (.inl v_now))), (q_row, .inl (cJ, 64, .inr (.inl v_row))), (q_undos, .inl (cJ, 960, .inr (.inl o_436.2.1))), (q_was, .inl (cJ, 120, .inr (.inl o_436.2.2)))]) [1, 2, 0, 3, 4] (by decide) rfl
      refine lv_iconst (v := 0) hx hb dX10_copies_31 (by decide) ?_
      refine lv_istore (lv' := [(4, .int (0 : Int32)), (3, .int v_428), (0, .ref h0), (1, .int x1), (2, .int x2)]) hx hb dX10_copies_32 hl (by decide) rfl (fun ls hl => ?_)
      refine lv_iconst (v := 0) hx hb dX10_copies_34 (by decide) ?_
      refine lv_istore (lv' := [(5, .int (0 : Int32)), (4, .int (0 : Int32)), (3, .int v_428), (0, .ref h0), (1, .int x1), (2, .int x2)]) hx hb dX10_copies_35 hl (by decide) rfl (fun ls hl => ?_)
      refine lv_iconst (v := 0) hx hb dX10_copies_37 (by decide) ?_
      refine lv_istore (lv' := [(6, .int (0 : Int32)), (5, .int (0 : Int32)), (4, .int (0 : Int32)), (3, .int v_428), (0, .ref h0), (1, .int x1), (2, .int x2)]) hx hb dX10_copies_38 hl (by decide) rfl (fun ls hl => ?_)
      have LP_452 : ∀ (n : Nat) (x4_40 : Int32) (x5_40 : Int32) (x6_40 : Int32) (v_now_40 : (Nat → Int64)) (w : (Int32 × Int32 × (Nat → Int64))) (H : Heap) (locs : List Loc) (ls : Array Slot), L_X10_copies_40 x1 x2 n x4_40 x5_40 x6_40 v_now_40 = some w → va_P (dC, dI) vwCl [(h0, .inr (8, [.ref q_now, .ref q_text, .int v_typed, .ref q_row, .int v_rowMany, .int (0 : Int32), .int v_length, .int v_at, .int v_wrong, .ref q_read, .ref q_ranks, .ref q_distinct, .ref q_proper, .int v_properMany, .ref q_line, .ref q_order, .int v_orderMany, .ref q_then, .ref q_bestOrder, .ref q_lineThen, .ref q_undos, .ref q_was, .int o_436.1, .int v_drawn, .ref q_kept, .ref q_isKept])), (q_now, .inl (cJ, 120, .inr (.inl v_now_40))), (q_row, .inl (cJ, 64, .inr (.inl v_row))), (q_undos, .inl (cJ, 960, .inr (.inl o_436.2.1))), (q_was, .inl (cJ, 120, .inr (.inl o_436.2.2)))] H → va_D A [(h0, .inr (8, [.ref q_now, .ref q_text, .int v_typed, .ref q_row, .int v_rowMany, .int (0 : Int32), .int v_length, .int v_at, .int v_wrong, .ref q_read, .ref q_ranks, .ref q_distinct, .ref q_proper, .int v_properMany, .ref q_line, .ref q_order, .int v_orderMany, .ref q_then, .ref q_bestOrder, .ref q_lineThen, .ref q_undos, .ref q_was, .int o_436.1, .int v_drawn, .ref q_kept, .ref q_isKept])), (q_now, .inl (cJ, 120, .inr (.inl v_now_40))), (q_row, .inl (cJ, 64, .inr (.inl v_row))), (q_undos, .inl (cJ, 960, .inr (.inl o_436.2.1))), (q_was, .inl (cJ, 120, .inr (.inl o_436.2.2)))] → va_S A s.heap H locs → lv_has ls 8 [(0, .ref h0), (1, .int x1), (2, .int x2), (4, .int x4_40), (5, .int x5_40), (6, .int x6_40)] → (∀ (H : Heap) (locs : List Loc) (ls : Array Slot), va_P (dC, dI) vwCl [(h0, .inr (8, [.ref q_now, .ref q_text, .int v_typed, .ref q_row, .int v_rowMany, .int (0 : Int32), .int v_length, .int v_at, .int v_wrong, .ref q_read, .ref q_ranks, .ref q_distinct, .ref q_proper, .int v_properMany, .ref q_line, .ref q_order, .int v_orderMany, .ref q_then, .ref q_bestOrder, .ref q_lineThen, .ref q_undos, .ref q_was, .int o_436.1, .int v_drawn, .ref q_kept, .ref q_isKept])), (q_now, .inl (cJ, 120, .inr (.inl w.2.2))), (q_row, .inl (cJ, 64, .inr (.inl v_row))), (q_undos, .inl (cJ, 960, .inr (.inl o_436.2.1))), (q_was, .inl (cJ, 120, .inr (.inl o_436.2.2)))] H → va_D A [(h0, .inr (8, [.ref q_now, .ref q_text, .int v_typed, .ref q_row, .int v_rowMany, .int (0 : Int32), .int v_length, .int v_at, .int v_wrong, .ref q_read, .ref q_ranks, .ref q_distinct, .ref q_proper, .int v_properMany, .ref q_line, .ref q_order, .int v_orderMany, .ref q_then, .ref q_bestOrder, .ref q_lineThen, .ref q_undos, .ref q_was, .int o_436.1, .int v_drawn, .ref q_kept, .ref q_isKept])), (q_now, .inl (cJ, 120, .inr (.inl w.2.2))), (q_row, .inl (cJ, 64, .inr (.inl v_row))), (q_undos, .inl (cJ, 960, .inr (.inl o_436.2.1))), (q_was, .inl (cJ, 120, .inr (.inl o_436.2.2)))] → va_S A s.heap H locs → lv_has ls 8 [(0, .ref h0), (4, .int w.1), (5, .int w.2.1)] → W p l e rm_X10_copies s m args below meth c H locs 0 0 QQ (F0 m 109 ls [])) → W p l e rm_X10_copies s m args below meth c H locs 0 0 QQ (F0 m 40 ls []) := by
        intro n
        induction n with
        | zero => intro x4_40 x5_40 x6_40 v_now_40 w H locs ls h; exact absurd (show none = some w from h) nofun
        | succ n ih =>
          intro x4_40 x5_40 x6_40 v_now_40 w H locs ls h hP hD hS hl K
          rw [L_X10_copies_40] at h
          refine lv_iload hx hb dX10_copies_40 (lv_at hl 5 rfl) ?_
          refine lv_aload_n hx hb dX10_copies_42 rfl (lv_at hl 0 rfl) ?_
          obtain ⟨o_438, hr_438, h⟩ := ob h
          refine vp_callSi (va_Run.run (va_runV (As := []) (rest := [.int x6_40]) ⟨hx, hb, hml, hown, hts⟩ (c_X10_rows l dC dI cB cC cI cJ cZ cT h0 q_now q_text q_row q_read q_ranks q_distinct q_proper q_line q_order q_then q_bestOrder q_lineThen q_undos q_was q_kept q_isKept v_typed v_rowMany (0 : Int32) v_length v_at v_wrong v_properMany v_orderMany o_436.1 v_drawn v_now_40 o_438 hr_438) (cwV 0 hts gX10_copies_X10_rows rfl rfl rfl (by decide +kernel) ⟨Nat.le_of_ble_eq_true rfl, Nat.le_of_ble_eq_true rfl⟩) ⟨blR, va_recv hK hP (ci := 8) (q0 := 0) rfl rfl, fun U hU hW => ⟨rfl, by rw [hU]; exact hP.sub [0, 1] rfl, va_K.moved hW.alike hK⟩⟩ rfl rfl hl.1 rfl (lv_room (Nat.le_of_ble_eq_true rfl)) dX10_copies_43 ⟨Nat.le_of_ble_eq_true rfl, Nat.le_of_ble_eq_true rfl⟩)) (fun r_438 e_438 => ?_)
          subst e_438
          refine lv_icmp_ge (tgt := 109) hx hb dX10_copies_46 (by decide) (fun c_440 => ?_) (fun c_440 => ?_)
          · replace h := op c_440 h
            have ho := Option.some.inj h
            subst ho
            exact K H _ ls hP hD hS (lv_sub hl [0, 3, 4] rfl)
          · replace h := on c_440 h
            refine lv_aload_n hx hb dX10_copies_49 rfl (lv_at hl 0 rfl) ?_
            refine lv_iload_n hx hb dX10_copies_50 rfl (lv_at hl 1 rfl) ?_
            refine lv_iload hx hb dX10_copies_51 (lv_at hl 5 rfl) ?_
            obtain ⟨o_441, hr_441, h⟩ := ob h
            refine vp_callSi (va_Run.run (va_runV (As := [.int x1, .int x6_40]) (rest := []) ⟨hx, hb, hml, hown, hts⟩ (c_X10_wayOf l dC dI cB cC cI cJ cZ cT h0 q_now q_text q_row q_read q_ranks q_distinct q_proper q_line q_order q_then q_bestOrder q_lineThen q_undos q_was q_kept q_isKept v_typed v_rowMany (0 : Int32) v_length v_at v_wrong v_properMany v_orderMany o_436.1 v_drawn v_now_40 x1 x6_40 o_441 hr_441) (cwV 2 hts gX10_copies_X10_wayOf rfl rfl rfl (by decide +kernel) ⟨Nat.le_of_ble_eq_true rfl, Nat.le_of_ble_eq_true rfl⟩) ⟨blR, va_recv hK hP (ci := 8) (q0 := 0) rfl rfl, fun U hU hW => ⟨rfl, by rw [hU]; exact hP.sub [0, 1] rfl, va_K.moved hW.alike hK⟩⟩ rfl rfl hl.1 rfl (lv_room (Nat.le_of_ble_eq_true rfl)) dX10_copies_53 ⟨Nat.le_of_ble_eq_true rfl, Nat.le_of_ble_eq_true rfl⟩)) (fun r_441 e_441 => ?_)
            subst e_441
            refine lv_istore (lv' := [(7, .int o_441), (0, .ref h0), (1, .int x1), (2, .int x2), (4, .int x4_40), (5, .int x5_40), (6, .int x6_40)]) hx hb dX10_copies_56 hl (by decide) rfl (fun ls hl => ?_)
            refine lv_aload_n hx hb dX10_copies_58 rfl (lv_at hl 1 rfl) ?_
            refine lv_aload_n hx hb dX10_copies_59 rfl (lv_at hl 1 rfl) ?_
            refine lv_iload_n hx hb dX10_copies_60 rfl (lv_at hl 3 rfl) ?_
            obtain ⟨o_443, hr_443, h⟩ := ob h
            refine vp_callSi (va_Run.run (va_runV (As := [.int x2]) (rest := [.ref h0]) ⟨hx, hb, hml, hown, hts⟩ (c_X10_kindOf l dC dI cB cC cI cJ cZ cT h0 q_now q_text q_row q_read q_ranks q_distinct q_proper q_line q_order q_then q_bestOrder q_lineThen q_undos q_was q_kept q_isKept v_typed v_rowMany (0 : Int32) v_length v_at v_wrong v_properMany v_orderMany o_436.1 v_drawn v_now_40 x2 o_443 hr_443) (cwV 1 hts gX10_copies_X10_kindOf rfl rfl rfl (by decide +kernel) ⟨Nat.le_of_ble_eq_true rfl, Nat.le_of_ble_eq_true rfl⟩) ⟨blR, va_recv hK hP (ci := 8) (q0 := 0) rfl rfl, fun U hU hW => ⟨rfl, by rw [hU]; exact hP.sub [0, 1] rfl, va_K.moved hW.alike hK⟩⟩ rfl rfl hl.1 rfl (lv_room (Nat.le_of_ble_eq_true rfl)) dX10_copies_61 ⟨Nat.le_of_ble_eq_true rfl, Nat.le_of_ble_eq_true rfl⟩)) (fun r_443 e_443 => ?_)
            subst e_443
            refine lv_iload hx hb dX10_copies_64 (lv_at hl 0 rfl) ?_
            obtain ⟨o_445, hr_445, h⟩ := ob h
            refine vp_callSi (va_Run.run (va_runV (As := [.int o_443, .int o_441]) (rest := []) ⟨hx, hb, hml, hown, hts⟩ (c_X10_canHold l dC dI cB cC cI cJ cZ cT h0 o_443 o_441 o_445 hr_445) (cwV 2 hts gX10_copies_X10_canHold rfl rfl rfl (by decide +kernel) ⟨Nat.le_of_ble_eq_true rfl, Nat.le_of_ble_eq_true rfl⟩) ⟨blTX, va_recv hK hP (ci := 8) (q0 := 0) rfl rfl, fun U hU hW => ⟨rfl, by rw [hU]; exact SX.use hW.alike hS hX⟩⟩ rfl rfl hl.1 rfl (lv_room (Nat.le_of_ble_eq_true rfl)) dX10_copies_66 ⟨Nat.le_of_ble_eq_true rfl, Nat.le_of_ble_eq_true rfl⟩)) (fun r_445 e_445 => ?_)
            subst e_445
            refine lv_if_eq (tgt := 94) hx hb dX10_copies_69 (by decide) (fun c_447 => ?_) (fun c_447 => ?_)
            · replace h := op c_447 h
              refine lv_iload hx hb dX10_copies_94 (lv_at hl 5 rfl) ?_
              refine lv_iconst (v := 1) hx hb dX10_copies_96 (by decide) ?_
              refine lv_iload hx hb dX10_copies_97 (lv_at hl 6 rfl) ?_
              refine lv_ishl hx hb dX10_copies_99 ?_
              refine lv_ior hx hb dX10_copies_100 ?_
              refine lv_istore (lv' := [(5, .int (x5_40 ||| ((1 : Int32) <<< (x6_40 &&& 31)))), (7, .int o_441), (0, .ref h0), (1, .int x1), (2, .int x2), (4, .int x4_40), (6, .int x6_40)]) hx hb dX10_copies_101 hl (by decide) rfl (fun ls hl => ?_)
              refine lv_iinc (v := (x6_40 + 1)) (lv' := [(6, .int (x6_40 + 1)), (5, .int (x5_40 ||| ((1 : Int32) <<< (x6_40 &&& 31)))), (7, .int o_441), (0, .ref h0), (1, .int x1), (2, .int x2), (4, .int x4_40)]) hx hb dX10_copies_103 hl (k := 6) rfl (by rfl) (by decide) rfl (fun ls hl => ?_)
              refine lv_goto (tgt := 40) hx hb dX10_copies_106 (by decide) ?_
              exact ih x4_40 (x5_40 ||| ((1 : Int32) <<< (x6_40 &&& 31))) (x6_40 + 1) v_now_40 w H _ ls h hP hD hS (lv_sub hl [3, 4, 5, 6, 1, 0] rfl) K
            · replace h := on c_447 h
              refine lv_aload_n hx hb dX10_copies_72 rfl (lv_at hl 1 rfl) ?_
              refine lv_iload_n hx hb dX10_copies_73 rfl (lv_at hl 3 rfl) ?_
              refine lv_iload hx hb dX10_copies_74 (lv_at hl 6 rfl) ?_
              refine lv_iload hx hb dX10_copies_76 (lv_at hl 0 rfl) ?_
              refine lv_aload_n hx hb dX10_copies_78 rfl (lv_at hl 1 rfl) ?_
              refine lv_iload_n hx hb dX10_copies_79 rfl (lv_at hl 2 rfl) ?_
              refine lv_iload hx hb dX10_copies_80 (lv_at hl 6 rfl) ?_
              obtain ⟨o_448, hr_448, h⟩ := ob h
              refine vp_callSl (va_Run.run (va_runV (As := [.int x1, .int x6_40]) (rest := [.int o_441, .int x6_40, .int x2, .ref h0]) ⟨hx, hb, hml, hown, hts⟩ (c_X10_cell l dC dI cB cC cI cJ cZ cT h0 q_now q_text q_row q_read q_ranks q_distinct q_proper q_line q_order q_then q_bestOrder q_lineThen q_undos q_was q_kept q_isKept v_typed v_rowMany (0 : Int32) v_length v_at v_wrong v_properMany v_orderMany o_436.1 v_drawn v_now_40 x1 x6_40 o_448 hr_448) (cwV 2 hts gX10_copies_X10_cell rfl rfl rfl (by decide +kernel) ⟨Nat.le_of_ble_eq_true rfl, Nat.le_of_ble_eq_true rfl⟩) ⟨blR, va_recv hK hP (ci := 8) (q0 := 0) rfl rfl, fun U hU hW => ⟨rfl, by rw [hU]; exact hP.sub [0, 1] rfl, va_K.moved hW.alike hK⟩⟩ rfl rfl hl.1 rfl (lv_room (Nat.le_of_ble_eq_true rfl)) dX10_copies_82 ⟨Nat.le_of_ble_eq_true rfl, Nat.le_of_ble_eq_true rfl⟩)) (fun r_448 e_448 => ?_)
              subst e_448
              obtain ⟨o_450, hr_450, h⟩ := ob h
              have hPc := hP.sub (ws' := [(h0, .inr (8, [.ref q_now, .ref q_text, .int v_typed, .ref q_row, .int v_rowMany, .int (0 : Int32), .int v_length, .int v_at, .int v_wrong, .ref q_read, .ref q_ranks, .ref q_distinct, .ref q_proper, .int v_properMany, .ref q_line, .ref q_order, .int v_orderMany, .ref q_then, .ref q_bestOrder, .ref q_lineThen, .ref q_undos, .ref q_was, .int o_436.1, .int v_drawn, .ref q_kept, .ref q_isKept])), (q_now, .inl (cJ, 120, .inr (.inl v_now_40)))]) [0, 1] rfl
              have hDc := hD.sub (ws' := [(h0, .inr (8, [.ref q_now, .ref q_text, .int v_typed, .ref q_row, .int v_rowMany, .int (0 : Int32), .int v_length, .int v_at, .int v_wrong, .ref q_read, .ref q_ranks, .ref q_distinct, .ref q_proper, .int v_properMany, .ref q_line, .ref q_order, .int v_orderMany, .ref q_then, .ref q_bestOrder, .ref q_lineThen, .ref q_undos, .ref q_was, .int o_436.1, .int v_drawn, .ref q_kept, .ref q_isKept])), (q_now, .inl (cJ, 120, .inr (.inl v_now_40)))]) [0, 1] (by decide) rfl
              have hFc := va_free (wc := [(h0, .inr (8, [.ref q_now, .ref q_text, .int v_typed, .ref q_row, .int v_rowMany, .int (0 : Int32), .int v_length, .int v_at, .int v_wrong, .ref q_read, .ref q_ranks, .ref q_distinct, .ref q_proper, .int v_properMany, .ref q_line, .ref q_order, .int v_orderMany, .ref q_then, .ref q_bestOrder, .ref q_lineThen, .ref q_undos, .ref q_was, .int o_436.1, .int v_drawn, .ref q_kept, .ref q_isKept])), (q_now, .inl (cJ, 120, .inr (.inl v_now_40)))]) hD hS hA [0, 1] rfl
              refine va_callv (va_runV (As := [.int x2, .int x6_40, .int o_441, .long o_448]) (rest := []) ⟨hx, hb, hml, hown, hts⟩ (c_X10_store l dC dI cB cC cI cJ cZ cT h0 q_now q_text q_row q_read q_ranks q_distinct q_proper q_line q_order q_then q_bestOrder q_lineThen q_undos q_was q_kept q_isKept H.size v_typed v_rowMany (0 : Int32) v_length v_at v_wrong v_properMany v_orderMany o_436.1 v_drawn v_now_40 x2 x6_40 o_441 o_448 o_450 hr_450) (cwV 4 hts gX10_copies_X10_store rfl rfl rfl (by decide +kernel) ⟨Nat.le_of_ble_eq_true rfl, Nat.le_of_ble_eq_true rfl⟩) ⟨blW, va_recv hK hP (ci := 8) (q0 := 0) rfl rfl, fun U hU hW => ⟨rfl, by rw [hU], by rw [hU]; exact hPc, va_K.moved hW.alike hK, hDc.weaken (fun _ _ _ _ => trivial)⟩⟩ rfl rfl hl.1 rfl (lv_room (Nat.le_of_ble_eq_true rfl)) dX10_copies_85 ⟨Nat.le_of_ble_eq_true rfl, Nat.le_of_ble_eq_true rfl⟩) hS (fun q _ h => hFc q h) hFc (fun u_450 t_450 H locs ht hvm e_450 hB hz1 hk1 hS => ?_)
              obtain ⟨hP1, -, hD1⟩ := hB
              rw [ht] at hP1
              obtain ⟨hP, hD⟩ := va_join (wr := [(q_row, .inl (cJ, 64, .inr (.inl v_row))), (q_undos, .inl (cJ, 960, .inr (.inl o_436.2.1))), (q_was, .inl (cJ, 120, .inr (.inl o_436.2.2)))]) (w1 := [(h0, .inr (8, [.ref q_now, .ref q_text, .int v_typed, .ref q_row, .int v_rowMany, .int (0 : Int32), .int v_length, .int v_at, .int v_wrong, .ref q_read, .ref q_ranks, .ref q_distinct, .ref q_proper, .int v_properMany, .ref q_line, .ref q_order, .int v_orderMany, .ref q_then, .ref q_bestOrder, .ref q_lineThen, .ref q_undos, .ref q_was, .int o_436.1, .int v_drawn, .ref q_kept, .ref q_isKept])), (q_now, .inl (cJ, 120, .inr (.inl o_450)))]) hP hD [0, 1] [2, 3, 4] rfl rfl (by decide) (by decide) hk1 hFc hP1 hD1
              replace hP := hP.sub (ws' := [(h0, .inr (8, [.ref q_now, .ref q_text, .int v_typed, .ref q_row, .int v_rowMany, .int (0 : Int32), .int v_length, .int v_at, .int v_wrong, .ref q_read, .ref q_ranks, .ref q_distinct, .ref q_proper, .int v_properMany, .ref q_line, .ref q_order, .int v_orderMany, .ref q_then, .ref q_bestOrder, .ref q_lineThen, .ref q_undos, .ref q_was, .int o_436.1, .int v_drawn, .ref q_kept, .ref q_isKept])), (q_now, .inl (cJ, 120, .inr (.inl o_450))), (q_row, .inl (cJ, 64, .inr (.inl v_row))), (q_undos, .inl (cJ, 960, .inr (.inl o_436.2.1))), (q_was, .inl (cJ, 120, .inr (.inl o_436.2.2)))]) [3, 4, 0, 1, 2] rfl
              replace hD := hD.sub (ws' := [(h0, .inr (8, [.ref q_now, .ref q_text, .int v_typed, .ref q_row, .int v_rowMany, .int (0 : Int32), .int v_length, .int v_at, .int v_wrong, .ref q_read, .ref q_ranks, .ref q_distinct, .ref q_proper, .int v_properMany, .ref q_line, .ref q_order, .int v_orderMany, .ref q_then, .ref q_bestOrder, .ref q_lineThen, .ref q_undos, .ref q_was, .int o_436.1, .int v_drawn, .ref q_kept, .ref q_isKept])), (q_now, .inl (cJ, 120, .inr (.inl o_450))), (q_row, .inl (cJ, 64, .inr (.inl v_row))), (q_undos, .inl (cJ, 960, .inr (.inl o_436.2.1))), (q_was, .inl (cJ, 120, .inr (.inl o_436.2.2)))]) [3, 4, 0, 1, 2] (by decide) rfl
              refine lv_iinc (v := (x4_40 + 1)) (lv' := [(4, .int (x4_40 + 1)), (7, .int o_441), (0, .ref h0), (1, .int x1), (2, .int x2), (5, .int x5_40), (6, .int x6_40)]) hx hb dX10_copies_88 hl (k := 4) rfl (by rfl) (by decide) rfl (fun ls hl => ?_)
              refine lv_goto (tgt := 103) hx hb dX10_copies_91 (by decide) ?_
              refine lv_iinc (v := (x6_40 + 1)) (lv' := [(6, .int (x6_40 + 1)), (4, .int (x4_40 + 1)), (7, .int o_441), (0, .ref h0), (1, .int x1), (2, .int x2), (5, .int x5_40)]) hx hb dX10_copies_103 hl (k := 6) rfl (by rfl) (by decide) rfl (fun ls hl => ?_)
              refine lv_goto (tgt := 40) hx hb dX10_copies_106 (by decide) ?_
              exact ih (x4_40 + 1) x5_40 (x6_40 + 1) o_450 w H _ ls h hP hD hS (lv_sub hl [3, 4, 5, 1, 6, 0] rfl) K
      obtain ⟨w_452, hw_452, h⟩ := ob h
      refine LP_452 fu (0 : Int32) (0 : Int32) (0 : Int32) v_now w_452 H _ ls hw_452 hP hD hS (lv_sub hl [4, 5, 6, 2, 1, 0] rfl) (fun H locs ls hP hD hS hl => ?_)
      refine lv_aload_n hx hb dX10_copies_109 rfl (lv_at hl 0 rfl) ?_
      refine lv_iconst (v := 0) hx hb dX10_copies_110 (by decide) ?_
      refine va_put (D := (dC, dI)) (ci := 8) (v := .int (0 : Int32)) (ty := .int) (C := RX10) (T := TX10) (N := 26) hx hb hts hi_X10 tyX10 tyX10_ok nmX10 hown hK hP hD hS 0 rfl rfl 4 (by decide) (hts _ (List.mem_of_getElem? (i := 2) rfl)) (fun _ h9 => h9) rfl (by decide +kernel) rfl rfl (Nat.le_of_ble_eq_true rfl) dX10_copies_111 (fun H locs hP hD hS => ?_)
      replace hP : va_P (dC, dI) vwCl [(h0, .inr (8, [.ref q_now, .ref q_text, .int v_typed, .ref q_row, .int (0 : Int32), .int (0 : Int32), .int v_length, .int v_at, .int v_wrong, .ref q_read, .ref q_ranks, .ref q_distinct, .ref q_proper, .int v_properMany, .ref q_line, .ref q_order, .int v_orderMany, .ref q_then, .ref q_bestOrder, .ref q_lineThen, .ref q_undos, .ref q_was, .int o_436.1, .int v_drawn, .ref q_kept, .ref q_isKept])), (q_now, .inl (cJ, 120, .inr (.inl w_452.2.2))), (q_row, .inl (cJ, 64, .inr (.inl v_row))), (q_undos, .inl (cJ, 960, .inr (.inl o_436.2.1))), (q_was, .inl (cJ, 120, .inr (.inl o_436.2.2)))] H := hP
      replace hD : va_D A [(h0, .inr (8, [.ref q_now, .ref q_text, .int v_typed, .ref q_row, .int (0 : Int32), .int (0 : Int32), .int v_length, .int v_at, .int v_wrong, .ref q_read, .ref q_ranks, .ref q_distinct, .ref q_proper, .int v_properMany, .ref q_line, .ref q_order, .int v_orderMany, .ref q_then, .ref q_bestOrder, .ref q_lineThen, .ref q_undos, .ref q_was, .int o_436.1, .int v_drawn, .ref q_kept, .ref q_isKept])), (q_now, .inl (cJ, 120, .inr (.inl w_452.2.2))), (q_row, .inl (cJ, 64, .inr (.inl v_row))), (q_undos, .inl (cJ, 960, .inr (.inl o_436.2.1))), (q_was, .inl (cJ, 120, .inr (.inl o_436.2.2)))] := hD
      refine lv_aload_n hx hb dX10_copies_114 rfl (lv_at hl 0 rfl) ?_
      refine lv_iload hx hb dX10_copies_115 (lv_at hl 2 rfl) ?_
      refine lv_i2l (v := (w_452.2.1).toInt64) hx hb dX10_copies_117 rfl ?_
      obtain ⟨o_453, hr_453, h⟩ := ob h
      have hPc := hP.sub (ws' := [(h0, .inr (8, [.ref q_now, .ref q_text, .int v_typed, .ref q_row, .int (0 : Int32), .int (0 : Int32), .int v_length, .int v_at, .int v_wrong, .ref q_read, .ref q_ranks, .ref q_distinct, .ref q_proper, .int v_properMany, .ref q_line, .ref q_order, .int v_orderMany, .ref q_then, .ref q_bestOrder, .ref q_lineThen, .ref q_undos, .ref q_was, .int o_436.1, .int v_drawn, .ref q_kept, .ref q_isKept])), (q_row, .inl (cJ, 64, .inr (.inl v_row)))]) [0, 2] rfl
      have hDc := hD.sub (ws' := [(h0, .inr (8, [.ref q_now, .ref q_text, .int v_typed, .ref q_row, .int (0 : Int32), .int (0 : Int32), .int v_length, .int v_at, .int v_wrong, .ref q_read, .ref q_ranks, .ref q_distinct, .ref q_proper, .int v_properMany, .ref q_line, .ref q_order, .int v_orderMany, .ref q_then, .ref q_bestOrder, .ref q_lineThen, .ref q_undos, .ref q_was, .int o_436.1, .int v_drawn, .ref q_kept, .ref q_isKept])), (q_row, .inl (cJ, 64, .inr (.inl v_row)))]) [0, 2] (by decide) rfl
      have hFc := va_free (wc := [(h0, .inr (8, [.ref q_now, .ref q_text, .int v_typed, .ref q_row, .int (0 : Int32), .int (0 : Int32), .int v_length, .int v_at, .int v_wrong, .ref q_read, .ref q_ranks, .ref q_distinct, .ref q_proper, .int v_properMany, .ref q_line, .ref q_order, .int v_orderMany, .ref q_then, .ref q_bestOrder, .ref q_lineThen, .ref q_undos, .ref q_was, .int o_436.1, .int v_drawn, .ref q_kept, .ref q_isKept])), (q_row, .inl (cJ, 64, .inr (.inl v_row)))]) hD hS hA [0, 2] rfl
      refine va_callv (va_runV (As := [.long (w_452.2.1).toInt64]) (rest := []) ⟨hx, hb, hml, hown, hts⟩ (c_X10_tell l dC dI cB cC cI cJ cZ cT h0 q_now q_text q_row q_read q_ranks q_distinct q_proper q_line q_order q_then q_bestOrder q_lineThen q_undos q_was q_kept q_isKept H.size v_typed (0 : Int32) (0 : Int32) v_length v_at v_wrong v_properMany v_orderMany o_436.1 v_drawn v_row (w_452.2.1).toInt64 o_453 hr_453) (cwV 1 hts gX10_copies_X10_tell rfl rfl rfl (by decide +kernel) ⟨Nat.le_of_ble_eq_true rfl, Nat.le_of_ble_eq_true rfl⟩) ⟨blW, va_recv hK hP (ci := 8) (q0 := 0) rfl rfl, fun U hU hW => ⟨rfl, by rw [hU], by rw [hU]; exact hPc, va_K.moved hW.alike hK, hDc.weaken (fun _ _ _ _ => trivial)⟩⟩ rfl rfl hl.1 rfl (lv_room (Nat.le_of_ble_eq_true rfl)) dX10_copies_118 ⟨Nat.le_of_ble_eq_true rfl, Nat.le_of_ble_eq_true rfl⟩) hS (fun q _ h => hFc q h) hFc (fun u_453 t_453 H locs ht hvm e_453 hB hz1 hk1 hS => ?_)
      obtain ⟨hP1, -, hD1⟩ := hB
      rw [ht] at hP1
      obtain ⟨hP, hD⟩ := va_join (wr := [(q_now, .inl (cJ, 120, .inr (.inl w_452.2.2))), (q_undos, .inl (cJ, 960, .inr (.inl o_436.2.1))), (q_was, .inl (cJ, 120, .inr (.inl o_436.2.2)))]) (w1 := [(h0, .inr (8, [.ref q_now, .ref q_text, .int v_typed, .ref q_row, .int o_453.1, .int (0 : Int32), .int v_length, .int v_at, .int v_wrong, .ref q_read, .ref q_ranks, .ref q_distinct, .ref q_proper, .int v_properMany, .ref q_line, .ref q_order, .int v_orderMany, .ref q_then, .ref q_bestOrder, .ref q_lineThen, .ref q_undos, .ref q_was, .int o_436.1, .int v_drawn, .ref q_kept, .ref q_isKept])), (q_row, .inl (cJ, 64, .inr (.inl o_453.2)))]) hP hD [0, 2] [1, 3, 4] rfl rfl (by decide) (by decide) hk1 hFc hP1 hD1
      replace hP := hP.sub (ws' := [(h0, .inr (8, [.ref q_now, .ref q_text, .int v_typed, .ref q_row, .int o_453.1, .int (0 : Int32), .int v_length, .int v_at, .int v_wrong, .ref q_read, .ref q_ranks, .ref q_distinct, .ref q_proper, .int v_properMany, .ref q_line, .ref q_order, .int v_orderMany, .ref q_then, .ref q_bestOrder, .ref q_lineThen, .ref q_undos, .ref q_was, .int o_436.1, .int v_drawn, .ref q_kept, .ref q_isKept])), (q_now, .inl (cJ, 120, .inr (.inl w_452.2.2))), (q_row, .inl (cJ, 64, .inr (.inl o_453.2))), (q_undos, .inl (cJ, 960, .inr (.inl o_436.2.1))), (q_was, .inl (cJ, 120, .inr (.inl o_436.2.2)))]) [3, 0, 4, 1, 2] rfl
      replace hD := hD.sub (ws' := [(h0, .inr (8, [.ref q_now, .ref q_text, .int v_typed, .ref q_row, .int o_453.1, .int (0 : Int32), .int v_length, .int v_at, .int v_wrong, .ref q_read, .ref q_ranks, .ref q_distinct, .ref q_proper, .int v_properMany, .ref q_line, .ref q_order, .int v_orderMany, .ref q_then, .ref q_bestOrder, .ref q_lineThen, .ref q_undos, .ref q_was, .int o_436.1, .int v_drawn, .ref q_kept, .ref q_isKept])), (q_now, .inl (cJ, 120, .inr (.inl w_452.2.2))), (q_row, .inl (cJ, 64, .inr (.inl o_453.2))), (q_undos, .inl (cJ, 960, .inr (.inl o_436.2.1))), (q_was, .inl (cJ, 120, .inr (.inl o_436.2.2)))]) [3, 0, 4, 1, 2] (by decide) rfl
      refine lv_iload hx hb dX10_copies_121 (lv_at hl 1 rfl) ?_
      rw [hQQ]
      have ho := Option.some.inj h
      subst ho
      exact W.iret hx hb hr (fun t ht hW => ⟨⟨_, (), rfl, rfl, by rw [ht]; exact hP, va_K.moved hW.alike hK, hD⟩, hS.F ht⟩) hS.2.2 dX10_copies_123
    · replace h := on c_435 h
      refine lv_iload_n hx hb dX10_copies_25 rfl (lv_at hl 0 rfl) ?_
      rw [hQQ]
      have ho := Option.some.inj h
      subst ho
      exact W.iret hx hb hr (fun t ht hW => ⟨⟨_, (), rfl, rfl, by rw [ht]; exact hP, va_K.moved hW.alike hK, hD⟩, hS.F ht⟩) hS.2.2 dX10_copies_26
  replace h := hv_428
  refine lv_icmp_ne (tgt := 14) hx hb dX10_copies_7 (by decide) (fun c_432 => ?_) (fun c_432 => ?_)
  · replace h := on c_432 h
    refine lv_aload_n hx hb dX10_copies_14 rfl (lv_at hl 0 rfl) ?_
    refine lv_iload_n hx hb dX10_copies_15 rfl (lv_at hl 1 rfl) ?_
    refine lv_iload_n hx hb dX10_copies_16 rfl (lv_at hl 2 rfl) ?_
    obtain ⟨o_433, hr_433, h⟩ := ob h
    refine vp_callSi (va_Run.run (va_runV (As := [.int x1, .int x2]) (rest := []) ⟨hx, hb, hml, hown, hts⟩ (c_X10_refusesBoth l dC dI cB cC cI cJ cZ cT h0 q_now q_text q_row q_read q_ranks q_distinct q_proper q_line q_order q_then q_bestOrder q_lineThen q_undos q_was q_kept q_isKept v_typed v_rowMany (0 : Int32) v_length v_at v_wrong v_properMany v_orderMany v_undoMany v_drawn v_now x1 x2 o_433 hr_433) (cwV 2 hts gX10_copies_X10_refusesBoth rfl rfl rfl (by decide +kernel) ⟨Nat.le_of_ble_eq_true rfl, Nat.le_of_ble_eq_true rfl⟩) ⟨blR, va_recv hK hP (ci := 8) (q0 := 0) rfl rfl, fun U hU hW => ⟨rfl, by rw [hU]; exact hP.sub [0, 1] rfl, va_K.moved hW.alike hK⟩⟩ rfl rfl hl.1 rfl (lv_room (Nat.le_of_ble_eq_true rfl)) dX10_copies_17 ⟨Nat.le_of_ble_eq_true rfl, Nat.le_of_ble_eq_true rfl⟩)) (fun r_433 e_433 => ?_)
    subst e_433
    have ho := Option.some.inj h
    subst ho
    exact J_428 H _ ls hP hD hS (lv_sub hl [0, 1, 2] rfl)
  · replace h := op c_432 h
    refine lv_iconst (v := -1) hx hb dX10_copies_10 (by decide) ?_
    refine lv_goto (tgt := 20) hx hb dX10_copies_11 (by decide) ?_
    have ho := Option.some.inj h
    subst ho
    exact J_428 H _ ls hP hD hS (lv_sub hl [0, 1, 2] rfl)
def f_X10_worth (x0 : Int32) (x1 : Int64) : Option UInt64 :=
  (if x0 = (6 : Int32) then (if vn_sni2f (x1).toInt32 = true then none else (if ¬ ((FP.f2d ((x1).toInt32).toUInt32) &&& 0x7fffffffffffffff ≤ 0x7ff0000000000000) then none else (some (FP.f2d ((x1).toInt32).toUInt32)))) else (if x0 = (7 : Int32) then (if vn_snl2d x1 = true then none else (some (x1).toUInt64)) else (some (FP.l2d x1))))
abbrev rm_X10_worth : Room := { frames := 1, cells := 0, slots := 0, locals := 23 }
set_option maxHeartbeats 4000000 in
set_option maxRecDepth 100000 in
theorem c_X10_worth (l : Launch) (dC : Nat → ClassId) (dI : Nat → Nat → Nat) (cB cC cI cJ cZ cT : ClassId) (x0 : Int32) (x1 : Int64) (o : UInt64) (hf : f_X10_worth x0 x1 = some o) : Met l yX10_worth wsX10_worth rm_X10_worth (va_Pc [.int x0, .long x1] (fun _ => True)) (vp_Sd (fun r => o = r)) 0 0 (fun _ => False) := by
  refine Met.ofW (cc := cX10_worth) (maxL := 3) (ret := (some .double)) (by decide) rfl ?_
  intro p e s m args below meth c s₁ B hml hv
  obtain ⟨hav, -⟩ := hv
  have hx := B.exec
  have hb := B.bytes
  have hr := B.returns
  have hts := atoms_spec (ws := wsX10_worth) B.pre
  have hown : s.vm.findClass RX10 = some m.cls := findClass_of_methodNamed B.named
  have hlocks := B.notSynchronized
  refine wstart (rm := rm_X10_worth) hav (Nat.le_of_ble_eq_true rfl) (fun QQ ls hQQ hl => ?_)
  have hl : lv_has ls 3 [(0, .int x0), (1, .long x1)] := hl
  have h := hf
  unfold f_X10_worth at h
  refine lv_iload_n hx hb dX10_worth_0 rfl (lv_at hl 0 rfl) ?_
  refine lv_bipush (v := 6) hx hb dX10_worth_1 (by decide) ?_
  refine lv_icmp_ne (tgt := 15) hx hb dX10_worth_3 (by decide) (fun c_455 => ?_) (fun c_455 => ?_)
  · replace h := on c_455 h
    refine lv_iload_n hx hb dX10_worth_15 rfl (lv_at hl 0 rfl) ?_
    refine lv_bipush (v := 7) hx hb dX10_worth_16 (by decide) ?_
    refine lv_icmp_ne (tgt := 28) hx hb dX10_worth_18 (by decide) (fun c_456 => ?_) (fun c_456 => ?_)
    · replace h := on c_456 h
      refine lv_lload_n hx hb dX10_worth_28 rfl (lv_at hl 1 rfl) ?_
      refine lv_l2d hx hb dX10_worth_29 ?_
      rw [hQQ]
      exact W.dret hx hb hr (fun t ht hW => ⟨_, rfl, (Option.some.inj h).symm, ht⟩) (fun q hq => absurd hq List.not_mem_nil) dX10_worth_30
    · replace h := op c_456 h
      refine lv_lload_n hx hb dX10_worth_21 rfl (lv_at hl 1 rfl) ?_
      obtain ⟨hi_457, h⟩ := og h
      refine vn_l2d hx hb (hml.trans hl.1.symm) hown (hts _ (List.mem_of_getElem? (i := 5) rfl)) (hts _ (List.mem_of_getElem? (i := 6) rfl)) (hts _ (List.mem_of_getElem? (i := 7) rfl)) (hts _ (List.mem_of_getElem? (i := 8) rfl)) (Bool.eq_false_iff.mpr hi_457) (Nat.le_of_ble_eq_true rfl) (Nat.le_of_ble_eq_true rfl) dX10_worth_22 ?_
      refine lv_goto (tgt := 30) hx hb dX10_worth_25 (by decide) ?_
      rw [hQQ]
      exact W.dret hx hb hr (fun t ht hW => ⟨_, rfl, (Option.some.inj h).symm, ht⟩) (fun q hq => absurd hq List.not_mem_nil) dX10_worth_30
  · replace h := op c_455 h
    refine lv_lload_n hx hb dX10_worth_6 rfl (lv_at hl 1 rfl) ?_
    refine lv_l2i (v := (x1).toInt32) hx hb dX10_worth_7 rfl ?_
    obtain ⟨hi_458, h⟩ := og h
    refine vn_i2f hx hb (hml.trans hl.1.symm) hown (hts _ (List.mem_of_getElem? (i := 1) rfl)) (hts _ (List.mem_of_getElem? (i := 2) rfl)) (hts _ (List.mem_of_getElem? (i := 3) rfl)) (hts _ (List.mem_of_getElem? (i := 4) rfl)) (Bool.eq_false_iff.mpr hi_458) (Nat.le_of_ble_eq_true rfl) (Nat.le_of_ble_eq_true rfl) dX10_worth_8 ?_
    obtain ⟨hi_459, h⟩ := og h
    refine lv_f2d hx hb dX10_worth_11 (Decidable.not_not.mp hi_459) ?_
    refine lv_goto (tgt := 30) hx hb dX10_worth_12 (by decide) ?_
    rw [hQQ]
    exact W.dret hx hb hr (fun t ht hW => ⟨_, rfl, (Option.some.inj h).symm, ht⟩) (fun q hq => absurd hq List.not_mem_nil) dX10_worth_30
def f_X10_areSame (v_now : Nat → Int64) (x1 : Int32) (x2 : Int32) (x3 : Int32) : Option Bool :=
  ((f_X10_kindOf v_now x1).bind (fun o_460 => ((f_X10_kindOf v_now x2).bind (fun o_462 => ((f_X10_cell v_now x1 x3).bind (fun o_464 => ((f_X10_cell v_now x2 x3).bind (fun o_466 => (((if o_460 < (8 : Int32) then (some (0 : Int32)) else (((if (lg_cmp o_464 (-9223372036854775808 : Int64)) = 0 then (some (1 : Int32)) else (some (0 : Int32)))).bind (fun v_474 => (some v_474))))).bind (fun v_468 => (((if o_462 < (8 : Int32) then (some (0 : Int32)) else (((if (lg_cmp o_466 (-9223372036854775808 : Int64)) = 0 then (some (1 : Int32)) else (some (0 : Int32)))).bind (fun v_483 => (some v_483))))).bind (fun v_477 => (if v_468 = 0 then (if v_477 = 0 then ((f_X10_in o_460 (1 : Int32) (8 : Int32)).bind (fun o_490 => (if (b2i o_490) = 0 then (if o_460 = o_462 then (if (lg_cmp o_464 o_466) = 0 then (some true) else (some false)) else (some false)) else ((f_X10_in o_462 (1 : Int32) (8 : Int32)).bind (fun o_495 => (if (b2i o_495) = 0 then (if o_460 = o_462 then (if (lg_cmp o_464 o_466) = 0 then (some true) else (some false)) else (some false)) else ((f_X10_worth o_460 o_464).bind (fun o_500 => ((f_X10_worth o_462 o_466).bind (fun o_502 => (if (Op.cmpValue (FP.dcmp o_500 o_502) .l) = 0 then (some true) else (some false)))))))))))) else (if v_468 = 0 then (some false) else (if v_477 = 0 then (some false) else (some true)))) else (if v_468 = 0 then (some false) else (if v_477 = 0 then (some false) else (some true))))))))))))))))
abbrev rm_X10_areSame : Room := { frames := 2, cells := 0, slots := 0, locals := 45 }
set_option maxHeartbeats 4000000 in
set_option maxRecDepth 100000 in
theorem c_X10_areSame (l : Launch) (dC : Nat → ClassId) (dI : Nat → Nat → Nat) (cB cC cI cJ cZ cT : ClassId) (h0 q_now q_text q_row q_read q_ranks q_distinct q_proper q_line q_order q_then q_bestOrder q_lineThen q_undos q_was q_kept q_isKept : Nat) (v_typed : Int32) (v_rowMany : Int32) (v_thrown : Int32) (v_length : Int32) (v_at : Int32) (v_wrong : Int32) (v_properMany : Int32) (v_orderMany : Int32) (v_undoMany : Int32) (v_drawn : Int32) (v_now : Nat → Int64) (x1 : Int32) (x2 : Int32) (x3 : Int32) (o : Bool) (hf : f_X10_areSame v_now x1 x2 x3 = some o) : Met l yX10_areSame wsX10_areSame rm_X10_areSame (va_Pc [.ref h0, .int x1, .int x2, .int x3] (fun U => va_P (dC, dI) vwCl [(h0, .inr (8, [.ref q_now, .ref q_text, .int v_typed, .ref q_row, .int v_rowMany, .int v_thrown, .int v_length, .int v_at, .int v_wrong, .ref q_read, .ref q_ranks, .ref q_distinct, .ref q_proper, .int v_properMany, .ref q_line, .ref q_order, .int v_orderMany, .ref q_then, .ref q_bestOrder, .ref q_lineThen, .ref q_undos, .ref q_was, .int v_undoMany, .int v_drawn, .ref q_kept, .ref q_isKept])), (q_now, .inl (cJ, 120, .inr (.inl v_now)))] U.heap ∧ va_K (dC, dI) vwCl (tyA cB cC cI cJ cZ cT) U)) (vp_Si (fun r => b2i o = r)) 0 0 (fun _ => False) := by
  refine Met.ofW (cc := cX10_areSame) (maxL := 12) (ret := (some .boolean)) (by decide) rfl ?_
  intro p e s m args below meth c s₁ B hml hv
  obtain ⟨hav, hP, hK⟩ := hv
  have hx := B.exec
  have hb := B.bytes
  have hr := B.returns
  have hts := atoms_spec (ws := wsX10_areSame) B.pre
  have hown : s.vm.findClass RX10 = some m.cls := findClass_of_methodNamed B.named
  have hlocks := B.notSynchronized
  refine wstart (rm := rm_X10_areSame) hav (Nat.le_of_ble_eq_true rfl) (fun QQ ls hQQ hl => ?_)
  have hl : lv_has ls 12 [(0, .ref h0), (1, .int x1), (2, .int x2), (3, .int x3)] := hl
  have h := hf
  unfold f_X10_areSame at h
  refine lv_aload_n hx hb dX10_areSame_0 rfl (lv_at hl 0 rfl) ?_
  refine lv_iload_n hx hb dX10_areSame_1 rfl (lv_at hl 1 rfl) ?_
  obtain ⟨o_460, hr_460, h⟩ := ob h
  refine vp_callSi (va_Run.run (va_runV (As := [.int x1]) (rest := []) ⟨hx, hb, hml, hown, hts⟩ (c_X10_kindOf l dC dI cB cC cI cJ cZ cT h0 q_now q_text q_row q_read q_ranks q_distinct q_proper q_line q_order q_then q_bestOrder q_lineThen q_undos q_was q_kept q_isKept v_typed v_rowMany v_thrown v_length v_at v_wrong v_properMany v_orderMany v_undoMany v_drawn v_now x1 o_460 hr_460) (cwV 1 hts gX10_areSame_X10_kindOf rfl rfl rfl (by decide +kernel) ⟨Nat.le_of_ble_eq_true rfl, Nat.le_of_ble_eq_true rfl⟩) ⟨blR, va_recv hK hP (ci := 8) (q0 := 0) rfl rfl, fun U hU hW => ⟨rfl, by rw [hU]; exact hP.sub [0, 1] rfl, va_K.moved hW.alike hK⟩⟩ rfl rfl hl.1 rfl (lv_room (Nat.le_of_ble_eq_true rfl)) dX10_areSame_2 ⟨Nat.le_of_ble_eq_true rfl, Nat.le_of_ble_eq_true rfl⟩)) (fun r_460 e_460 => ?_)
  subst e_460
  refine lv_istore (lv' := [(4, .int o_460), (0, .ref h0), (1, .int x1), (2, .int x2), (3, .int x3)]) hx hb dX10_areSame_5 hl (by decide) rfl (fun ls hl => ?_)
  refine lv_aload_n hx hb dX10_areSame_7 rfl (lv_at hl 1 rfl) ?_
  refine lv_iload_n hx hb dX10_areSame_8 rfl (lv_at hl 3 rfl) ?_
  obtain ⟨o_462, hr_462, h⟩ := ob h
  refine vp_callSi (va_Run.run (va_runV (As := [.int x2]) (rest := []) ⟨hx, hb, hml, hown, hts⟩ (c_X10_kindOf l dC dI cB cC cI cJ cZ cT h0 q_now q_text q_row q_read q_ranks q_distinct q_proper q_line q_order q_then q_bestOrder q_lineThen q_undos q_was q_kept q_isKept v_typed v_rowMany v_thrown v_length v_at v_wrong v_properMany v_orderMany v_undoMany v_drawn v_now x2 o_462 hr_462) (cwV 1 hts gX10_areSame_X10_kindOf rfl rfl rfl (by decide +kernel) ⟨Nat.le_of_ble_eq_true rfl, Nat.le_of_ble_eq_true rfl⟩) ⟨blR, va_recv hK hP (ci := 8) (q0 := 0) rfl rfl, fun U hU hW => ⟨rfl, by rw [hU]; exact hP.sub [0, 1] rfl, va_K.moved hW.alike hK⟩⟩ rfl rfl hl.1 rfl (lv_room (Nat.le_of_ble_eq_true rfl)) dX10_areSame_9 ⟨Nat.le_of_ble_eq_true rfl, Nat.le_of_ble_eq_true rfl⟩)) (fun r_462 e_462 => ?_)
  subst e_462
  refine lv_istore (lv' := [(5, .int o_462), (4, .int o_460), (0, .ref h0), (1, .int x1), (2, .int x2), (3, .int x3)]) hx hb dX10_areSame_12 hl (by decide) rfl (fun ls hl => ?_)
  refine lv_aload_n hx hb dX10_areSame_14 rfl (lv_at hl 2 rfl) ?_
  refine lv_iload_n hx hb dX10_areSame_15 rfl (lv_at hl 3 rfl) ?_
  refine lv_iload_n hx hb dX10_areSame_16 rfl (lv_at hl 5 rfl) ?_
  obtain ⟨o_464, hr_464, h⟩ := ob h
  refine vp_callSl (va_Run.run (va_runV (As := [.int x1, .int x3]) (rest := []) ⟨hx, hb, hml, hown, hts⟩ (c_X10_cell l dC dI cB cC cI cJ cZ cT h0 q_now q_text q_row q_read q_ranks q_distinct q_proper q_line q_order q_then q_bestOrder q_lineThen q_undos q_was q_kept q_isKept v_typed v_rowMany v_thrown v_length v_at v_wrong v_properMany v_orderMany v_undoMany v_drawn v_now x1 x3 o_464 hr_464) (cwV 2 hts gX10_areSame_X10_cell rfl rfl rfl (by decide +kernel) ⟨Nat.le_of_ble_eq_true rfl, Nat.le_of_ble_eq_true rfl⟩) ⟨blR, va_recv hK hP (ci := 8) (q0 := 0) rfl rfl, fun U hU hW => ⟨rfl, by rw [hU]; exact hP.sub [0, 1] rfl, va_K.moved hW.alike hK⟩⟩ rfl rfl hl.1 rfl (lv_room (Nat.le_of_ble_eq_true rfl)) dX10_areSame_17 ⟨Nat.le_of_ble_eq_true rfl, Nat.le_of_ble_eq_true rfl⟩)) (fun r_464 e_464 => ?_)
  subst e_464
  refine lv_lstore (lv' := [(6, .long o_464), (5, .int o_462), (4, .int o_460), (0, .ref h0), (1, .int x1), (2, .int x2), (3, .int x3)]) hx hb dX10_areSame_20 hl (by decide) rfl (fun ls hl => ?_)
  refine lv_aload_n hx hb dX10_areSame_22 rfl (lv_at hl 3 rfl) ?_
  refine lv_iload_n hx hb dX10_areSame_23 rfl (lv_at hl 5 rfl) ?_
  refine lv_iload_n hx hb dX10_areSame_24 rfl (lv_at hl 6 rfl) ?_
  obtain ⟨o_466, hr_466, h⟩ := ob h
  refine vp_callSl (va_Run.run (va_runV (As := [.int x2, .int x3]) (rest := []) ⟨hx, hb, hml, hown, hts⟩ (c_X10_cell l dC dI cB cC cI cJ cZ cT h0 q_now q_text q_row q_read q_ranks q_distinct q_proper q_line q_order q_then q_bestOrder q_lineThen q_undos q_was q_kept q_isKept v_typed v_rowMany v_thrown v_length v_at v_wrong v_properMany v_orderMany v_undoMany v_drawn v_now x2 x3 o_466 hr_466) (cwV 2 hts gX10_areSame_X10_cell rfl rfl rfl (by decide +kernel) ⟨Nat.le_of_ble_eq_true rfl, Nat.le_of_ble_eq_true rfl⟩) ⟨blR, va_recv hK hP (ci := 8) (q0 := 0) rfl rfl, fun U hU hW => ⟨rfl, by rw [hU]; exact hP.sub [0, 1] rfl, va_K.moved hW.alike hK⟩⟩ rfl rfl hl.1 rfl (lv_room (Nat.le_of_ble_eq_true rfl)) dX10_areSame_25 ⟨Nat.le_of_ble_eq_true rfl, Nat.le_of_ble_eq_true rfl⟩)) (fun r_466 e_466 => ?_)
  subst e_466
  refine lv_lstore (lv' := [(8, .long o_466), (6, .long o_464), (5, .int o_462), (4, .int o_460), (0, .ref h0), (1, .int x1), (2, .int x2), (3, .int x3)]) hx hb dX10_areSame_28 hl (by decide) rfl (fun ls hl => ?_)
  refine lv_iload hx hb dX10_areSame_30 (lv_at hl 3 rfl) ?_
  refine lv_bipush (v := 8) hx hb dX10_areSame_32 (by decide) ?_
  obtain ⟨v_468, hv_468, h⟩ := ob h
  have J_468 : ∀ (ls : Array Slot), lv_has ls 12 [(4, .int o_460), (5, .int o_462), (6, .long o_464), (8, .long o_466)] → W p l e rm_X10_areSame s m args below meth c s.heap [] 0 0 QQ (F0 m 51 ls [.int v_468]) := by
    intro ls hl
    refine lv_istore (lv' := [(10, .int v_468), (4, .int o_460), (5, .int o_462), (6, .long o_464), (8, .long o_466)]) hx hb dX10_areSame_51 hl (by decide) rfl (fun ls hl => ?_)
    refine lv_iload hx hb dX10_areSame_53 (lv_at hl 2 rfl) ?_
    refine lv_bipush (v := 8) hx hb dX10_areSame_55 (by decide) ?_
    obtain ⟨v_477, hv_477, h⟩ := ob h
    have J_477 : ∀ (ls : Array Slot), lv_has ls 12 [(4, .int o_460), (5, .int o_462), (6, .long o_464), (8, .long o_466), (10, .int v_468)] → W p l e rm_X10_areSame s m args below meth c s.heap [] 0 0 QQ (F0 m 74 ls [.int v_477]) := by
      intro ls hl
      refine lv_istore (lv' := [(11, .int v_477), (4, .int o_460), (5, .int o_462), (6, .long o_464), (8, .long o_466), (10, .int v_468)]) hx hb dX10_areSame_74 hl (by decide) rfl (fun ls hl => ?_)
      refine lv_iload hx hb dX10_areSame_76 (lv_at hl 5 rfl) ?_
      refine lv_if_ne (tgt := 86) hx hb dX10_areSame_78 (by decide) (fun c_486 => ?_) (fun c_486 => ?_)
      · replace h := on c_486 h
        refine lv_iload hx hb dX10_areSame_86 (lv_at hl 5 rfl) ?_
        refine lv_if_eq (tgt := 100) hx hb dX10_areSame_88 (by decide) (fun c_487 => ?_) (fun c_487 => ?_)
        · replace h := op c_487 h
          refine lv_iconst (v := 0) hx hb dX10_areSame_100 (by decide) ?_
          rw [hQQ]
          exact W.zret hx hb hr rfl (fun t ht hW => ⟨_, rfl, (congrArg b2i (Option.some.inj h).symm), ht⟩) (fun q hq => absurd hq List.not_mem_nil) dX10_areSame_101
        · replace h := on c_487 h
          refine lv_iload hx hb dX10_areSame_91 (lv_at hl 0 rfl) ?_
          refine lv_if_eq (tgt := 100) hx hb dX10_areSame_93 (by decide) (fun c_488 => ?_) (fun c_488 => ?_)
          · replace h := op c_488 h
            refine lv_iconst (v := 0) hx hb dX10_areSame_100 (by decide) ?_
            rw [hQQ]
            exact W.zret hx hb hr rfl (fun t ht hW => ⟨_, rfl, (congrArg b2i (Option.some.inj h).symm), ht⟩) (fun q hq => absurd hq List.not_mem_nil) dX10_areSame_101
          · replace h := on c_488 h
            refine lv_iconst (v := 1) hx hb dX10_areSame_96 (by decide) ?_
            refine lv_goto (tgt := 101) hx hb dX10_areSame_97 (by decide) ?_
            rw [hQQ]
            exact W.zret hx hb hr rfl (fun t ht hW => ⟨_, rfl, (congrArg b2i (Option.some.inj h).symm), ht⟩) (fun q hq => absurd hq List.not_mem_nil) dX10_areSame_101
      · replace h := op c_486 h
        refine lv_iload hx hb dX10_areSame_81 (lv_at hl 0 rfl) ?_
        refine lv_if_eq (tgt := 102) hx hb dX10_areSame_83 (by decide) (fun c_489 => ?_) (fun c_489 => ?_)
        · replace h := op c_489 h
          refine lv_iload hx hb dX10_areSame_102 (lv_at hl 1 rfl) ?_
          refine lv_iconst (v := 1) hx hb dX10_areSame_104 (by decide) ?_
          refine lv_bipush (v := 8) hx hb dX10_areSame_105 (by decide) ?_
          obtain ⟨o_490, hr_490, h⟩ := ob h
          refine vp_callSi (va_Run.run (va_runS (As := [.int o_460, .int (1 : Int32), .int (8 : Int32)]) (rest := []) ⟨hx, hb, hml, hown, hts⟩ (c_X10_in l dC dI cB cC cI cJ cZ cT o_460 (1 : Int32) (8 : Int32) o_490 hr_490) (va_cwS 3 hts gX10_areSame_X10_in rfl rfl rfl (by decide +kernel) ⟨Nat.le_of_ble_eq_true rfl, Nat.le_of_ble_eq_true rfl⟩) ⟨blT, fun U hU hW => ⟨rfl, trivial⟩⟩ rfl rfl hl.1 rfl (lv_room (Nat.le_of_ble_eq_true rfl)) dX10_areSame_107 ⟨Nat.le_of_ble_eq_true rfl, Nat.le_of_ble_eq_true rfl⟩)) (fun r_490 e_490 => ?_)
          subst e_490
          refine lv_if_eq (tgt := 148) hx hb dX10_areSame_110 (by decide) (fun c_492 => ?_) (fun c_492 => ?_)
          · replace h := op c_492 h
            refine lv_iload hx hb dX10_areSame_148 (lv_at hl 1 rfl) ?_
            refine lv_iload hx hb dX10_areSame_150 (lv_at hl 2 rfl) ?_
            refine lv_icmp_ne (tgt := 167) hx hb dX10_areSame_152 (by decide) (fun c_493 => ?_) (fun c_493 => ?_)
            · replace h := on c_493 h
              refine lv_iconst (v := 0) hx hb dX10_areSame_167 (by decide) ?_
              rw [hQQ]
              exact W.zret hx hb hr rfl (fun t ht hW => ⟨_, rfl, (congrArg b2i (Option.some.inj h).symm), ht⟩) (fun q hq => absurd hq List.not_mem_nil) dX10_areSame_168
            · replace h := op c_493 h
              refine lv_lload hx hb dX10_areSame_155 (lv_at hl 3 rfl) ?_
              refine lv_lload hx hb dX10_areSame_157 (lv_at hl 4 rfl) ?_
              refine W.lcmp hx hb dX10_areSame_159 ?_
              refine lv_if_ne (tgt := 167) hx hb dX10_areSame_160 (by decide) (fun c_494 => ?_) (fun c_494 => ?_)
              · replace h := on c_494 h
                refine lv_iconst (v := 0) hx hb dX10_areSame_167 (by decide) ?_
                rw [hQQ]
                exact W.zret hx hb hr rfl (fun t ht hW => ⟨_, rfl, (congrArg b2i (Option.some.inj h).symm), ht⟩) (fun q hq => absurd hq List.not_mem_nil) dX10_areSame_168
              · replace h := op c_494 h
                refine lv_iconst (v := 1) hx hb dX10_areSame_163 (by decide) ?_
                refine lv_goto (tgt := 168) hx hb dX10_areSame_164 (by decide) ?_
                rw [hQQ]
                exact W.zret hx hb hr rfl (fun t ht hW => ⟨_, rfl, (congrArg b2i (Option.some.inj h).symm), ht⟩) (fun q hq => absurd hq List.not_mem_nil) dX10_areSame_168
          · replace h := on c_492 h
            refine lv_iload hx hb dX10_areSame_113 (lv_at hl 2 rfl) ?_
            refine lv_iconst (v := 1) hx hb dX10_areSame_115 (by decide) ?_
            refine lv_bipush (v := 8) hx hb dX10_areSame_116 (by decide) ?_
            obtain ⟨o_495, hr_495, h⟩ := ob h
            refine vp_callSi (va_Run.run (va_runS (As := [.int o_462, .int (1 : Int32), .int (8 : Int32)]) (rest := []) ⟨hx, hb, hml, hown, hts⟩ (c_X10_in l dC dI cB cC cI cJ cZ cT o_462 (1 : Int32) (8 : Int32) o_495 hr_495) (va_cwS 3 hts gX10_areSame_X10_in rfl rfl rfl (by decide +kernel) ⟨Nat.le_of_ble_eq_true rfl, Nat.le_of_ble_eq_true rfl⟩) ⟨blT, fun U hU hW => ⟨rfl, trivial⟩⟩ rfl rfl hl.1 rfl (lv_room (Nat.le_of_ble_eq_true rfl)) dX10_areSame_118 ⟨Nat.le_of_ble_eq_true rfl, Nat.le_of_ble_eq_true rfl⟩)) (fun r_495 e_495 => ?_)
            subst e_495
            refine lv_if_eq (tgt := 148) hx hb dX10_areSame_121 (by decide) (fun c_497 => ?_) (fun c_497 => ?_)
            · replace h := op c_497 h
              refine lv_iload hx hb dX10_areSame_148 (lv_at hl 1 rfl) ?_
              refine lv_iload hx hb dX10_areSame_150 (lv_at hl 2 rfl) ?_
              refine lv_icmp_ne (tgt := 167) hx hb dX10_areSame_152 (by decide) (fun c_498 => ?_) (fun c_498 => ?_)
              · replace h := on c_498 h
                refine lv_iconst (v := 0) hx hb dX10_areSame_167 (by decide) ?_
                rw [hQQ]
                exact W.zret hx hb hr rfl (fun t ht hW => ⟨_, rfl, (congrArg b2i (Option.some.inj h).symm), ht⟩) (fun q hq => absurd hq List.not_mem_nil) dX10_areSame_168
              · replace h := op c_498 h
                refine lv_lload hx hb dX10_areSame_155 (lv_at hl 3 rfl) ?_
                refine lv_lload hx hb dX10_areSame_157 (lv_at hl 4 rfl) ?_
                refine W.lcmp hx hb dX10_areSame_159 ?_
                refine lv_if_ne (tgt := 167) hx hb dX10_areSame_160 (by decide) (fun c_499 => ?_) (fun c_499 => ?_)
                · replace h := on c_499 h
                  refine lv_iconst (v := 0) hx hb dX10_areSame_167 (by decide) ?_
                  rw [hQQ]
                  exact W.zret hx hb hr rfl (fun t ht hW => ⟨_, rfl, (congrArg b2i (Option.some.inj h).symm), ht⟩) (fun q hq => absurd hq List.not_mem_nil) dX10_areSame_168
                · replace h := op c_499 h
                  refine lv_iconst (v := 1) hx hb dX10_areSame_163 (by decide) ?_
                  refine lv_goto (tgt := 168) hx hb dX10_areSame_164 (by decide) ?_
                  rw [hQQ]
                  exact W.zret hx hb hr rfl (fun t ht hW => ⟨_, rfl, (congrArg b2i (Option.some.inj h).symm), ht⟩) (fun q hq => absurd hq List.not_mem_nil) dX10_areSame_168
            · replace h := on c_497 h
              refine lv_iload hx hb dX10_areSame_124 (lv_at hl 1 rfl) ?_
              refine lv_lload hx hb dX10_areSame_126 (lv_at hl 3 rfl) ?_
              obtain ⟨o_500, hr_500, h⟩ := ob h
              refine vp_callSd (va_Run.run (va_runS (As := [.int o_460, .long o_464]) (rest := []) ⟨hx, hb, hml, hown, hts⟩ (c_X10_worth l dC dI cB cC cI cJ cZ cT o_460 o_464 o_500 hr_500) (va_cwS 2 hts gX10_areSame_X10_worth rfl rfl rfl (by decide +kernel) ⟨Nat.le_of_ble_eq_true rfl, Nat.le_of_ble_eq_true rfl⟩) ⟨blT, fun U hU hW => ⟨rfl, trivial⟩⟩ rfl rfl hl.1 rfl (lv_room (Nat.le_of_ble_eq_true rfl)) dX10_areSame_128 ⟨Nat.le_of_ble_eq_true rfl, Nat.le_of_ble_eq_true rfl⟩)) (fun r_500 e_500 => ?_)
              subst e_500
              refine lv_iload hx hb dX10_areSame_131 (lv_at hl 2 rfl) ?_
              refine lv_lload hx hb dX10_areSame_133 (lv_at hl 4 rfl) ?_
              obtain ⟨o_502, hr_502, h⟩ := ob h
              refine vp_callSd (va_Run.run (va_runS (As := [.int o_462, .long o_466]) (rest := [.double o_500]) ⟨hx, hb, hml, hown, hts⟩ (c_X10_worth l dC dI cB cC cI cJ cZ cT o_462 o_466 o_502 hr_502) (va_cwS 2 hts gX10_areSame_X10_worth rfl rfl rfl (by decide +kernel) ⟨Nat.le_of_ble_eq_true rfl, Nat.le_of_ble_eq_true rfl⟩) ⟨blT, fun U hU hW => ⟨rfl, trivial⟩⟩ rfl rfl hl.1 rfl (lv_room (Nat.le_of_ble_eq_true rfl)) dX10_areSame_135 ⟨Nat.le_of_ble_eq_true rfl, Nat.le_of_ble_eq_true rfl⟩)) (fun r_502 e_502 => ?_)
              subst e_502
              refine lv_dcmp hx hb dX10_areSame_138 ?_
              refine lv_if_ne (tgt := 146) hx hb dX10_areSame_139 (by decide) (fun c_504 => ?_) (fun c_504 => ?_)
              · replace h := on c_504 h
                refine lv_iconst (v := 0) hx hb dX10_areSame_146 (by decide) ?_
                rw [hQQ]
                exact W.zret hx hb hr rfl (fun t ht hW => ⟨_, rfl, (congrArg b2i (Option.some.inj h).symm), ht⟩) (fun q hq => absurd hq List.not_mem_nil) dX10_areSame_147
              · replace h := op c_504 h
                refine lv_iconst (v := 1) hx hb dX10_areSame_142 (by decide) ?_
                refine lv_goto (tgt := 147) hx hb dX10_areSame_143 (by decide) ?_
                rw [hQQ]
                exact W.zret hx hb hr rfl (fun t ht hW => ⟨_, rfl, (congrArg b2i (Option.some.inj h).symm), ht⟩) (fun q hq => absurd hq List.not_mem_nil) dX10_areSame_147
        · replace h := on c_489 h
          refine lv_iload hx hb dX10_areSame_86 (lv_at hl 5 rfl) ?_
          refine lv_if_eq (tgt := 100) hx hb dX10_areSame_88 (by decide) (fun c_505 => ?_) (fun c_505 => ?_)
          · replace h := op c_505 h
            refine lv_iconst (v := 0) hx hb dX10_areSame_100 (by decide) ?_
            rw [hQQ]
            exact W.zret hx hb hr rfl (fun t ht hW => ⟨_, rfl, (congrArg b2i (Option.some.inj h).symm), ht⟩) (fun q hq => absurd hq List.not_mem_nil) dX10_areSame_101
          · replace h := on c_505 h
            refine lv_iload hx hb dX10_areSame_91 (lv_at hl 0 rfl) ?_
            refine lv_if_eq (tgt := 100) hx hb dX10_areSame_93 (by decide) (fun c_506 => ?_) (fun c_506 => ?_)
            · replace h := op c_506 h
              refine lv_iconst (v := 0) hx hb dX10_areSame_100 (by decide) ?_
              rw [hQQ]
              exact W.zret hx hb hr rfl (fun t ht hW => ⟨_, rfl, (congrArg b2i (Option.some.inj h).symm), ht⟩) (fun q hq => absurd hq List.not_mem_nil) dX10_areSame_101
            · replace h := on c_506 h
              refine lv_iconst (v := 1) hx hb dX10_areSame_96 (by decide) ?_
              refine lv_goto (tgt := 101) hx hb dX10_areSame_97 (by decide) ?_
              rw [hQQ]
              exact W.zret hx hb hr rfl (fun t ht hW => ⟨_, rfl, (congrArg b2i (Option.some.inj h).symm), ht⟩) (fun q hq => absurd hq List.not_mem_nil) dX10_areSame_101
    replace h := hv_477
    refine lv_icmp_lt (tgt := 73) hx hb dX10_areSame_57 (by decide) (fun c_482 => ?_) (fun c_482 => ?_)
    · replace h := op c_482 h
      refine lv_iconst (v := 0) hx hb dX10_areSame_73 (by decide) ?_
      have ho := Option.some.inj h
      subst ho
      exact J_477 ls (lv_sub hl [1, 2, 3, 4, 0] rfl)
    · replace h := on c_482 h
      refine lv_lload hx hb dX10_areSame_60 (lv_at hl 4 rfl) ?_
      refine lv_ldc2 (v := -9223372036854775808) hx hb hown (hts _ (List.mem_of_getElem? (i := 1) rfl)) dX10_areSame_62 ?_
      refine W.lcmp hx hb dX10_areSame_65 ?_
      obtain ⟨v_483, hv_483, h⟩ := ob h
      have J_483 : ∀ (ls : Array Slot), lv_has ls 12 [(4, .int o_460), (5, .int o_462), (6, .long o_464), (8, .long o_466), (10, .int v_468)] → W p l e rm_X10_areSame s m args below meth c s.heap [] 0 0 QQ (F0 m 74 ls [.int v_483]) := by
        intro ls hl
        have ho := Option.some.inj h
        subst ho
        exact J_477 ls (lv_sub hl [0, 1, 2, 3, 4] rfl)
      replace h := hv_483
      refine lv_if_ne (tgt := 73) hx hb dX10_areSame_66 (by decide) (fun c_485 => ?_) (fun c_485 => ?_)
      · replace h := on c_485 h
        refine lv_iconst (v := 0) hx hb dX10_areSame_73 (by decide) ?_
        have ho := Option.some.inj h
        subst ho
        exact J_483 ls (lv_sub hl [1, 2, 3, 4, 0] rfl)
      · replace h := op c_485 h
        refine lv_iconst (v := 1) hx hb dX10_areSame_69 (by decide) ?_
        refine lv_goto (tgt := 74) hx hb dX10_areSame_70 (by decide) ?_
        have ho := Option.some.inj h
        subst ho
        exact J_483 ls (lv_sub hl [1, 2, 3, 4, 0] rfl)
  replace h := hv_468
  refine lv_icmp_lt (tgt := 50) hx hb dX10_areSame_34 (by decide) (fun c_473 => ?_) (fun c_473 => ?_)
  · replace h := op c_473 h
    refine lv_iconst (v := 0) hx hb dX10_areSame_50 (by decide) ?_
    have ho := Option.some.inj h
    subst ho
    exact J_468 ls (lv_sub hl [3, 2, 1, 0] rfl)
  · replace h := on c_473 h
    refine lv_lload hx hb dX10_areSame_37 (lv_at hl 1 rfl) ?_
    refine lv_ldc2 (v := -9223372036854775808) hx hb hown (hts _ (List.mem_of_getElem? (i := 1) rfl)) dX10_areSame_39 ?_
    refine W.lcmp hx hb dX10_areSame_42 ?_
    obtain ⟨v_474, hv_474, h⟩ := ob h
    have J_474 : ∀ (ls : Array Slot), lv_has ls 12 [(4, .int o_460), (5, .int o_462), (6, .long o_464), (8, .long o_466)] → W p l e rm_X10_areSame s m args below meth c s.heap [] 0 0 QQ (F0 m 51 ls [.int v_474]) := by
      intro ls hl
      have ho := Option.some.inj h
      subst ho
      exact J_468 ls (lv_sub hl [0, 1, 2, 3] rfl)
    replace h := hv_474
    refine lv_if_ne (tgt := 50) hx hb dX10_areSame_43 (by decide) (fun c_476 => ?_) (fun c_476 => ?_)
    · replace h := on c_476 h
      refine lv_iconst (v := 0) hx hb dX10_areSame_50 (by decide) ?_
      have ho := Option.some.inj h
      subst ho
      exact J_474 ls (lv_sub hl [3, 2, 1, 0] rfl)
    · replace h := op c_476 h
      refine lv_iconst (v := 1) hx hb dX10_areSame_46 (by decide) ?_
      refine lv_goto (tgt := 51) hx hb dX10_areSame_47 (by decide) ?_
      have ho := Option.some.inj h
      subst ho
      exact J_474 ls (lv_sub hl [3, 2, 1, 0] rfl)
def L_X10_same_32 (v_now : (Nat → Int64)) (x1 : Int32) (x2 : Int32) : Nat → Int32 → Int32 → Int32 → Option (Int32 × Int32)
  | 0, _, _, _ => none
  | n+1, x4_32, x5_32, x6_32 => (if x6_32 < 0 then (some (x4_32, x5_32)) else ((f_X10_areSame v_now x1 x2 x6_32).bind (fun o_513 => (if (b2i o_513) = 0 then (L_X10_same_32 v_now x1 x2 n x4_32 x6_32 (x6_32 + (-1))) else (L_X10_same_32 v_now x1 x2 n (x4_32 + 1) x5_32 (x6_32 + (-1)))))))
def f_X10_same (v_rowMany : Int32) (v_now : Nat → Int64) (v_row : Nat → Int64) (x1 : Int32) (x2 : Int32) : Option (Int32 × Int32 × Int32 × (Nat → Int64)) :=
  ((f_X10_refusesBoth v_now x1 x2).bind (fun o_507 => (if 0 ≤ o_507 then ((f_X10_rows v_now).bind (fun o_510 => ((L_X10_same_32 v_now x1 x2 fu (0 : Int32) (-1 : Int32) (o_510 - (1 : Int32))).bind (fun w_516 => ((f_X10_tell (0 : Int32) v_row (w_516.2).toInt64).bind (fun o_517 => (some (w_516.1, o_517.1, (0 : Int32), o_517.2)))))))) else (some (o_507, v_rowMany, (0 : Int32), v_row)))))
abbrev rm_X10_same : Room := { frames := 3, cells := 0, slots := 0, locals := 76 }
set_option maxHeartbeats 4000000 in
set_option maxRecDepth 100000 in
theorem c_X10_same (l : Launch) (dC : Nat → ClassId) (dI : Nat → Nat → Nat) (cB cC cI cJ cZ cT : ClassId) (h0 q_now q_text q_row q_read q_ranks q_distinct q_proper q_line q_order q_then q_bestOrder q_lineThen q_undos q_was q_kept q_isKept : Nat) (sz : Nat) (v_typed : Int32) (v_rowMany : Int32) (v_thrown : Int32) (v_length : Int32) (v_at : Int32) (v_wrong : Int32) (v_properMany : Int32) (v_orderMany : Int32) (v_undoMany : Int32) (v_drawn : Int32) (v_now : Nat → Int64) (v_row : Nat → Int64) (x1 : Int32) (x2 : Int32) (o : (Int32 × Int32 × Int32 × (Nat → Int64))) (hf : f_X10_same v_rowMany v_now v_row x1 x2 = some o) : Met l yX10_same wsX10_same rm_X10_same (va_Pc [.ref h0, .int x1, .int x2] (fun U => U.heap.size = sz ∧ va_P (dC, dI) vwCl [(h0, .inr (8, [.ref q_now, .ref q_text, .int v_typed, .ref q_row, .int v_rowMany, .int v_thrown, .int v_length, .int v_at, .int v_wrong, .ref q_read, .ref q_ranks, .ref q_distinct, .ref q_proper, .int v_properMany, .ref q_line, .ref q_order, .int v_orderMany, .ref q_then, .ref q_bestOrder, .ref q_lineThen, .ref q_undos, .ref q_was, .int v_undoMany, .int v_drawn, .ref q_kept, .ref q_isKept])), (q_now, .inl (cJ, 120, .inr (.inl v_now))), (q_row, .inl (cJ, 64, .inr (.inl v_row)))] U.heap ∧ va_K (dC, dI) vwCl (tyA cB cC cI cJ cZ cT) U ∧ va_D (fun _ => True) [(h0, .inr (8, [.ref q_now, .ref q_text, .int v_typed, .ref q_row, .int v_rowMany, .int v_thrown, .int v_length, .int v_at, .int v_wrong, .ref q_read, .ref q_ranks, .ref q_distinct, .ref q_proper, .int v_properMany, .ref q_line, .ref q_order, .int v_orderMany, .ref q_then, .ref q_bestOrder, .ref q_lineThen, .ref q_undos, .ref q_was, .int v_undoMany, .int v_drawn, .ref q_kept, .ref q_isKept])), (q_now, .inl (cJ, 120, .inr (.inl v_now))), (q_row, .inl (cJ, 64, .inr (.inl v_row)))])) (va_Qi (fun (r : Int32) (_ : Unit) => o.1 = r) (fun _ t => va_P (dC, dI) vwCl [(h0, .inr (8, [.ref q_now, .ref q_text, .int v_typed, .ref q_row, .int o.2.1, .int o.2.2.1, .int v_length, .int v_at, .int v_wrong, .ref q_read, .ref q_ranks, .ref q_distinct, .ref q_proper, .int v_properMany, .ref q_line, .ref q_order, .int v_orderMany, .ref q_then, .ref q_bestOrder, .ref q_lineThen, .ref q_undos, .ref q_was, .int v_undoMany, .int v_drawn, .ref q_kept, .ref q_isKept])), (q_now, .inl (cJ, 120, .inr (.inl v_now))), (q_row, .inl (cJ, 64, .inr (.inl o.2.2.2)))] t.heap ∧ va_K (dC, dI) vwCl (tyA cB cC cI cJ cZ cT) t ∧ va_D (va_A [(h0, .inr (8, [.ref q_now, .ref q_text, .int v_typed, .ref q_row, .int v_rowMany, .int v_thrown, .int v_length, .int v_at, .int v_wrong, .ref q_read, .ref q_ranks, .ref q_distinct, .ref q_proper, .int v_properMany, .ref q_line, .ref q_order, .int v_orderMany, .ref q_then, .ref q_bestOrder, .ref q_lineThen, .ref q_undos, .ref q_was, .int v_undoMany, .int v_drawn, .ref q_kept, .ref q_isKept])), (q_now, .inl (cJ, 120, .inr (.inl v_now))), (q_row, .inl (cJ, 64, .inr (.inl v_row)))] sz) [(h0, .inr (8, [.ref q_now, .ref q_text, .int v_typed, .ref q_row, .int o.2.1, .int o.2.2.1, .int v_length, .int v_at, .int v_wrong, .ref q_read, .ref q_ranks, .ref q_distinct, .ref q_proper, .int v_properMany, .ref q_line, .ref q_order, .int v_orderMany, .ref q_then, .ref q_bestOrder, .ref q_lineThen, .ref q_undos, .ref q_was, .int v_undoMany, .int v_drawn, .ref q_kept, .ref q_isKept])), (q_now, .inl (cJ, 120, .inr (.inl v_now))), (q_row, .inl (cJ, 64, .inr (.inl o.2.2.2)))]) (va_A [(h0, .inr (8, [.ref q_now, .ref q_text, .int v_typed, .ref q_row, .int v_rowMany, .int v_thrown, .int v_length, .int v_at, .int v_wrong, .ref q_read, .ref q_ranks, .ref q_distinct, .ref q_proper, .int v_properMany, .ref q_line, .ref q_order, .int v_orderMany, .ref q_then, .ref q_bestOrder, .ref q_lineThen, .ref q_undos, .ref q_was, .int v_undoMany, .int v_drawn, .ref q_kept, .ref q_isKept])), (q_now, .inl (cJ, 120, .inr (.inl v_now))), (q_row, .inl (cJ, 64, .inr (.inl v_row)))] sz)) 0 0 (va_A [(h0, .inr (8, [.ref q_now, .ref q_text, .int v_typed, .ref q_row, .int v_rowMany, .int v_thrown, .int v_length, .int v_at, .int v_wrong, .ref q_read, .ref q_ranks, .ref q_distinct, .ref q_proper, .int v_properMany, .ref q_line, .ref q_order, .int v_orderMany, .ref q_then, .ref q_bestOrder, .ref q_lineThen, .ref q_undos, .ref q_was, .int v_undoMany, .int v_drawn, .ref q_kept, .ref q_isKept])), (q_now, .inl (cJ, 120, .inr (.inl v_now))), (q_row, .inl (cJ, 64, .inr (.inl v_row)))] sz) := by
  refine Met.ofW (cc := cX10_same) (maxL := 7) (ret := (some .int)) (by decide) rfl ?_
  intro p e s m args below meth c s₁ B hml hv
  obtain ⟨hav, hsz, hP, hK, hD0⟩ := hv
  have hx := B.exec
  have hb := B.bytes
  have hr := B.returns
  have hts := atoms_spec (ws := wsX10_same) B.pre
  have hown : s.vm.findClass RX10 = some m.cls := findClass_of_methodNamed B.named
  have hlocks := B.notSynchronized
  subst hsz
  have hD := hD0.self (sz := s.heap.size)
  generalize hAe : va_A [(h0, .inr (8, [.ref q_now, .ref q_text, .int v_typed, .ref q_row, .int v_rowMany, .int v_thrown, .int v_length, .int v_at, .int v_wrong, .ref q_read, .ref q_ranks, .ref q_distinct, .ref q_proper, .int v_properMany, .ref q_line, .ref q_order, .int v_orderMany, .ref q_then, .ref q_bestOrder, .ref q_lineThen, .ref q_undos, .ref q_was, .int v_undoMany, .int v_drawn, .ref q_kept, .ref q_isKept])), (q_now, .inl (cJ, 120, .inr (.inl v_now))), (q_row, .inl (cJ, 64, .inr (.inl v_row)))] s.heap.size = A at hD ⊢
  have hA : ∀ q : Nat, s.heap.size ≤ q → A q := fun q h => by rw [← hAe]; exact Or.inr h
  have hS : va_S A s.heap s.heap [] := va_S.rf
  refine wstart (rm := rm_X10_same) hav (Nat.le_of_ble_eq_true rfl) (fun QQ ls hQQ hl => ?_)
  have hl : lv_has ls 7 [(0, .ref h0), (1, .int x1), (2, .int x2)] := hl
  have hi_X10 : ∀ w ∈ u_ws RX10 TX10 26, w ∈ wsX10_same := by decide +kernel
  have h := hf
  unfold f_X10_same at h
  refine lv_aload_n hx hb dX10_same_0 rfl (lv_at hl 0 rfl) ?_
  refine lv_iconst (v := 0) hx hb dX10_same_1 (by decide) ?_
  refine va_put (D := (dC, dI)) (ci := 8) (v := .int (0 : Int32)) (ty := .int) (C := RX10) (T := TX10) (N := 26) hx hb hts hi_X10 tyX10 tyX10_ok nmX10 hown hK hP hD hS 0 rfl rfl 5 (by decide) (hts _ (List.mem_of_getElem? (i := 1) rfl)) (fun _ h9 => h9) rfl (by decide +kernel) rfl rfl (Nat.le_of_ble_eq_true rfl) dX10_same_2 (fun H locs hP hD hS => ?_)
  replace hP : va_P (dC, dI) vwCl [(h0, .inr (8, [.ref q_now, .ref q_text, .int v_typed, .ref q_row, .int v_rowMany, .int (0 : Int32), .int v_length, .int v_at, .int v_wrong, .ref q_read, .ref q_ranks, .ref q_distinct, .ref q_proper, .int v_properMany, .ref q_line, .ref q_order, .int v_orderMany, .ref q_then, .ref q_bestOrder, .ref q_lineThen, .ref q_undos, .ref q_was, .int v_undoMany, .int v_drawn, .ref q_kept, .ref q_isKept])), (q_now, .inl (cJ, 120, .inr (.inl v_now))), (q_row, .inl (cJ, 64, .inr (.inl v_row)))] H := hP
  replace hD : va_D A [(h0, .inr (8, [.ref q_now, .ref q_text, .int v_typed, .ref q_row, .int v_rowMany, .int (0 : Int32), .int v_length, .int v_at, .int v_wrong, .ref q_read, .ref q_ranks, .ref q_distinct, .ref q_proper, .int v_properMany, .ref q_line, .ref q_order, .int v_orderMany, .ref q_then, .ref q_bestOrder, .ref q_lineThen, .ref q_undos, .ref q_was, .int v_undoMany, .int v_drawn, .ref q_kept, .ref q_isKept])), (q_now, .inl (cJ, 120, .inr (.inl v_now))), (q_row, .inl (cJ, 64, .inr (.inl v_row)))] := hD
  refine lv_aload_n hx hb dX10_same_5 rfl (lv_at hl 0 rfl) ?_
  refine lv_iload_n hx hb dX10_same_6 rfl (lv_at hl 1 rfl) ?_
  refine lv_iload_n hx hb dX10_same_7 rfl (lv_at hl 2 rfl) ?_
  obtain ⟨o_507, hr_507, h⟩ := ob h
  refine vp_callSi (va_Run.run (va_runV (As := [.int x1, .int x2]) (rest := []) ⟨hx, hb, hml, hown, hts⟩ (c_X10_refusesBoth l dC dI cB cC cI cJ cZ cT h0 q_now q_text q_row q_read q_ranks q_distinct q_proper q_line q_order q_then q_bestOrder q_lineThen q_undos q_was q_kept q_isKept v_typed v_rowMany (0 : Int32) v_length v_at v_wrong v_properMany v_orderMany v_undoMany v_drawn v_now x1 x2 o_507 hr_507) (cwV 2 hts gX10_same_X10_refusesBoth rfl rfl rfl (by decide +kernel) ⟨Nat.le_of_ble_eq_true rfl, Nat.le_of_ble_eq_true rfl⟩) ⟨blR, va_recv hK hP (ci := 8) (q0 := 0) rfl rfl, fun U hU hW => ⟨rfl, by rw [hU]; exact hP.sub [0, 1] rfl, va_K.moved hW.alike hK⟩⟩ rfl rfl hl.1 rfl (lv_room (Nat.le_of_ble_eq_true rfl)) dX10_same_8 ⟨Nat.le_of_ble_eq_true rfl, Nat.le_of_ble_eq_true rfl⟩)) (fun r_507 e_507 => ?_)
  subst e_507
  refine lv_istore_n (lv' := [(3, .int o_507), (0, .ref h0), (1, .int x1), (2, .int x2)]) hx hb dX10_same_11 rfl hl (by decide) rfl (fun ls hl => ?_)
  refine lv_iload_n hx hb dX10_same_12 rfl (lv_at hl 0 rfl) ?_
  refine lv_if_ge (tgt := 18) hx hb dX10_same_13 (by decide) (fun c_509 => ?_) (fun c_509 => ?_)
  · replace h := op c_509 h
    refine lv_iconst (v := 0) hx hb dX10_same_18 (by decide) ?_
    refine lv_istore (lv' := [(4, .int (0 : Int32)), (3, .int o_507), (0, .ref h0), (1, .int x1), (2, .int x2)]) hx hb dX10_same_19 hl (by decide) rfl (fun ls hl => ?_)
    refine lv_iconst (v := -1) hx hb dX10_same_21 (by decide) ?_
    refine lv_istore (lv' := [(5, .int (-1 : Int32)), (4, .int (0 : Int32)), (3, .int o_507), (0, .ref h0), (1, .int x1), (2, .int x2)]) hx hb dX10_same_22 hl (by decide) rfl (fun ls hl => ?_)
    refine lv_aload_n hx hb dX10_same_24 rfl (lv_at hl 3 rfl) ?_
    obtain ⟨o_510, hr_510, h⟩ := ob h
    refine vp_callSi (va_Run.run (va_runV (As := []) (rest := []) ⟨hx, hb, hml, hown, hts⟩ (c_X10_rows l dC dI cB cC cI cJ cZ cT h0 q_now q_text q_row q_read q_ranks q_distinct q_proper q_line q_order q_then q_bestOrder q_lineThen q_undos q_was q_kept q_isKept v_typed v_rowMany (0 : Int32) v_length v_at v_wrong v_properMany v_orderMany v_undoMany v_drawn v_now o_510 hr_510) (cwV 0 hts gX10_same_X10_rows rfl rfl rfl (by decide +kernel) ⟨Nat.le_of_ble_eq_true rfl, Nat.le_of_ble_eq_true rfl⟩) ⟨blR, va_recv hK hP (ci := 8) (q0 := 0) rfl rfl, fun U hU hW => ⟨rfl, by rw [hU]; exact hP.sub [0, 1] rfl, va_K.moved hW.alike hK⟩⟩ rfl rfl hl.1 rfl (lv_room (Nat.le_of_ble_eq_true rfl)) dX10_same_25 ⟨Nat.le_of_ble_eq_true rfl, Nat.le_of_ble_eq_true rfl⟩)) (fun r_510 e_510 => ?_)
    subst e_510
    refine lv_iconst (v := 1) hx hb dX10_same_28 (by decide) ?_
    refine lv_isub hx hb dX10_same_29 ?_
    refine lv_istore (lv' := [(6, .int (o_510 - (1 : Int32))), (5, .int (-1 : Int32)), (4, .int (0 : Int32)), (3, .int o_507), (0, .ref h0), (1, .int x1), (2, .int x2)]) hx hb dX10_same_30 hl (by decide) rfl (fun ls hl => ?_)
    have LP_516 : ∀ (n : Nat) (x4_32 : Int32) (x5_32 : Int32) (x6_32 : Int32) (w : (Int32 × Int32)) (H : Heap) (locs : List Loc) (ls : Array Slot), L_X10_same_32 v_now x1 x2 n x4_32 x5_32 x6_32 = some w → va_P (dC, dI) vwCl [(h0, .inr (8, [.ref q_now, .ref q_text, .int v_typed, .ref q_row, .int v_rowMany, .int (0 : Int32), .int v_length, .int v_at, .int v_wrong, .ref q_read, .ref q_ranks, .ref q_distinct, .ref q_proper, .int v_properMany, .ref q_line, .ref q_order, .int v_orderMany, .ref q_then, .ref q_bestOrder, .ref q_lineThen, .ref q_undos, .ref q_was, .int v_undoMany, .int v_drawn, .ref q_kept, .ref q_isKept])), (q_now, .inl (cJ, 120, .inr (.inl v_now))), (q_row, .inl (cJ, 64, .inr (.inl v_row)))] H → va_D A [(h0, .inr (8, [.ref q_now, .ref q_text, .int v_typed, .ref q_row, .int v_rowMany, .int (0 : Int32), .int v_length, .int v_at, .int v_wrong, .ref q_read, .ref q_ranks, .ref q_distinct, .ref q_proper, .int v_properMany, .ref q_line, .ref q_order, .int v_orderMany, .ref q_then, .ref q_bestOrder, .ref q_lineThen, .ref q_undos, .ref q_was, .int v_undoMany, .int v_drawn, .ref q_kept, .ref q_isKept])), (q_now, .inl (cJ, 120, .inr (.inl v_now))), (q_row, .inl (cJ, 64, .inr (.inl v_row)))] → va_S A s.heap H locs → lv_has ls 7 [(0, .ref h0), (1, .int x1), (2, .int x2), (4, .int x4_32), (5, .int x5_32), (6, .int x6_32)] → (∀ (H : Heap) (locs : List Loc) (ls : Array Slot), va_P (dC, dI) vwCl [(h0, .inr (8, [.ref q_now, .ref q_text, .int v_typed, .ref q_row, .int v_rowMany, .int (0 : Int32), .int v_length, .int v_at, .int v_wrong, .ref q_read, .ref q_ranks, .ref q_distinct, .ref q_proper, .int v_properMany, .ref q_line, .ref q_order, .int v_orderMany, .ref q_then, .ref q_bestOrder, .ref q_lineThen, .ref q_undos, .ref q_was, .int v_undoMany, .int v_drawn, .ref q_kept, .ref q_isKept])), (q_now, .inl (cJ, 120, .inr (.inl v_now))), (q_row, .inl (cJ, 64, .inr (.inl v_row)))] H → va_D A [(h0, .inr (8, [.ref q_now, .ref q_text, .int v_typed, .ref q_row, .int v_rowMany, .int (0 : Int32), .int v_length, .int v_at, .int v_wrong, .ref q_read, .ref q_ranks, .ref q_distinct, .ref q_proper, .int v_properMany, .ref q_line, .ref q_order, .int v_orderMany, .ref q_then, .ref q_bestOrder, .ref q_lineThen, .ref q_undos, .ref q_was, .int v_undoMany, .int v_drawn, .ref q_kept, .ref q_isKept])), (q_now, .inl (cJ, 120, .inr (.inl v_now))), (q_row, .inl (cJ, 64, .inr (.inl v_row)))] → va_S A s.heap H locs → lv_has ls 7 [(0, .ref h0), (4, .int w.1), (5, .int w.2)] → W p l e rm_X10_same s m args below meth c H locs 0 0 QQ (F0 m 64 ls [])) → W p l e rm_X10_same s m args below meth c H locs 0 0 QQ (F0 m 32 ls []) := by
      intro n
      induction n with
      | zero => intro x4_32 x5_32 x6_32 w H locs ls h; exact absurd (show none = some w from h) nofun
      | succ n ih =>
        intro x4_32 x5_32 x6_32 w H locs ls h hP hD hS hl K
        rw [L_X10_same_32] at h
        refine lv_iload hx hb dX10_same_32 (lv_at hl 5 rfl) ?_
        refine lv_if_lt (tgt := 64) hx hb dX10_same_34 (by decide) (fun c_512 => ?_) (fun c_512 => ?_)
        · replace h := op c_512 h
          have ho := Option.some.inj h
          subst ho
          exact K H _ ls hP hD hS (lv_sub hl [0, 3, 4] rfl)
        · replace h := on c_512 h
          refine lv_aload_n hx hb dX10_same_37 rfl (lv_at hl 0 rfl) ?_
          refine lv_iload_n hx hb dX10_same_38 rfl (lv_at hl 1 rfl) ?_
          refine lv_iload_n hx hb dX10_same_39 rfl (lv_at hl 2 rfl) ?_
          refine lv_iload hx hb dX10_same_40 (lv_at hl 5 rfl) ?_
          obtain ⟨o_513, hr_513, h⟩ := ob h
          refine vp_callSi (va_Run.run (va_runV (As := [.int x1, .int x2, .int x6_32]) (rest := []) ⟨hx, hb, hml, hown, hts⟩ (c_X10_areSame l dC dI cB cC cI cJ cZ cT h0 q_now q_text q_row q_read q_ranks q_distinct q_proper q_line q_order q_then q_bestOrder q_lineThen q_undos q_was q_kept q_isKept v_typed v_rowMany (0 : Int32) v_length v_at v_wrong v_properMany v_orderMany v_undoMany v_drawn v_now x1 x2 x6_32 o_513 hr_513) (cwV 3 hts gX10_same_X10_areSame rfl rfl rfl (by decide +kernel) ⟨Nat.le_of_ble_eq_true rfl, Nat.le_of_ble_eq_true rfl⟩) ⟨blR, va_recv hK hP (ci := 8) (q0 := 0) rfl rfl, fun U hU hW => ⟨rfl, by rw [hU]; exact hP.sub [0, 1] rfl, va_K.moved hW.alike hK⟩⟩ rfl rfl hl.1 rfl (lv_room (Nat.le_of_ble_eq_true rfl)) dX10_same_42 ⟨Nat.le_of_ble_eq_true rfl, Nat.le_of_ble_eq_true rfl⟩)) (fun r_513 e_513 => ?_)
          subst e_513
          refine lv_if_eq (tgt := 54) hx hb dX10_same_45 (by decide) (fun c_515 => ?_) (fun c_515 => ?_)
          · replace h := op c_515 h
            refine lv_iload hx hb dX10_same_54 (lv_at hl 5 rfl) ?_
            refine lv_istore (lv' := [(5, .int x6_32), (0, .ref h0), (1, .int x1), (2, .int x2), (4, .int x4_32), (6, .int x6_32)]) hx hb dX10_same_56 hl (by decide) rfl (fun ls hl => ?_)
            refine lv_iinc (v := (x6_32 + (-1))) (lv' := [(6, .int (x6_32 + (-1))), (5, .int x6_32), (0, .ref h0), (1, .int x1), (2, .int x2), (4, .int x4_32)]) hx hb dX10_same_58 hl (k := 5) rfl (by rfl) (by decide) rfl (fun ls hl => ?_)
            refine lv_goto (tgt := 32) hx hb dX10_same_61 (by decide) ?_
            exact ih x4_32 x6_32 (x6_32 + (-1)) w H _ ls h hP hD hS (lv_sub hl [2, 3, 4, 5, 1, 0] rfl) K
          · replace h := on c_515 h
            refine lv_iinc (v := (x4_32 + 1)) (lv' := [(4, .int (x4_32 + 1)), (0, .ref h0), (1, .int x1), (2, .int x2), (5, .int x5_32), (6, .int x6_32)]) hx hb dX10_same_48 hl (k := 3) rfl (by rfl) (by decide) rfl (fun ls hl => ?_)
            refine lv_goto (tgt := 58) hx hb dX10_same_51 (by decide) ?_
            refine lv_iinc (v := (x6_32 + (-1))) (lv' := [(6, .int (x6_32 + (-1))), (4, .int (x4_32 + 1)), (0, .ref h0), (1, .int x1), (2, .int x2), (5, .int x5_32)]) hx hb dX10_same_58 hl (k := 5) rfl (by rfl) (by decide) rfl (fun ls hl => ?_)
            refine lv_goto (tgt := 32) hx hb dX10_same_61 (by decide) ?_
            exact ih (x4_32 + 1) x5_32 (x6_32 + (-1)) w H _ ls h hP hD hS (lv_sub hl [2, 3, 4, 1, 5, 0] rfl) K
    obtain ⟨w_516, hw_516, h⟩ := ob h
    refine LP_516 fu (0 : Int32) (-1 : Int32) (o_510 - (1 : Int32)) w_516 H _ ls hw_516 hP hD hS (lv_sub hl [4, 5, 6, 2, 1, 0] rfl) (fun H locs ls hP hD hS hl => ?_)
    refine lv_aload_n hx hb dX10_same_64 rfl (lv_at hl 0 rfl) ?_
    refine lv_iconst (v := 0) hx hb dX10_same_65 (by decide) ?_
    refine va_put (D := (dC, dI)) (ci := 8) (v := .int (0 : Int32)) (ty := .int) (C := RX10) (T := TX10) (N := 26) hx hb hts hi_X10 tyX10 tyX10_ok nmX10 hown hK hP hD hS 0 rfl rfl 4 (by decide) (hts _ (List.mem_of_getElem? (i := 2) rfl)) (fun _ h9 => h9) rfl (by decide +kernel) rfl rfl (Nat.le_of_ble_eq_true rfl) dX10_same_66 (fun H locs hP hD hS => ?_)
    replace hP : va_P (dC, dI) vwCl [(h0, .inr (8, [.ref q_now, .ref q_text, .int v_typed, .ref q_row, .int (0 : Int32), .int (0 : Int32), .int v_length, .int v_at, .int v_wrong, .ref q_read, .ref q_ranks, .ref q_distinct, .ref q_proper, .int v_properMany, .ref q_line, .ref q_order, .int v_orderMany, .ref q_then, .ref q_bestOrder, .ref q_lineThen, .ref q_undos, .ref q_was, .int v_undoMany, .int v_drawn, .ref q_kept, .ref q_isKept])), (q_now, .inl (cJ, 120, .inr (.inl v_now))), (q_row, .inl (cJ, 64, .inr (.inl v_row)))] H := hP
    replace hD : va_D A [(h0, .inr (8, [.ref q_now, .ref q_text, .int v_typed, .ref q_row, .int (0 : Int32), .int (0 : Int32), .int v_length, .int v_at, .int v_wrong, .ref q_read, .ref q_ranks, .ref q_distinct, .ref q_proper, .int v_properMany, .ref q_line, .ref q_order, .int v_orderMany, .ref q_then, .ref q_bestOrder, .ref q_lineThen, .ref q_undos, .ref q_was, .int v_undoMany, .int v_drawn, .ref q_kept, .ref q_isKept])), (q_now, .inl (cJ, 120, .inr (.inl v_now))), (q_row, .inl (cJ, 64, .inr (.inl v_row)))] := hD
    refine lv_aload_n hx hb dX10_same_69 rfl (lv_at hl 0 rfl) ?_
    refine lv_iload hx hb dX10_same_70 (lv_at hl 2 rfl) ?_
    refine lv_i2l (v := (w_516.2).toInt64) hx hb dX10_same_72 rfl ?_
    obtain ⟨o_517, hr_517, h⟩ := ob h
    have hPc := hP.sub (ws' := [(h0, .inr (8, [.ref q_now, .ref q_text, .int v_typed, .ref q_row, .int (0 : Int32), .int (0 : Int32), .int v_length, .int v_at, .int v_wrong, .ref q_read, .ref q_ranks, .ref q_distinct, .ref q_proper, .int v_properMany, .ref q_line, .ref q_order, .int v_orderMany, .ref q_then, .ref q_bestOrder, .ref q_lineThen, .ref q_undos, .ref q_was, .int v_undoMany, .int v_drawn, .ref q_kept, .ref q_isKept])), (q_row, .inl (cJ, 64, .inr (.inl v_row)))]) [0, 2] rfl
    have hDc := hD.sub (ws' := [(h0, .inr (8, [.ref q_now, .ref q_text, .int v_typed, .ref q_row, .int (0 : Int32), .int (0 : Int32), .int v_length, .int v_at, .int v_wrong, .ref q_read, .ref q_ranks, .ref q_distinct, .ref q_proper, .int v_properMany, .ref q_line, .ref q_order, .int v_orderMany, .ref q_then, .ref q_bestOrder, .ref q_lineThen, .ref q_undos, .ref q_was, .int v_undoMany, .int v_drawn, .ref q_kept, .ref q_isKept])), (q_row, .inl (cJ, 64, .inr (.inl v_row)))]) [0, 2] (by decide) rfl
    have hFc := va_free (wc := [(h0, .inr (8, [.ref q_now, .ref q_text, .int v_typed, .ref q_row, .int (0 : Int32), .int (0 : Int32), .int v_length, .int v_at, .int v_wrong, .ref q_read, .ref q_ranks, .ref q_distinct, .ref q_proper, .int v_properMany, .ref q_line, .ref q_order, .int v_orderMany, .ref q_then, .ref q_bestOrder, .ref q_lineThen, .ref q_undos, .ref q_was, .int v_undoMany, .int v_drawn, .ref q_kept, .ref q_isKept])), (q_row, .inl (cJ, 64, .inr (.inl v_row)))]) hD hS hA [0, 2] rfl
    refine va_callv (va_runV (As := [.long (w_516.2).toInt64]) (rest := []) ⟨hx, hb, hml, hown, hts⟩ (c_X10_tell l dC dI cB cC cI cJ cZ cT h0 q_now q_text q_row q_read q_ranks q_distinct q_proper q_line q_order q_then q_bestOrder q_lineThen q_undos q_was q_kept q_isKept H.size v_typed (0 : Int32) (0 : Int32) v_length v_at v_wrong v_properMany v_orderMany v_undoMany v_drawn v_row (w_516.2).toInt64 o_517 hr_517) (cwV 1 hts gX10_same_X10_tell rfl rfl rfl (by decide +kernel) ⟨Nat.le_of_ble_eq_true rfl, Nat.le_of_ble_eq_true rfl⟩) ⟨blW, va_recv hK hP (ci := 8) (q0 := 0) rfl rfl, fun U hU hW => ⟨rfl, by rw [hU], by rw [hU]; exact hPc, va_K.moved hW.alike hK, hDc.weaken (fun _ _ _ _ => trivial)⟩⟩ rfl rfl hl.1 rfl (lv_room (Nat.le_of_ble_eq_true rfl)) dX10_same_73 ⟨Nat.le_of_ble_eq_true rfl, Nat.le_of_ble_eq_true rfl⟩) hS (fun q _ h => hFc q h) hFc (fun u_517 t_517 H locs ht hvm e_517 hB hz1 hk1 hS => ?_)
    obtain ⟨hP1, -, hD1⟩ := hB
    rw [ht] at hP1
    obtain ⟨hP, hD⟩ := va_join (wr := [(q_now, .inl (cJ, 120, .inr (.inl v_now)))]) (w1 := [(h0, .inr (8, [.ref q_now, .ref q_text, .int v_typed, .ref q_row, .int o_517.1, .int (0 : Int32), .int v_length, .int v_at, .int v_wrong, .ref q_read, .ref q_ranks, .ref q_distinct, .ref q_proper, .int v_properMany, .ref q_line, .ref q_order, .int v_orderMany, .ref q_then, .ref q_bestOrder, .ref q_lineThen, .ref q_undos, .ref q_was, .int v_undoMany, .int v_drawn, .ref q_kept, .ref q_isKept])), (q_row, .inl (cJ, 64, .inr (.inl o_517.2)))]) hP hD [0, 2] [1] rfl rfl (by decide) (by decide) hk1 hFc hP1 hD1
    replace hP := hP.sub (ws' := [(h0, .inr (8, [.ref q_now, .ref q_text, .int v_typed, .ref q_row, .int o_517.1, .int (0 : Int32), .int v_length, .int v_at, .int v_wrong, .ref q_read, .ref q_ranks, .ref q_distinct, .ref q_proper, .int v_properMany, .ref q_line, .ref q_order, .int v_orderMany, .ref q_then, .ref q_bestOrder, .ref q_lineThen, .ref q_undos, .ref q_was, .int v_undoMany, .int v_drawn, .ref q_kept, .ref q_isKept])), (q_now, .inl (cJ, 120, .inr (.inl v_now))), (q_row, .inl (cJ, 64, .inr (.inl o_517.2)))]) [1, 0, 2] rfl
    replace hD := hD.sub (ws' := [(h0, .inr (8, [.ref q_now, .ref q_text, .int v_typed, .ref q_row, .int o_517.1, .int (0 : Int32), .int v_length, .int v_at, .int v_wrong, .ref q_read, .ref q_ranks, .ref q_distinct, .ref q_proper, .int v_properMany, .ref q_line, .ref q_order, .int v_orderMany, .ref q_then, .ref q_bestOrder, .ref q_lineThen, .ref q_undos, .ref q_was, .int v_undoMany, .int v_drawn, .ref q_kept, .ref q_isKept])), (q_now, .inl (cJ, 120, .inr (.inl v_now))), (q_row, .inl (cJ, 64, .inr (.inl o_517.2)))]) [1, 0, 2] (by decide) rfl
    refine lv_iload hx hb dX10_same_76 (lv_at hl 1 rfl) ?_
    rw [hQQ]
    have ho := Option.some.inj h
    subst ho
    exact W.iret hx hb hr (fun t ht hW => ⟨⟨_, (), rfl, rfl, by rw [ht]; exact hP, va_K.moved hW.alike hK, hD⟩, hS.F ht⟩) hS.2.2 dX10_same_78
  · replace h := on c_509 h
    refine lv_iload_n hx hb dX10_same_16 rfl (lv_at hl 0 rfl) ?_
    rw [hQQ]
    have ho := Option.some.inj h
    subst ho
    exact W.iret hx hb hr (fun t ht hW => ⟨⟨_, (), rfl, rfl, by rw [ht]; exact hP, va_K.moved hW.alike hK, hD⟩, hS.F ht⟩) hS.2.2 dX10_same_17
def f_X10_carries (v_undoMany : Int32) (v_now : Nat → Int64) (v_undos : Nat → Int64) (v_was : Nat → Int64) (x1 : Int32) (x2 : Int32) (x3 : Int32) (x4 : Int32) (x5 : Int32) : Option (Int32 × Int32 × Int32 × (Nat → Int64) × (Nat → Int64) × (Nat → Int64)) :=
  ((f_X10_isColumn v_now x1).bind (fun o_519 => (if (b2i o_519) = 0 then (some ((-1 : Int32), (0 : Int32), v_undoMany, v_now, v_undos, v_was)) else ((f_X10_isColumn v_now x3).bind (fun o_522 => (if (b2i o_522) = 0 then (some ((-1 : Int32), (0 : Int32), v_undoMany, v_now, v_undos, v_was)) else ((f_X10_in x5 (0 : Int32) (7 : Int32)).bind (fun o_525 => (if (b2i o_525) = 0 then (some ((-1 : Int32), (0 : Int32), v_undoMany, v_now, v_undos, v_was)) else ((f_X10_whyTaken v_now x1 x2 x5).bind (fun o_528 => (if o_528 ≤ 0 then ((f_X10_cell v_now x1 x2).bind (fun o_531 => ((f_X10_kindOf v_now x1).bind (fun o_533 => ((f_X10_widened o_531 o_533 x5).bind (fun o_535 => ((f_X10_kindOf v_now x3).bind (fun o_537 => ((f_X10_canHold o_537 x5).bind (fun o_539 => ((f_X10_whyNot v_now x3 x4 x5 (b2i o_539)).bind (fun o_541 => (if o_541 ≤ 0 then ((f_X10_change v_undoMany v_now v_undos v_was).bind (fun o_544 => ((f_X10_store v_now x3 x4 x5 o_535).bind (fun o_546 => (some ((0 : Int32), (0 : Int32), o_544.1, o_546, o_544.2.1, o_544.2.2)))))) else (some (((-10 : Int32) - o_541), (0 : Int32), v_undoMany, v_now, v_undos, v_was))))))))))))))) else (some ((-o_528), (0 : Int32), v_undoMany, v_now, v_undos, v_was))))))))))))))
abbrev rm_X10_carries : Room := { frames := 4, cells := 0, slots := 0, locals := 93 }
set_option maxHeartbeats 4000000 in
set_option maxRecDepth 100000 in
theorem c_X10_carries (l : Launch) (dC : Nat → ClassId) (dI : Nat → Nat → Nat) (cB cC cI cJ cZ cT : ClassId) (h0 q_now q_text q_row q_read q_ranks q_distinct q_proper q_line q_order q_then q_bestOrder q_lineThen q_undos q_was q_kept q_isKept : Nat) (sz : Nat) (v_typed : Int32) (v_rowMany : Int32) (v_thrown : Int32) (v_length : Int32) (v_at : Int32) (v_wrong : Int32) (v_properMany : Int32) (v_orderMany : Int32) (v_undoMany : Int32) (v_drawn : Int32) (v_now : Nat → Int64) (v_undos : Nat → Int64) (v_was : Nat → Int64) (x1 : Int32) (x2 : Int32) (x3 : Int32) (x4 : Int32) (x5 : Int32) (o : (Int32 × Int32 × Int32 × (Nat → Int64) × (Nat → Int64) × (Nat → Int64))) (hf : f_X10_carries v_undoMany v_now v_undos v_was x1 x2 x3 x4 x5 = some o) : Met l yX10_carries wsX10_carries rm_X10_carries (va_Pc [.ref h0, .int x1, .int x2, .int x3, .int x4, .int x5] (fun U => U.heap.size = sz ∧ va_P (dC, dI) vwCl [(h0, .inr (8, [.ref q_now, .ref q_text, .int v_typed, .ref q_row, .int v_rowMany, .int v_thrown, .int v_length, .int v_at, .int v_wrong, .ref q_read, .ref q_ranks, .ref q_distinct, .ref q_proper, .int v_properMany, .ref q_line, .ref q_order, .int v_orderMany, .ref q_then, .ref q_bestOrder, .ref q_lineThen, .ref q_undos, .ref q_was, .int v_undoMany, .int v_drawn, .ref q_kept, .ref q_isKept])), (q_now, .inl (cJ, 120, .inr (.inl v_now))), (q_undos, .inl (cJ, 960, .inr (.inl v_undos))), (q_was, .inl (cJ, 120, .inr (.inl v_was)))] U.heap ∧ va_K (dC, dI) vwCl (tyA cB cC cI cJ cZ cT) U ∧ va_D (fun _ => True) [(h0, .inr (8, [.ref q_now, .ref q_text, .int v_typed, .ref q_row, .int v_rowMany, .int v_thrown, .int v_length, .int v_at, .int v_wrong, .ref q_read, .ref q_ranks, .ref q_distinct, .ref q_proper, .int v_properMany, .ref q_line, .ref q_order, .int v_orderMany, .ref q_then, .ref q_bestOrder, .ref q_lineThen, .ref q_undos, .ref q_was, .int v_undoMany, .int v_drawn, .ref q_kept, .ref q_isKept])), (q_now, .inl (cJ, 120, .inr (.inl v_now))), (q_undos, .inl (cJ, 960, .inr (.inl v_undos))), (q_was, .inl (cJ, 120, .inr (.inl v_was)))] ∧ SX (va_A [(h0, .inr (8, [.ref q_now, .ref q_text, .int v_typed, .ref q_row, .int v_rowMany, .int v_thrown, .int v_length, .int v_at, .int v_wrong, .ref q_read, .ref q_ranks, .ref q_distinct, .ref q_proper, .int v_properMany, .ref q_line, .ref q_order, .int v_orderMany, .ref q_then, .ref q_bestOrder, .ref q_lineThen, .ref q_undos, .ref q_was, .int v_undoMany, .int v_drawn, .ref q_kept, .ref q_isKept])), (q_now, .inl (cJ, 120, .inr (.inl v_now))), (q_undos, .inl (cJ, 960, .inr (.inl v_undos))), (q_was, .inl (cJ, 120, .inr (.inl v_was)))] sz) U U.heap)) (va_Qi (fun (r : Int32) (_ : Unit) => o.1 = r) (fun _ t => va_P (dC, dI) vwCl [(h0, .inr (8, [.ref q_now, .ref q_text, .int v_typed, .ref q_row, .int v_rowMany, .int o.2.1, .int v_length, .int v_at, .int v_wrong, .ref q_read, .ref q_ranks, .ref q_distinct, .ref q_proper, .int v_properMany, .ref q_line, .ref q_order, .int v_orderMany, .ref q_then, .ref q_bestOrder, .ref q_lineThen, .ref q_undos, .ref q_was, .int o.2.2.1, .int v_drawn, .ref q_kept, .ref q_isKept])), (q_now, .inl (cJ, 120, .inr (.inl o.2.2.2.1))), (q_undos, .inl (cJ, 960, .inr (.inl o.2.2.2.2.1))), (q_was, .inl (cJ, 120, .inr (.inl o.2.2.2.2.2)))] t.heap ∧ va_K (dC, dI) vwCl (tyA cB cC cI cJ cZ cT) t ∧ va_D (va_A [(h0, .inr (8, [.ref q_now, .ref q_text, .int v_typed, .ref q_row, .int v_rowMany, .int v_thrown, .int v_length, .int v_at, .int v_wrong, .ref q_read, .ref q_ranks, .ref q_distinct, .ref q_proper, .int v_properMany, .ref q_line, .ref q_order, .int v_orderMany, .ref q_then, .ref q_bestOrder, .ref q_lineThen, .ref q_undos, .ref q_was, .int v_undoMany, .int v_drawn, .ref q_kept, .ref q_isKept])), (q_now, .inl (cJ, 120, .inr (.inl v_now))), (q_undos, .inl (cJ, 960, .inr (.inl v_undos))), (q_was, .inl (cJ, 120, .inr (.inl v_was)))] sz) [(h0, .inr (8, [.ref q_now, .ref q_text, .int v_typed, .ref q_row, .int v_rowMany, .int o.2.1, .int v_length, .int v_at, .int v_wrong, .ref q_read, .ref q_ranks, .ref q_distinct, .ref q_proper, .int v_properMany, .ref q_line, .ref q_order, .int v_orderMany, .ref q_then, .ref q_bestOrder, .ref q_lineThen, .ref q_undos, .ref q_was, .int o.2.2.1, .int v_drawn, .ref q_kept, .ref q_isKept])), (q_now, .inl (cJ, 120, .inr (.inl o.2.2.2.1))), (q_undos, .inl (cJ, 960, .inr (.inl o.2.2.2.2.1))), (q_was, .inl (cJ, 120, .inr (.inl o.2.2.2.2.2)))]) (va_A [(h0, .inr (8, [.ref q_now, .ref q_text, .int v_typed, .ref q_row, .int v_rowMany, .int v_thrown, .int v_length, .int v_at, .int v_wrong, .ref q_read, .ref q_ranks, .ref q_distinct, .ref q_proper, .int v_properMany, .ref q_line, .ref q_order, .int v_orderMany, .ref q_then, .ref q_bestOrder, .ref q_lineThen, .ref q_undos, .ref q_was, .int v_undoMany, .int v_drawn, .ref q_kept, .ref q_isKept])), (q_now, .inl (cJ, 120, .inr (.inl v_now))), (q_undos, .inl (cJ, 960, .inr (.inl v_undos))), (q_was, .inl (cJ, 120, .inr (.inl v_was)))] sz)) 0 0 (va_A [(h0, .inr (8, [.ref q_now, .ref q_text, .int v_typed, .ref q_row, .int v_rowMany, .int v_thrown, .int v_length, .int v_at, .int v_wrong, .ref q_read, .ref q_ranks, .ref q_distinct, .ref q_proper, .int v_properMany, .ref q_line, .ref q_order, .int v_orderMany, .ref q_then, .ref q_bestOrder, .ref q_lineThen, .ref q_undos, .ref q_was, .int v_undoMany, .int v_drawn, .ref q_kept, .ref q_isKept])), (q_now, .inl (cJ, 120, .inr (.inl v_now))), (q_undos, .inl (cJ, 960, .inr (.inl v_undos))), (q_was, .inl (cJ, 120, .inr (.inl v_was)))] sz) := by
  refine Met.ofW (cc := cX10_carries) (maxL := 9) (ret := (some .int)) (by decide) rfl ?_
  intro p e s m args below meth c s₁ B hml hv
  obtain ⟨hav, hsz, hP, hK, hD0, hX⟩ := hv
  have hx := B.exec
  have hb := B.bytes
  have hr := B.returns
  have hts := atoms_spec (ws := wsX10_carries) B.pre
  have hown : s.vm.findClass RX10 = some m.cls := findClass_of_methodNamed B.named
  have hlocks := B.notSynchronized
  subst hsz
  have hD := hD0.self (sz := s.heap.size)
  generalize hAe : va_A [(h0, .inr (8, [.ref q_now, .ref q_text, .int v_typed, .ref q_row, .int v_rowMany, .int v_thrown, .int v_length, .int v_at, .int v_wrong, .ref q_read, .ref q_ranks, .ref q_distinct, .ref q_proper, .int v_properMany, .ref q_line, .ref q_order, .int v_orderMany, .ref q_then, .ref q_bestOrder, .ref q_lineThen, .ref q_undos, .ref q_was, .int v_undoMany, .int v_drawn, .ref q_kept, .ref q_isKept])), (q_now, .inl (cJ, 120, .inr (.inl v_now))), (q_undos, .inl (cJ, 960, .inr (.inl v_undos))), (q_was, .inl (cJ, 120, .inr (.inl v_was)))] s.heap.size = A at hD hX ⊢
  have hA : ∀ q : Nat, s.heap.size ≤ q → A q := fun q h => by rw [← hAe]; exact Or.inr h
  have hS : va_S A s.heap s.heap [] := va_S.rf
  refine wstart (rm := rm_X10_carries) hav (Nat.le_of_ble_eq_true rfl) (fun QQ ls hQQ hl => ?_)
  have hl : lv_has ls 9 [(0, .ref h0), (1, .int x1), (2, .int x2), (3, .int x3), (4, .int x4), (5, .int x5)] := hl
  have hi_X10 : ∀ w ∈ u_ws RX10 TX10 26, w ∈ wsX10_carries := by decide +kernel
  have h := hf
  unfold f_X10_carries at h
  refine lv_aload_n hx hb dX10_carries_0 rfl (lv_at hl 0 rfl) ?_
  refine lv_iconst (v := 0) hx hb dX10_carries_1 (by decide) ?_
  refine va_put (D := (dC, dI)) (ci := 8) (v := .int (0 : Int32)) (ty := .int) (C := RX10) (T := TX10) (N := 26) hx hb hts hi_X10 tyX10 tyX10_ok nmX10 hown hK hP hD hS 0 rfl rfl 5 (by decide) (hts _ (List.mem_of_getElem? (i := 1) rfl)) (fun _ h9 => h9) rfl (by decide +kernel) rfl rfl (Nat.le_of_ble_eq_true rfl) dX10_carries_2 (fun H locs hP hD hS => ?_)
  replace hP : va_P (dC, dI) vwCl [(h0, .inr (8, [.ref q_now, .ref q_text, .int v_typed, .ref q_row, .int v_rowMany, .int (0 : Int32), .int v_length, .int v_at, .int v_wrong, .ref q_read, .ref q_ranks, .ref q_distinct, .ref q_proper, .int v_properMany, .ref q_line, .ref q_order, .int v_orderMany, .ref q_then, .ref q_bestOrder, .ref q_lineThen, .ref q_undos, .ref q_was, .int v_undoMany, .int v_drawn, .ref q_kept, .ref q_isKept])), (q_now, .inl (cJ, 120, .inr (.inl v_now))), (q_undos, .inl (cJ, 960, .inr (.inl v_undos))), (q_was, .inl (cJ, 120, .inr (.inl v_was)))] H := hP
  replace hD : va_D A [(h0, .inr (8, [.ref q_now, .ref q_text, .int v_typed, .ref q_row, .int v_rowMany, .int (0 : Int32), .int v_length, .int v_at, .int v_wrong, .ref q_read, .ref q_ranks, .ref q_distinct, .ref q_proper, .int v_properMany, .ref q_line, .ref q_order, .int v_orderMany, .ref q_then, .ref q_bestOrder, .ref q_lineThen, .ref q_undos, .ref q_was, .int v_undoMany, .int v_drawn, .ref q_kept, .ref q_isKept])), (q_now, .inl (cJ, 120, .inr (.inl v_now))), (q_undos, .inl (cJ, 960, .inr (.inl v_undos))), (q_was, .inl (cJ, 120, .inr (.inl v_was)))] := hD
  refine lv_aload_n hx hb dX10_carries_5 rfl (lv_at hl 0 rfl) ?_
  refine lv_iload_n hx hb dX10_carries_6 rfl (lv_at hl 1 rfl) ?_
  obtain ⟨o_519, hr_519, h⟩ := ob h
  refine vp_callSi (va_Run.run (va_runV (As := [.int x1]) (rest := []) ⟨hx, hb, hml, hown, hts⟩ (c_X10_isColumn l dC dI cB cC cI cJ cZ cT h0 q_now q_text q_row q_read q_ranks q_distinct q_proper q_line q_order q_then q_bestOrder q_lineThen q_undos q_was q_kept q_isKept v_typed v_rowMany (0 : Int32) v_length v_at v_wrong v_properMany v_orderMany v_undoMany v_drawn v_now x1 o_519 hr_519) (cwV 1 hts gX10_carries_X10_isColumn rfl rfl rfl (by decide +kernel) ⟨Nat.le_of_ble_eq_true rfl, Nat.le_of_ble_eq_true rfl⟩) ⟨blR, va_recv hK hP (ci := 8) (q0 := 0) rfl rfl, fun U hU hW => ⟨rfl, by rw [hU]; exact hP.sub [0, 1] rfl, va_K.moved hW.alike hK⟩⟩ rfl rfl hl.1 rfl (lv_room (Nat.le_of_ble_eq_true rfl)) dX10_carries_7 ⟨Nat.le_of_ble_eq_true rfl, Nat.le_of_ble_eq_true rfl⟩)) (fun r_519 e_519 => ?_)
  subst e_519
  refine lv_if_eq (tgt := 32) hx hb dX10_carries_10 (by decide) (fun c_521 => ?_) (fun c_521 => ?_)
  · replace h := op c_521 h
    refine lv_iconst (v := -1) hx hb dX10_carries_32 (by decide) ?_
    rw [hQQ]
    have ho := Option.some.inj h
    subst ho
    exact W.iret hx hb hr (fun t ht hW => ⟨⟨_, (), rfl, rfl, by rw [ht]; exact hP, va_K.moved hW.alike hK, hD⟩, hS.F ht⟩) hS.2.2 dX10_carries_33
  · replace h := on c_521 h
    refine lv_aload_n hx hb dX10_carries_13 rfl (lv_at hl 0 rfl) ?_
    refine lv_iload_n hx hb dX10_carries_14 rfl (lv_at hl 3 rfl) ?_
    obtain ⟨o_522, hr_522, h⟩ := ob h
    refine vp_callSi (va_Run.run (va_runV (As := [.int x3]) (rest := []) ⟨hx, hb, hml, hown, hts⟩ (c_X10_isColumn l dC dI cB cC cI cJ cZ cT h0 q_now q_text q_row q_read q_ranks q_distinct q_proper q_line q_order q_then q_bestOrder q_lineThen q_undos q_was q_kept q_isKept v_typed v_rowMany (0 : Int32) v_length v_at v_wrong v_properMany v_orderMany v_undoMany v_drawn v_now x3 o_522 hr_522) (cwV 1 hts gX10_carries_X10_isColumn rfl rfl rfl (by decide +kernel) ⟨Nat.le_of_ble_eq_true rfl, Nat.le_of_ble_eq_true rfl⟩) ⟨blR, va_recv hK hP (ci := 8) (q0 := 0) rfl rfl, fun U hU hW => ⟨rfl, by rw [hU]; exact hP.sub [0, 1] rfl, va_K.moved hW.alike hK⟩⟩ rfl rfl hl.1 rfl (lv_room (Nat.le_of_ble_eq_true rfl)) dX10_carries_15 ⟨Nat.le_of_ble_eq_true rfl, Nat.le_of_ble_eq_true rfl⟩)) (fun r_522 e_522 => ?_)
    subst e_522
    refine lv_if_eq (tgt := 32) hx hb dX10_carries_18 (by decide) (fun c_524 => ?_) (fun c_524 => ?_)
    · replace h := op c_524 h
      refine lv_iconst (v := -1) hx hb dX10_carries_32 (by decide) ?_
      rw [hQQ]
      have ho := Option.some.inj h
      subst ho
      exact W.iret hx hb hr (fun t ht hW => ⟨⟨_, (), rfl, rfl, by rw [ht]; exact hP, va_K.moved hW.alike hK, hD⟩, hS.F ht⟩) hS.2.2 dX10_carries_33
    · replace h := on c_524 h
      refine lv_iload hx hb dX10_carries_21 (lv_at hl 5 rfl) ?_
      refine lv_iconst (v := 0) hx hb dX10_carries_23 (by decide) ?_
      refine lv_bipush (v := 7) hx hb dX10_carries_24 (by decide) ?_
      obtain ⟨o_525, hr_525, h⟩ := ob h
      refine vp_callSi (va_Run.run (va_runS (As := [.int x5, .int (0 : Int32), .int (7 : Int32)]) (rest := []) ⟨hx, hb, hml, hown, hts⟩ (c_X10_in l dC dI cB cC cI cJ cZ cT x5 (0 : Int32) (7 : Int32) o_525 hr_525) (va_cwS 3 hts gX10_carries_X10_in rfl rfl rfl (by decide +kernel) ⟨Nat.le_of_ble_eq_true rfl, Nat.le_of_ble_eq_true rfl⟩) ⟨blT, fun U hU hW => ⟨rfl, trivial⟩⟩ rfl rfl hl.1 rfl (lv_room (Nat.le_of_ble_eq_true rfl)) dX10_carries_26 ⟨Nat.le_of_ble_eq_true rfl, Nat.le_of_ble_eq_true rfl⟩)) (fun r_525 e_525 => ?_)
      subst e_525
      refine lv_if_ne (tgt := 34) hx hb dX10_carries_29 (by decide) (fun c_527 => ?_) (fun c_527 => ?_)
      · replace h := on c_527 h
        refine lv_aload_n hx hb dX10_carries_34 rfl (lv_at hl 0 rfl) ?_
        refine lv_iload_n hx hb dX10_carries_35 rfl (lv_at hl 1 rfl) ?_
        refine lv_iload_n hx hb dX10_carries_36 rfl (lv_at hl 2 rfl) ?_
        refine lv_iload hx hb dX10_carries_37 (lv_at hl 5 rfl) ?_
        obtain ⟨o_528, hr_528, h⟩ := ob h
        refine vp_callSi (va_Run.run (va_runV (As := [.int x1, .int x2, .int x5]) (rest := []) ⟨hx, hb, hml, hown, hts⟩ (c_X10_whyTaken l dC dI cB cC cI cJ cZ cT h0 q_now q_text q_row q_read q_ranks q_distinct q_proper q_line q_order q_then q_bestOrder q_lineThen q_undos q_was q_kept q_isKept v_typed v_rowMany (0 : Int32) v_length v_at v_wrong v_properMany v_orderMany v_undoMany v_drawn v_now x1 x2 x5 o_528 hr_528) (cwV 3 hts gX10_carries_X10_whyTaken rfl rfl rfl (by decide +kernel) ⟨Nat.le_of_ble_eq_true rfl, Nat.le_of_ble_eq_true rfl⟩) ⟨blRX, va_recv hK hP (ci := 8) (q0 := 0) rfl rfl, fun U hU hW => ⟨rfl, by rw [hU]; exact hP.sub [0, 1] rfl, va_K.moved hW.alike hK, by rw [hU]; exact SX.use hW.alike hS hX⟩⟩ rfl rfl hl.1 rfl (lv_room (Nat.le_of_ble_eq_true rfl)) dX10_carries_39 ⟨Nat.le_of_ble_eq_true rfl, Nat.le_of_ble_eq_true rfl⟩)) (fun r_528 e_528 => ?_)
        subst e_528
        refine lv_istore (lv' := [(6, .int o_528), (0, .ref h0), (1, .int x1), (2, .int x2), (3, .int x3), (4, .int x4), (5, .int x5)]) hx hb dX10_carries_42 hl (by decide) rfl (fun ls hl => ?_)
        refine lv_iload hx hb dX10_carries_44 (lv_at hl 0 rfl) ?_
        refine lv_if_le (tgt := 53) hx hb dX10_carries_46 (by decide) (fun c_530 => ?_) (fun c_530 => ?_)
        · replace h := op c_530 h
          refine lv_aload_n hx hb dX10_carries_53 rfl (lv_at hl 1 rfl) ?_
          refine lv_iload_n hx hb dX10_carries_54 rfl (lv_at hl 2 rfl) ?_
          refine lv_iload_n hx hb dX10_carries_55 rfl (lv_at hl 3 rfl) ?_
          obtain ⟨o_531, hr_531, h⟩ := ob h
          refine vp_callSl (va_Run.run (va_runV (As := [.int x1, .int x2]) (rest := []) ⟨hx, hb, hml, hown, hts⟩ (c_X10_cell l dC dI cB cC cI cJ cZ cT h0 q_now q_text q_row q_read q_ranks q_distinct q_proper q_line q_order q_then q_bestOrder q_lineThen q_undos q_was q_kept q_isKept v_typed v_rowMany (0 : Int32) v_length v_at v_wrong v_properMany v_orderMany v_undoMany v_drawn v_now x1 x2 o_531 hr_531) (cwV 2 hts gX10_carries_X10_cell rfl rfl rfl (by decide +kernel) ⟨Nat.le_of_ble_eq_true rfl, Nat.le_of_ble_eq_true rfl⟩) ⟨blR, va_recv hK hP (ci := 8) (q0 := 0) rfl rfl, fun U hU hW => ⟨rfl, by rw [hU]; exact hP.sub [0, 1] rfl, va_K.moved hW.alike hK⟩⟩ rfl rfl hl.1 rfl (lv_room (Nat.le_of_ble_eq_true rfl)) dX10_carries_56 ⟨Nat.le_of_ble_eq_true rfl, Nat.le_of_ble_eq_true rfl⟩)) (fun r_531 e_531 => ?_)
          subst e_531
          refine lv_aload_n hx hb dX10_carries_59 rfl (lv_at hl 1 rfl) ?_
          refine lv_iload_n hx hb dX10_carries_60 rfl (lv_at hl 2 rfl) ?_
          obtain ⟨o_533, hr_533, h⟩ := ob h
          refine vp_callSi (va_Run.run (va_runV (As := [.int x1]) (rest := [.long o_531]) ⟨hx, hb, hml, hown, hts⟩ (c_X10_kindOf l dC dI cB cC cI cJ cZ cT h0 q_now q_text q_row q_read q_ranks q_distinct q_proper q_line q_order q_then q_bestOrder q_lineThen q_undos q_was q_kept q_isKept v_typed v_rowMany (0 : Int32) v_length v_at v_wrong v_properMany v_orderMany v_undoMany v_drawn v_now x1 o_533 hr_533) (cwV 1 hts gX10_carries_X10_kindOf rfl rfl rfl (by decide +kernel) ⟨Nat.le_of_ble_eq_true rfl, Nat.le_of_ble_eq_true rfl⟩) ⟨blR, va_recv hK hP (ci := 8) (q0 := 0) rfl rfl, fun U hU hW => ⟨rfl, by rw [hU]; exact hP.sub [0, 1] rfl, va_K.moved hW.alike hK⟩⟩ rfl rfl hl.1 rfl (lv_room (Nat.le_of_ble_eq_true rfl)) dX10_carries_61 ⟨Nat.le_of_ble_eq_true rfl, Nat.le_of_ble_eq_true rfl⟩)) (fun r_533 e_533 => ?_)
          subst e_533
          refine lv_iload hx hb dX10_carries_64 (lv_at hl 6 rfl) ?_
          obtain ⟨o_535, hr_535, h⟩ := ob h
          refine vp_callSl (va_Run.run (va_runS (As := [.long o_531, .int o_533, .int x5]) (rest := []) ⟨hx, hb, hml, hown, hts⟩ (c_X10_widened l dC dI cB cC cI cJ cZ cT o_531 o_533 x5 o_535 hr_535) (va_cwS 3 hts gX10_carries_X10_widened rfl rfl rfl (by decide +kernel) ⟨Nat.le_of_ble_eq_true rfl, Nat.le_of_ble_eq_true rfl⟩) ⟨blT, fun U hU hW => ⟨rfl, trivial⟩⟩ rfl rfl hl.1 rfl (lv_room (Nat.le_of_ble_eq_true rfl)) dX10_carries_66 ⟨Nat.le_of_ble_eq_true rfl, Nat.le_of_ble_eq_true rfl⟩)) (fun r_535 e_535 => ?_)
          subst e_535
          refine lv_lstore (lv' := [(7, .long o_535), (6, .int o_528), (0, .ref h0), (1, .int x1), (2, .int x2), (3, .int x3), (4, .int x4), (5, .int x5)]) hx hb dX10_carries_69 hl (by decide) rfl (fun ls hl => ?_)
          refine lv_aload_n hx hb dX10_carries_71 rfl (lv_at hl 2 rfl) ?_
          refine lv_iload_n hx hb dX10_carries_72 rfl (lv_at hl 5 rfl) ?_
          refine lv_iload hx hb dX10_carries_73 (lv_at hl 6 rfl) ?_
          refine lv_iload hx hb dX10_carries_75 (lv_at hl 7 rfl) ?_
          refine lv_aload_n hx hb dX10_carries_77 rfl (lv_at hl 2 rfl) ?_
          refine lv_aload_n hx hb dX10_carries_78 rfl (lv_at hl 2 rfl) ?_
          refine lv_iload_n hx hb dX10_carries_79 rfl (lv_at hl 5 rfl) ?_
          obtain ⟨o_537, hr_537, h⟩ := ob h
          refine vp_callSi (va_Run.run (va_runV (As := [.int x3]) (rest := [.ref h0, .int x5, .int x4, .int x3, .ref h0]) ⟨hx, hb, hml, hown, hts⟩ (c_X10_kindOf l dC dI cB cC cI cJ cZ cT h0 q_now q_text q_row q_read q_ranks q_distinct q_proper q_line q_order q_then q_bestOrder q_lineThen q_undos q_was q_kept q_isKept v_typed v_rowMany (0 : Int32) v_length v_at v_wrong v_properMany v_orderMany v_undoMany v_drawn v_now x3 o_537 hr_537) (cwV 1 hts gX10_carries_X10_kindOf rfl rfl rfl (by decide +kernel) ⟨Nat.le_of_ble_eq_true rfl, Nat.le_of_ble_eq_true rfl⟩) ⟨blR, va_recv hK hP (ci := 8) (q0 := 0) rfl rfl, fun U hU hW => ⟨rfl, by rw [hU]; exact hP.sub [0, 1] rfl, va_K.moved hW.alike hK⟩⟩ rfl rfl hl.1 rfl (lv_room (Nat.le_of_ble_eq_true rfl)) dX10_carries_80 ⟨Nat.le_of_ble_eq_true rfl, Nat.le_of_ble_eq_true rfl⟩)) (fun r_537 e_537 => ?_)
          subst e_537
          refine lv_iload hx hb dX10_carries_83 (lv_at hl 7 rfl) ?_
          obtain ⟨o_539, hr_539, h⟩ := ob h
          refine vp_callSi (va_Run.run (va_runV (As := [.int o_537, .int x5]) (rest := [.int x5, .int x4, .int x3, .ref h0]) ⟨hx, hb, hml, hown, hts⟩ (c_X10_canHold l dC dI cB cC cI cJ cZ cT h0 o_537 x5 o_539 hr_539) (cwV 2 hts gX10_carries_X10_canHold rfl rfl rfl (by decide +kernel) ⟨Nat.le_of_ble_eq_true rfl, Nat.le_of_ble_eq_true rfl⟩) ⟨blTX, va_recv hK hP (ci := 8) (q0 := 0) rfl rfl, fun U hU hW => ⟨rfl, by rw [hU]; exact SX.use hW.alike hS hX⟩⟩ rfl rfl hl.1 rfl (lv_room (Nat.le_of_ble_eq_true rfl)) dX10_carries_85 ⟨Nat.le_of_ble_eq_true rfl, Nat.le_of_ble_eq_true rfl⟩)) (fun r_539 e_539 => ?_)
          subst e_539
          obtain ⟨o_541, hr_541, h⟩ := ob h
          refine vp_callSi (va_Run.run (va_runV (As := [.int x3, .int x4, .int x5, .int (b2i o_539)]) (rest := []) ⟨hx, hb, hml, hown, hts⟩ (c_X10_whyNot l dC dI cB cC cI cJ cZ cT h0 q_now q_text q_row q_read q_ranks q_distinct q_proper q_line q_order q_then q_bestOrder q_lineThen q_undos q_was q_kept q_isKept v_typed v_rowMany (0 : Int32) v_length v_at v_wrong v_properMany v_orderMany v_undoMany v_drawn v_now x3 x4 x5 (b2i o_539) o_541 hr_541) (cwV 4 hts gX10_carries_X10_whyNot rfl rfl rfl (by decide +kernel) ⟨Nat.le_of_ble_eq_true rfl, Nat.le_of_ble_eq_true rfl⟩) ⟨blR, va_recv hK hP (ci := 8) (q0 := 0) rfl rfl, fun U hU hW => ⟨rfl, by rw [hU]; exact hP.sub [0, 1] rfl, va_K.moved hW.alike hK⟩⟩ rfl rfl hl.1 rfl (lv_room (Nat.le_of_ble_eq_true rfl)) dX10_carries_88 ⟨Nat.le_of_ble_eq_true rfl, Nat.le_of_ble_eq_true rfl⟩)) (fun r_541 e_541 => ?_)
          subst e_541
          refine lv_istore (lv' := [(6, .int o_541), (7, .long o_535), (0, .ref h0), (1, .int x1), (2, .int x2), (3, .int x3), (4, .int x4), (5, .int x5)]) hx hb dX10_carries_91 hl (by decide) rfl (fun ls hl => ?_)
          refine lv_iload hx hb dX10_carries_93 (lv_at hl 0 rfl) ?_
          refine lv_if_le (tgt := 104) hx hb dX10_carries_95 (by decide) (fun c_543 => ?_) (fun c_543 => ?_)
          · replace h := op c_543 h
            refine lv_aload_n hx hb dX10_carries_104 rfl (lv_at hl 2 rfl) ?_
            obtain ⟨o_544, hr_544, h⟩ := ob h
            have hPc := hP.sub (ws' := [(h0, .inr (8, [.ref q_now, .ref q_text, .int v_typed, .ref q_row, .int v_rowMany, .int (0 : Int32), .int v_length, .int v_at, .int v_wrong, .ref q_read, .ref q_ranks, .ref q_distinct, .ref q_proper, .int v_properMany, .ref q_line, .ref q_order, .int v_orderMany, .ref q_then, .ref q_bestOrder, .ref q_lineThen, .ref q_undos, .ref q_was, .int v_undoMany, .int v_drawn, .ref q_kept, .ref q_isKept])), (q_now, .inl (cJ, 120, .inr (.inl v_now))), (q_undos, .inl (cJ, 960, .inr (.inl v_undos))), (q_was, .inl (cJ, 120, .inr (.inl v_was)))]) [0, 1, 2, 3] rfl
            have hDc := hD.sub (ws' := [(h0, .inr (8, [.ref q_now, .ref q_text, .int v_typed, .ref q_row, .int v_rowMany, .int (0 : Int32), .int v_length, .int v_at, .int v_wrong, .ref q_read, .ref q_ranks, .ref q_distinct, .ref q_proper, .int v_properMany, .ref q_line, .ref q_order, .int v_orderMany, .ref q_then, .ref q_bestOrder, .ref q_lineThen, .ref q_undos, .ref q_was, .int v_undoMany, .int v_drawn, .ref q_kept, .ref q_isKept])), (q_now, .inl (cJ, 120, .inr (.inl v_now))), (q_undos, .inl (cJ, 960, .inr (.inl v_undos))), (q_was, .inl (cJ, 120, .inr (.inl v_was)))]) [0, 1, 2, 3] (by decide) rfl
            have hFc := va_free (wc := [(h0, .inr (8, [.ref q_now, .ref q_text, .int v_typed, .ref q_row, .int v_rowMany, .int (0 : Int32), .int v_length, .int v_at, .int v_wrong, .ref q_read, .ref q_ranks, .ref q_distinct, .ref q_proper, .int v_properMany, .ref q_line, .ref q_order, .int v_orderMany, .ref q_then, .ref q_bestOrder, .ref q_lineThen, .ref q_undos, .ref q_was, .int v_undoMany, .int v_drawn, .ref q_kept, .ref q_isKept])), (q_now, .inl (cJ, 120, .inr (.inl v_now))), (q_undos, .inl (cJ, 960, .inr (.inl v_undos))), (q_was, .inl (cJ, 120, .inr (.inl v_was)))]) hD hS hA [0, 1, 2, 3] rfl
            refine va_callv (va_runV (As := []) (rest := []) ⟨hx, hb, hml, hown, hts⟩ (c_X10_change l dC dI cB cC cI cJ cZ cT h0 q_now q_text q_row q_read q_ranks q_distinct q_proper q_line q_order q_then q_bestOrder q_lineThen q_undos q_was q_kept q_isKept H.size v_typed v_rowMany (0 : Int32) v_length v_at v_wrong v_properMany v_orderMany v_undoMany v_drawn v_now v_undos v_was o_544 hr_544) (cwV 0 hts gX10_carries_X10_change rfl rfl rfl (by decide +kernel) ⟨Nat.le_of_ble_eq_true rfl, Nat.le_of_ble_eq_true rfl⟩) ⟨blW, va_recv hK hP (ci := 8) (q0 := 0) rfl rfl, fun U hU hW => ⟨rfl, by rw [hU], by rw [hU]; exact hPc, va_K.moved hW.alike hK, hDc.weaken (fun _ _ _ _ => trivial)⟩⟩ rfl rfl hl.1 rfl (lv_room (Nat.le_of_ble_eq_true rfl)) dX10_carries_105 ⟨Nat.le_of_ble_eq_true rfl, Nat.le_of_ble_eq_true rfl⟩) hS (fun q _ h => hFc q h) hFc (fun u_544 t_544 H locs ht hvm e_544 hB hz1 hk1 hS => ?_)
            obtain ⟨hP1, -, hD1⟩ := hB
            rw [ht] at hP1
            obtain ⟨hP, hD⟩ := va_join (wr := []) (w1 := [(h0, .inr (8, [.ref q_now, .ref q_text, .int v_typed, .ref q_row, .int v_rowMany, .int (0 : Int32), .int v_length, .int v_at, .int v_wrong, .ref q_read, .ref q_ranks, .ref q_distinct, .ref q_proper, .int v_properMany, .ref q_line, .ref q_order, .int v_orderMany, .ref q_then, .ref q_bestOrder, .ref q_lineThen, .ref q_undos, .ref q_was, .int o_544.1, .int v_drawn, .ref q_kept, .ref q_isKept])), (q_now, .inl (cJ, 120, .inr (.inl v_now))), (q_undos, .inl (cJ, 960, .inr (.inl o_544.2.1))), (q_was, .inl (cJ, 120, .inr (.inl o_544.2.2)))]) hP hD [0, 1, 2, 3] [] rfl rfl (by decide) (by decide) hk1 hFc hP1 hD1
            replace hP := hP.sub (ws' := [(h0, .inr (8, [.ref q_now, .ref q_text, .int v_typed, .ref q_row, .int v_rowMany, .int (0 : Int32), .int v_length, .int v_at, .int v_wrong, .ref q_read, .ref q_ranks, .ref q_distinct, .ref q_proper, .int v_properMany, .ref q_line, .ref q_order, .int v_orderMany, .ref q_then, .ref q_bestOrder, .ref q_lineThen, .ref q_undos, .ref q_was, .int o_544.1, .int v_drawn, .ref q_kept, .ref q_isKept])), (q_now, .inl (cJ, 120, .inr (.inl v_now))), (q_undos, .inl (cJ, 960, .inr (.inl o_544.2.1))), (q_was, .inl (cJ, 120, .inr (.inl o_544.2.2)))]) [0, 1, 2, 3] rfl
            replace hD := hD.sub (ws' := [(h0, .inr (8, [.ref q_now, .ref q_text, .int v_typed, .ref q_row, .int v_rowMany, .int (0 : Int32), .int v_length, .int v_at, .int v_wrong, .ref q_read, .ref q_ranks, .ref q_distinct, .ref q_proper, .int v_properMany, .ref q_line, .ref q_order, .int v_orderMany, .ref q_then, .ref q_bestOrder, .ref q_lineThen, .ref q_undos, .ref q_was, .int o_544.1, .int v_drawn, .ref q_kept, .ref q_isKept])), (q_now, .inl (cJ, 120, .inr (.inl v_now))), (q_undos, .inl (cJ, 960, .inr (.inl o_544.2.1))), (q_was, .inl (cJ, 120, .inr (.inl o_544.2.2)))]) [0, 1, 2, 3] (by decide) rfl
            refine lv_aload_n hx hb dX10_carries_108 rfl (lv_at hl 2 rfl) ?_
            refine lv_iload_n hx hb dX10_carries_109 rfl (lv_at hl 5 rfl) ?_
            refine lv_iload hx hb dX10_carries_110 (lv_at hl 6 rfl) ?_
            refine lv_iload hx hb dX10_carries_112 (lv_at hl 7 rfl) ?_
            refine lv_lload hx hb dX10_carries_114 (lv_at hl 1 rfl) ?_
            obtain ⟨o_546, hr_546, h⟩ := ob h
            have hPc := hP.sub (ws' := [(h0, .inr (8, [.ref q_now, .ref q_text, .int v_typed, .ref q_row, .int v_rowMany, .int (0 : Int32), .int v_length, .int v_at, .int v_wrong, .ref q_read, .ref q_ranks, .ref q_distinct, .ref q_proper, .int v_properMany, .ref q_line, .ref q_order, .int v_orderMany, .ref q_then, .ref q_bestOrder, .ref q_lineThen, .ref q_undos, .ref q_was, .int o_544.1, .int v_drawn, .ref q_kept, .ref q_isKept])), (q_now, .inl (cJ, 120, .inr (.inl v_now)))]) [0, 1] rfl
            have hDc := hD.sub (ws' := [(h0, .inr (8, [.ref q_now, .ref q_text, .int v_typed, .ref q_row, .int v_rowMany, .int (0 : Int32), .int v_length, .int v_at, .int v_wrong, .ref q_read, .ref q_ranks, .ref q_distinct, .ref q_proper, .int v_properMany, .ref q_line, .ref q_order, .int v_orderMany, .ref q_then, .ref q_bestOrder, .ref q_lineThen, .ref q_undos, .ref q_was, .int o_544.1, .int v_drawn, .ref q_kept, .ref q_isKept])), (q_now, .inl (cJ, 120, .inr (.inl v_now)))]) [0, 1] (by decide) rfl
            have hFc := va_free (wc := [(h0, .inr (8, [.ref q_now, .ref q_text, .int v_typed, .ref q_row, .int v_rowMany, .int (0 : Int32), .int v_length, .int v_at, .int v_wrong, .ref q_read, .ref q_ranks, .ref q_distinct, .ref q_proper, .int v_properMany, .ref q_line, .ref q_order, .int v_orderMany, .ref q_then, .ref q_bestOrder, .ref q_lineThen, .ref q_undos, .ref q_was, .int o_544.1, .int v_drawn, .ref q_kept, .ref q_isKept])), (q_now, .inl (cJ, 120, .inr (.inl v_now)))]) hD hS hA [0, 1] rfl
            refine va_callv (va_runV (As := [.int x3, .int x4, .int x5, .long o_535]) (rest := []) ⟨hx, hb, hml, hown, hts⟩ (c_X10_store l dC dI cB cC cI cJ cZ cT h0 q_now q_text q_row q_read q_ranks q_distinct q_proper q_line q_order q_then q_bestOrder q_lineThen q_undos q_was q_kept q_isKept H.size v_typed v_rowMany (0 : Int32) v_length v_at v_wrong v_properMany v_orderMany o_544.1 v_drawn v_now x3 x4 x5 o_535 o_546 hr_546) (cwV 4 hts gX10_carries_X10_store rfl rfl rfl (by decide +kernel) ⟨Nat.le_of_ble_eq_true rfl, Nat.le_of_ble_eq_true rfl⟩) ⟨blW, va_recv hK hP (ci := 8) (q0 := 0) rfl rfl, fun U hU hW => ⟨rfl, by rw [hU], by rw [hU]; exact hPc, va_K.moved hW.alike hK, hDc.weaken (fun _ _ _ _ => trivial)⟩⟩ rfl rfl hl.1 rfl (lv_room (Nat.le_of_ble_eq_true rfl)) dX10_carries_116 ⟨Nat.le_of_ble_eq_true rfl, Nat.le_of_ble_eq_true rfl⟩) hS (fun q _ h => hFc q h) hFc (fun u_546 t_546 H locs ht hvm e_546 hB hz1 hk1 hS => ?_)
            obtain ⟨hP1, -, hD1⟩ := hB
            rw [ht] at hP1
            obtain ⟨hP, hD⟩ := va_join (wr := [(q_undos, .inl (cJ, 960, .inr (.inl o_544.2.1))), (q_was, .inl (cJ, 120, .inr (.inl o_544.2.2)))]) (w1 := [(h0, .inr (8, [.ref q_now, .ref q_text, .int v_typed, .ref q_row, .int v_rowMany, .int (0 : Int32), .int v_length, .int v_at, .int v_wrong, .ref q_read, .ref q_ranks, .ref q_distinct, .ref q_proper, .int v_properMany, .ref q_line, .ref q_order, .int v_orderMany, .ref q_then, .ref q_bestOrder, .ref q_lineThen, .ref q_undos, .ref q_was, .int o_544.1, .int v_drawn, .ref q_kept, .ref q_isKept])), (q_now, .inl (cJ, 120, .inr (.inl o_546)))]) hP hD [0, 1] [2, 3] rfl rfl (by decide) (by decide) hk1 hFc hP1 hD1
            replace hP := hP.sub (ws' := [(h0, .inr (8, [.ref q_now, .ref q_text, .int v_typed, .ref q_row, .int v_rowMany, .int (0 : Int32), .int v_length, .int v_at, .int v_wrong, .ref q_read, .ref q_ranks, .ref q_distinct, .ref q_proper, .int v_properMany, .ref q_line, .ref q_order, .int v_orderMany, .ref q_then, .ref q_bestOrder, .ref q_lineThen, .ref q_undos, .ref q_was, .int o_544.1, .int v_drawn, .ref q_kept, .ref q_isKept])), (q_now, .inl (cJ, 120, .inr (.inl o_546))), (q_undos, .inl (cJ, 960, .inr (.inl o_544.2.1))), (q_was, .inl (cJ, 120, .inr (.inl o_544.2.2)))]) [2, 3, 0, 1] rfl
            replace hD := hD.sub (ws' := [(h0, .inr (8, [.ref q_now, .ref q_text, .int v_typed, .ref q_row, .int v_rowMany, .int (0 : Int32), .int v_length, .int v_at, .int v_wrong, .ref q_read, .ref q_ranks, .ref q_distinct, .ref q_proper, .int v_properMany, .ref q_line, .ref q_order, .int v_orderMany, .ref q_then, .ref q_bestOrder, .ref q_lineThen, .ref q_undos, .ref q_was, .int o_544.1, .int v_drawn, .ref q_kept, .ref q_isKept])), (q_now, .inl (cJ, 120, .inr (.inl o_546))), (q_undos, .inl (cJ, 960, .inr (.inl o_544.2.1))), (q_was, .inl (cJ, 120, .inr (.inl o_544.2.2)))]) [2, 3, 0, 1] (by decide) rfl
            refine lv_iconst (v := 0) hx hb dX10_carries_119 (by decide) ?_
            rw [hQQ]
            have ho := Option.some.inj h
            subst ho
            exact W.iret hx hb hr (fun t ht hW => ⟨⟨_, (), rfl, rfl, by rw [ht]; exact hP, va_K.moved hW.alike hK, hD⟩, hS.F ht⟩) hS.2.2 dX10_carries_120
          · replace h := on c_543 h
            refine lv_bipush (v := -10) hx hb dX10_carries_98 (by decide) ?_
            refine lv_iload hx hb dX10_carries_100 (lv_at hl 0 rfl) ?_
            refine lv_isub hx hb dX10_carries_102 ?_
            rw [hQQ]
            have ho := Option.some.inj h
            subst ho
            exact W.iret hx hb hr (fun t ht hW => ⟨⟨_, (), rfl, rfl, by rw [ht]; exact hP, va_K.moved hW.alike hK, hD⟩, hS.F ht⟩) hS.2.2 dX10_carries_103
        · replace h := on c_530 h
          refine lv_iload hx hb dX10_carries_49 (lv_at hl 0 rfl) ?_
          refine lv_ineg hx hb dX10_carries_51 ?_
          rw [hQQ]
          have ho := Option.some.inj h
          subst ho
          exact W.iret hx hb hr (fun t ht hW => ⟨⟨_, (), rfl, rfl, by rw [ht]; exact hP, va_K.moved hW.alike hK, hD⟩, hS.F ht⟩) hS.2.2 dX10_carries_52
      · replace h := op c_527 h
        refine lv_iconst (v := -1) hx hb dX10_carries_32 (by decide) ?_
        rw [hQQ]
        have ho := Option.some.inj h
        subst ho
        exact W.iret hx hb hr (fun t ht hW => ⟨⟨_, (), rfl, rfl, by rw [ht]; exact hP, va_K.moved hW.alike hK, hD⟩, hS.F ht⟩) hS.2.2 dX10_carries_33
def L_X10_ways_22 (v_now : (Nat → Int64)) (x1 : Int32) : Nat → Int32 → Int32 → Int32 → Option (Int32 × Int32)
  | 0, _, _, _ => none
  | n+1, x2_22, x3_22, x4_22 => (if (8 : Int32) ≤ x4_22 then (some (x2_22, x3_22)) else ((f_X10_whyTaken v_now x1 (0 : Int32) x4_22).bind (fun o_552 => (((if o_552 = 0 then (some ((1 : Int32) <<< (x4_22 &&& 31))) else (some (0 : Int32)))).bind (fun v_554 => ((f_X10_kindOf v_now x1).bind (fun o_557 => ((f_X10_canHold o_557 x4_22).bind (fun o_559 => ((f_X10_whyNot v_now x1 (0 : Int32) x4_22 (b2i o_559)).bind (fun o_561 => (if o_561 = 0 then (L_X10_ways_22 v_now x1 n (x2_22 ||| v_554) (x3_22 ||| ((1 : Int32) <<< (x4_22 &&& 31))) (x4_22 + 1)) else (L_X10_ways_22 v_now x1 n (x2_22 ||| v_554) (x3_22 ||| (0 : Int32)) (x4_22 + 1))))))))))))))
def f_X10_ways (v_rowMany : Int32) (v_now : Nat → Int64) (v_row : Nat → Int64) (x1 : Int32) : Option (Int32 × Int32 × Int32 × (Nat → Int64)) :=
  ((f_X10_isColumn v_now x1).bind (fun o_548 => (if (b2i o_548) = 0 then (some ((-1 : Int32), v_rowMany, (0 : Int32), v_row)) else ((L_X10_ways_22 v_now x1 fu (0 : Int32) (0 : Int32) (0 : Int32)).bind (fun w_564 => ((f_X10_tell (0 : Int32) v_row (w_564.2).toInt64).bind (fun o_565 => (some (w_564.1, o_565.1, (0 : Int32), o_565.2)))))))))
abbrev rm_X10_ways : Room := { frames := 4, cells := 0, slots := 0, locals := 91 }
set_option maxHeartbeats 4000000 in
set_option maxRecDepth 100000 in
theorem c_X10_ways (l : Launch) (dC : Nat → ClassId) (dI : Nat → Nat → Nat) (cB cC cI cJ cZ cT : ClassId) (h0 q_now q_text q_row q_read q_ranks q_distinct q_proper q_line q_order q_then q_bestOrder q_lineThen q_undos q_was q_kept q_isKept : Nat) (sz : Nat) (v_typed : Int32) (v_rowMany : Int32) (v_thrown : Int32) (v_length : Int32) (v_at : Int32) (v_wrong : Int32) (v_properMany : Int32) (v_orderMany : Int32) (v_undoMany : Int32) (v_drawn : Int32) (v_now : Nat → Int64) (v_row : Nat → Int64) (x1 : Int32) (o : (Int32 × Int32 × Int32 × (Nat → Int64))) (hf : f_X10_ways v_rowMany v_now v_row x1 = some o) : Met l yX10_ways wsX10_ways rm_X10_ways (va_Pc [.ref h0, .int x1] (fun U => U.heap.size = sz ∧ va_P (dC, dI) vwCl [(h0, .inr (8, [.ref q_now, .ref q_text, .int v_typed, .ref q_row, .int v_rowMany, .int v_thrown, .int v_length, .int v_at, .int v_wrong, .ref q_read, .ref q_ranks, .ref q_distinct, .ref q_proper, .int v_properMany, .ref q_line, .ref q_order, .int v_orderMany, .ref q_then, .ref q_bestOrder, .ref q_lineThen, .ref q_undos, .ref q_was, .int v_undoMany, .int v_drawn, .ref q_kept, .ref q_isKept])), (q_now, .inl (cJ, 120, .inr (.inl v_now))), (q_row, .inl (cJ, 64, .inr (.inl v_row)))] U.heap ∧ va_K (dC, dI) vwCl (tyA cB cC cI cJ cZ cT) U ∧ va_D (fun _ => True) [(h0, .inr (8, [.ref q_now, .ref q_text, .int v_typed, .ref q_row, .int v_rowMany, .int v_thrown, .int v_length, .int v_at, .int v_wrong, .ref q_read, .ref q_ranks, .ref q_distinct, .ref q_proper, .int v_properMany, .ref q_line, .ref q_order, .int v_orderMany, .ref q_then, .ref q_bestOrder, .ref q_lineThen, .ref q_undos, .ref q_was, .int v_undoMany, .int v_drawn, .ref q_kept, .ref q_isKept])), (q_now, .inl (cJ, 120, .inr (.inl v_now))), (q_row, .inl (cJ, 64, .inr (.inl v_row)))] ∧ SX (va_A [(h0, .inr (8, [.ref q_now, .ref q_text, .int v_typed, .ref q_row, .int v_rowMany, .int v_thrown, .int v_length, .int v_at, .int v_wrong, .ref q_read, .ref q_ranks, .ref q_distinct, .ref q_proper, .int v_properMany, .ref q_line, .ref q_order, .int v_orderMany, .ref q_then, .ref q_bestOrder, .ref q_lineThen, .ref q_undos, .ref q_was, .int v_undoMany, .int v_drawn, .ref q_kept, .ref q_isKept])), (q_now, .inl (cJ, 120, .inr (.inl v_now))), (q_row, .inl (cJ, 64, .inr (.inl v_row)))] sz) U U.heap)) (va_Qi (fun (r : Int32) (_ : Unit) => o.1 = r) (fun _ t => va_P (dC, dI) vwCl [(h0, .inr (8, [.ref q_now, .ref q_text, .int v_typed, .ref q_row, .int o.2.1, .int o.2.2.1, .int v_length, .int v_at, .int v_wrong, .ref q_read, .ref q_ranks, .ref q_distinct, .ref q_proper, .int v_properMany, .ref q_line, .ref q_order, .int v_orderMany, .ref q_then, .ref q_bestOrder, .ref q_lineThen, .ref q_undos, .ref q_was, .int v_undoMany, .int v_drawn, .ref q_kept, .ref q_isKept])), (q_now, .inl (cJ, 120, .inr (.inl v_now))), (q_row, .inl (cJ, 64, .inr (.inl o.2.2.2)))] t.heap ∧ va_K (dC, dI) vwCl (tyA cB cC cI cJ cZ cT) t ∧ va_D (va_A [(h0, .inr (8, [.ref q_now, .ref q_text, .int v_typed, .ref q_row, .int v_rowMany, .int v_thrown, .int v_length, .int v_at, .int v_wrong, .ref q_read, .ref q_ranks, .ref q_distinct, .ref q_proper, .int v_properMany, .ref q_line, .ref q_order, .int v_orderMany, .ref q_then, .ref q_bestOrder, .ref q_lineThen, .ref q_undos, .ref q_was, .int v_undoMany, .int v_drawn, .ref q_kept, .ref q_isKept])), (q_now, .inl (cJ, 120, .inr (.inl v_now))), (q_row, .inl (cJ, 64, .inr (.inl v_row)))] sz) [(h0, .inr (8, [.ref q_now, .ref q_text, .int v_typed, .ref q_row, .int o.2.1, .int o.2.2.1, .int v_length, .int v_at, .int v_wrong, .ref q_read, .ref q_ranks, .ref q_distinct, .ref q_proper, .int v_properMany, .ref q_line, .ref q_order, .int v_orderMany, .ref q_then, .ref q_bestOrder, .ref q_lineThen, .ref q_undos, .ref q_was, .int v_undoMany, .int v_drawn, .ref q_kept, .ref q_isKept])), (q_now, .inl (cJ, 120, .inr (.inl v_now))), (q_row, .inl (cJ, 64, .inr (.inl o.2.2.2)))]) (va_A [(h0, .inr (8, [.ref q_now, .ref q_text, .int v_typed, .ref q_row, .int v_rowMany, .int v_thrown, .int v_length, .int v_at, .int v_wrong, .ref q_read, .ref q_ranks, .ref q_distinct, .ref q_proper, .int v_properMany, .ref q_line, .ref q_order, .int v_orderMany, .ref q_then, .ref q_bestOrder, .ref q_lineThen, .ref q_undos, .ref q_was, .int v_undoMany, .int v_drawn, .ref q_kept, .ref q_isKept])), (q_now, .inl (cJ, 120, .inr (.inl v_now))), (q_row, .inl (cJ, 64, .inr (.inl v_row)))] sz)) 0 0 (va_A [(h0, .inr (8, [.ref q_now, .ref q_text, .int v_typed, .ref q_row, .int v_rowMany, .int v_thrown, .int v_length, .int v_at, .int v_wrong, .ref q_read, .ref q_ranks, .ref q_distinct, .ref q_proper, .int v_properMany, .ref q_line, .ref q_order, .int v_orderMany, .ref q_then, .ref q_bestOrder, .ref q_lineThen, .ref q_undos, .ref q_was, .int v_undoMany, .int v_drawn, .ref q_kept, .ref q_isKept])), (q_now, .inl (cJ, 120, .inr (.inl v_now))), (q_row, .inl (cJ, 64, .inr (.inl v_row)))] sz) := by
  refine Met.ofW (cc := cX10_ways) (maxL := 5) (ret := (some .int)) (by decide) rfl ?_
  intro p e s m args below meth c s₁ B hml hv
  obtain ⟨hav, hsz, hP, hK, hD0, hX⟩ := hv
  have hx := B.exec
  have hb := B.bytes
  have hr := B.returns
  have hts := atoms_spec (ws := wsX10_ways) B.pre
  have hown : s.vm.findClass RX10 = some m.cls := findClass_of_methodNamed B.named
  have hlocks := B.notSynchronized
  subst hsz
  have hD := hD0.self (sz := s.heap.size)
  generalize hAe : va_A [(h0, .inr (8, [.ref q_now, .ref q_text, .int v_typed, .ref q_row, .int v_rowMany, .int v_thrown, .int v_length, .int v_at, .int v_wrong, .ref q_read, .ref q_ranks, .ref q_distinct, .ref q_proper, .int v_properMany, .ref q_line, .ref q_order, .int v_orderMany, .ref q_then, .ref q_bestOrder, .ref q_lineThen, .ref q_undos, .ref q_was, .int v_undoMany, .int v_drawn, .ref q_kept, .ref q_isKept])), (q_now, .inl (cJ, 120, .inr (.inl v_now))), (q_row, .inl (cJ, 64, .inr (.inl v_row)))] s.heap.size = A at hD hX ⊢
  have hA : ∀ q : Nat, s.heap.size ≤ q → A q := fun q h => by rw [← hAe]; exact Or.inr h
  have hS : va_S A s.heap s.heap [] := va_S.rf
  refine wstart (rm := rm_X10_ways) hav (Nat.le_of_ble_eq_true rfl) (fun QQ ls hQQ hl => ?_)
  have hl : lv_has ls 5 [(0, .ref h0), (1, .int x1)] := hl
  have hi_X10 : ∀ w ∈ u_ws RX10 TX10 26, w ∈ wsX10_ways := by decide +kernel
  have h := hf
  unfold f_X10_ways at h
  refine lv_aload_n hx hb dX10_ways_0 rfl (lv_at hl 0 rfl) ?_
  refine lv_iconst (v := 0) hx hb dX10_ways_1 (by decide) ?_
  refine va_put (D := (dC, dI)) (ci := 8) (v := .int (0 : Int32)) (ty := .int) (C := RX10) (T := TX10) (N := 26) hx hb hts hi_X10 tyX10 tyX10_ok nmX10 hown hK hP hD hS 0 rfl rfl 5 (by decide) (hts _ (List.mem_of_getElem? (i := 1) rfl)) (fun _ h9 => h9) rfl (by decide +kernel) rfl rfl (Nat.le_of_ble_eq_true rfl) dX10_ways_2 (fun H locs hP hD hS => ?_)
  replace hP : va_P (dC, dI) vwCl [(h0, .inr (8, [.ref q_now, .ref q_text, .int v_typed, .ref q_row, .int v_rowMany, .int (0 : Int32), .int v_length, .int v_at, .int v_wrong, .ref q_read, .ref q_ranks, .ref q_distinct, .ref q_proper, .int v_properMany, .ref q_line, .ref q_order, .int v_orderMany, .ref q_then, .ref q_bestOrder, .ref q_lineThen, .ref q_undos, .ref q_was, .int v_undoMany, .int v_drawn, .ref q_kept, .ref q_isKept])), (q_now, .inl (cJ, 120, .inr (.inl v_now))), (q_row, .inl (cJ, 64, .inr (.inl v_row)))] H := hP
  replace hD : va_D A [(h0, .inr (8, [.ref q_now, .ref q_text, .int v_typed, .ref q_row, .int v_rowMany, .int (0 : Int32), .int v_length, .int v_at, .int v_wrong, .ref q_read, .ref q_ranks, .ref q_distinct, .ref q_proper, .int v_properMany, .ref q_line, .ref q_order, .int v_orderMany, .ref q_then, .ref q_bestOrder, .ref q_lineThen, .ref q_undos, .ref q_was, .int v_undoMany, .int v_drawn, .ref q_kept, .ref q_isKept])), (q_now, .inl (cJ, 120, .inr (.inl v_now))), (q_row, .inl (cJ, 64, .inr (.inl v_row)))] := hD
  refine lv_aload_n hx hb dX10_ways_5 rfl (lv_at hl 0 rfl) ?_
  refine lv_iload_n hx hb dX10_ways_6 rfl (lv_at hl 1 rfl) ?_
  obtain ⟨o_548, hr_548, h⟩ := ob h
  refine vp_callSi (va_Run.run (va_runV (As := [.int x1]) (rest := []) ⟨hx, hb, hml, hown, hts⟩ (c_X10_isColumn l dC dI cB cC cI cJ cZ cT h0 q_now q_text q_row q_read q_ranks q_distinct q_proper q_line q_order q_then q_bestOrder q_lineThen q_undos q_was q_kept q_isKept v_typed v_rowMany (0 : Int32) v_length v_at v_wrong v_properMany v_orderMany v_undoMany v_drawn v_now x1 o_548 hr_548) (cwV 1 hts gX10_ways_X10_isColumn rfl rfl rfl (by decide +kernel) ⟨Nat.le_of_ble_eq_true rfl, Nat.le_of_ble_eq_true rfl⟩) ⟨blR, va_recv hK hP (ci := 8) (q0 := 0) rfl rfl, fun U hU hW => ⟨rfl, by rw [hU]; exact hP.sub [0, 1] rfl, va_K.moved hW.alike hK⟩⟩ rfl rfl hl.1 rfl (lv_room (Nat.le_of_ble_eq_true rfl)) dX10_ways_7 ⟨Nat.le_of_ble_eq_true rfl, Nat.le_of_ble_eq_true rfl⟩)) (fun r_548 e_548 => ?_)
  subst e_548
  refine lv_if_ne (tgt := 15) hx hb dX10_ways_10 (by decide) (fun c_550 => ?_) (fun c_550 => ?_)
  · replace h := on c_550 h
    refine lv_iconst (v := 0) hx hb dX10_ways_15 (by decide) ?_
    refine lv_istore_n (lv' := [(2, .int (0 : Int32)), (0, .ref h0), (1, .int x1)]) hx hb dX10_ways_16 rfl hl (by decide) rfl (fun ls hl => ?_)
    refine lv_iconst (v := 0) hx hb dX10_ways_17 (by decide) ?_
    refine lv_istore_n (lv' := [(3, .int (0 : Int32)), (2, .int (0 : Int32)), (0, .ref h0), (1, .int x1)]) hx hb dX10_ways_18 rfl hl (by decide) rfl (fun ls hl => ?_)
    refine lv_iconst (v := 0) hx hb dX10_ways_19 (by decide) ?_
    refine lv_istore (lv' := [(4, .int (0 : Int32)), (3, .int (0 : Int32)), (2, .int (0 : Int32)), (0, .ref h0), (1, .int x1)]) hx hb dX10_ways_20 hl (by decide) rfl (fun ls hl => ?_)
    have LP_564 : ∀ (n : Nat) (x2_22 : Int32) (x3_22 : Int32) (x4_22 : Int32) (w : (Int32 × Int32)) (H : Heap) (locs : List Loc) (ls : Array Slot), L_X10_ways_22 v_now x1 n x2_22 x3_22 x4_22 = some w → va_P (dC, dI) vwCl [(h0, .inr (8, [.ref q_now, .ref q_text, .int v_typed, .ref q_row, .int v_rowMany, .int (0 : Int32), .int v_length, .int v_at, .int v_wrong, .ref q_read, .ref q_ranks, .ref q_distinct, .ref q_proper, .int v_properMany, .ref q_line, .ref q_order, .int v_orderMany, .ref q_then, .ref q_bestOrder, .ref q_lineThen, .ref q_undos, .ref q_was, .int v_undoMany, .int v_drawn, .ref q_kept, .ref q_isKept])), (q_now, .inl (cJ, 120, .inr (.inl v_now))), (q_row, .inl (cJ, 64, .inr (.inl v_row)))] H → va_D A [(h0, .inr (8, [.ref q_now, .ref q_text, .int v_typed, .ref q_row, .int v_rowMany, .int (0 : Int32), .int v_length, .int v_at, .int v_wrong, .ref q_read, .ref q_ranks, .ref q_distinct, .ref q_proper, .int v_properMany, .ref q_line, .ref q_order, .int v_orderMany, .ref q_then, .ref q_bestOrder, .ref q_lineThen, .ref q_undos, .ref q_was, .int v_undoMany, .int v_drawn, .ref q_kept, .ref q_isKept])), (q_now, .inl (cJ, 120, .inr (.inl v_now))), (q_row, .inl (cJ, 64, .inr (.inl v_row)))] → va_S A s.heap H locs → lv_has ls 5 [(0, .ref h0), (1, .int x1), (2, .int x2_22), (3, .int x3_22), (4, .int x4_22)] → (∀ (H : Heap) (locs : List Loc) (ls : Array Slot), va_P (dC, dI) vwCl [(h0, .inr (8, [.ref q_now, .ref q_text, .int v_typed, .ref q_row, .int v_rowMany, .int (0 : Int32), .int v_length, .int v_at, .int v_wrong, .ref q_read, .ref q_ranks, .ref q_distinct, .ref q_proper, .int v_properMany, .ref q_line, .ref q_order, .int v_orderMany, .ref q_then, .ref q_bestOrder, .ref q_lineThen, .ref q_undos, .ref q_was, .int v_undoMany, .int v_drawn, .ref q_kept, .ref q_isKept])), (q_now, .inl (cJ, 120, .inr (.inl v_now))), (q_row, .inl (cJ, 64, .inr (.inl v_row)))] H → va_D A [(h0, .inr (8, [.ref q_now, .ref q_text, .int v_typed, .ref q_row, .int v_rowMany, .int (0 : Int32), .int v_length, .int v_at, .int v_wrong, .ref q_read, .ref q_ranks, .ref q_distinct, .ref q_proper, .int v_properMany, .ref q_line, .ref q_order, .int v_orderMany, .ref q_then, .ref q_bestOrder, .ref q_lineThen, .ref q_undos, .ref q_was, .int v_undoMany, .int v_drawn, .ref q_kept, .ref q_isKept])), (q_now, .inl (cJ, 120, .inr (.inl v_now))), (q_row, .inl (cJ, 64, .inr (.inl v_row)))] → va_S A s.heap H locs → lv_has ls 5 [(0, .ref h0), (2, .int w.1), (3, .int w.2)] → W p l e rm_X10_ways s m args below meth c H locs 0 0 QQ (F0 m 90 ls [])) → W p l e rm_X10_ways s m args below meth c H locs 0 0 QQ (F0 m 22 ls []) := by
      intro n
      induction n with
      | zero => intro x2_22 x3_22 x4_22 w H locs ls h; exact absurd (show none = some w from h) nofun
      | succ n ih =>
        intro x2_22 x3_22 x4_22 w H locs ls h hP hD hS hl K
        rw [L_X10_ways_22] at h
        refine lv_iload hx hb dX10_ways_22 (lv_at hl 4 rfl) ?_
        refine lv_bipush (v := 8) hx hb dX10_ways_24 (by decide) ?_
        refine lv_icmp_ge (tgt := 90) hx hb dX10_ways_26 (by decide) (fun c_551 => ?_) (fun c_551 => ?_)
        · replace h := op c_551 h
          have ho := Option.some.inj h
          subst ho
          exact K H _ ls hP hD hS (lv_sub hl [0, 2, 3] rfl)
        · replace h := on c_551 h
          refine lv_iload_n hx hb dX10_ways_29 rfl (lv_at hl 2 rfl) ?_
          refine lv_aload_n hx hb dX10_ways_30 rfl (lv_at hl 0 rfl) ?_
          refine lv_iload_n hx hb dX10_ways_31 rfl (lv_at hl 1 rfl) ?_
          refine lv_iconst (v := 0) hx hb dX10_ways_32 (by decide) ?_
          refine lv_iload hx hb dX10_ways_33 (lv_at hl 4 rfl) ?_
          obtain ⟨o_552, hr_552, h⟩ := ob h
          refine vp_callSi (va_Run.run (va_runV (As := [.int x1, .int (0 : Int32), .int x4_22]) (rest := [.int x2_22]) ⟨hx, hb, hml, hown, hts⟩ (c_X10_whyTaken l dC dI cB cC cI cJ cZ cT h0 q_now q_text q_row q_read q_ranks q_distinct q_proper q_line q_order q_then q_bestOrder q_lineThen q_undos q_was q_kept q_isKept v_typed v_rowMany (0 : Int32) v_length v_at v_wrong v_properMany v_orderMany v_undoMany v_drawn v_now x1 (0 : Int32) x4_22 o_552 hr_552) (cwV 3 hts gX10_ways_X10_whyTaken rfl rfl rfl (by decide +kernel) ⟨Nat.le_of_ble_eq_true rfl, Nat.le_of_ble_eq_true rfl⟩) ⟨blRX, va_recv hK hP (ci := 8) (q0 := 0) rfl rfl, fun U hU hW => ⟨rfl, by rw [hU]; exact hP.sub [0, 1] rfl, va_K.moved hW.alike hK, by rw [hU]; exact SX.use hW.alike hS hX⟩⟩ rfl rfl hl.1 rfl (lv_room (Nat.le_of_ble_eq_true rfl)) dX10_ways_35 ⟨Nat.le_of_ble_eq_true rfl, Nat.le_of_ble_eq_true rfl⟩)) (fun r_552 e_552 => ?_)
          subst e_552
          obtain ⟨v_554, hv_554, h⟩ := ob h
          have J_554 : ∀ (H : Heap) (locs : List Loc) (ls : Array Slot), va_P (dC, dI) vwCl [(h0, .inr (8, [.ref q_now, .ref q_text, .int v_typed, .ref q_row, .int v_rowMany, .int (0 : Int32), .int v_length, .int v_at, .int v_wrong, .ref q_read, .ref q_ranks, .ref q_distinct, .ref q_proper, .int v_properMany, .ref q_line, .ref q_order, .int v_orderMany, .ref q_then, .ref q_bestOrder, .ref q_lineThen, .ref q_undos, .ref q_was, .int v_undoMany, .int v_drawn, .ref q_kept, .ref q_isKept])), (q_now, .inl (cJ, 120, .inr (.inl v_now))), (q_row, .inl (cJ, 64, .inr (.inl v_row)))] H → va_D A [(h0, .inr (8, [.ref q_now, .ref q_text, .int v_typed, .ref q_row, .int v_rowMany, .int (0 : Int32), .int v_length, .int v_at, .int v_wrong, .ref q_read, .ref q_ranks, .ref q_distinct, .ref q_proper, .int v_properMany, .ref q_line, .ref q_order, .int v_orderMany, .ref q_then, .ref q_bestOrder, .ref q_lineThen, .ref q_undos, .ref q_was, .int v_undoMany, .int v_drawn, .ref q_kept, .ref q_isKept])), (q_now, .inl (cJ, 120, .inr (.inl v_now))), (q_row, .inl (cJ, 64, .inr (.inl v_row)))] → va_S A s.heap H locs → lv_has ls 5 [(0, .ref h0), (1, .int x1), (3, .int x3_22), (4, .int x4_22)] → W p l e rm_X10_ways s m args below meth c H locs 0 0 QQ (F0 m 49 ls [.int v_554, .int x2_22]) := by
            intro H locs ls hP hD hS hl
            refine lv_ior hx hb dX10_ways_49 ?_
            refine lv_istore_n (lv' := [(2, .int (x2_22 ||| v_554)), (0, .ref h0), (1, .int x1), (3, .int x3_22), (4, .int x4_22)]) hx hb dX10_ways_50 rfl hl (by decide) rfl (fun ls hl => ?_)
            refine lv_iload_n hx hb dX10_ways_51 rfl (lv_at hl 3 rfl) ?_
            refine lv_aload_n hx hb dX10_ways_52 rfl (lv_at hl 1 rfl) ?_
            refine lv_iload_n hx hb dX10_ways_53 rfl (lv_at hl 2 rfl) ?_
            refine lv_iconst (v := 0) hx hb dX10_ways_54 (by decide) ?_
            refine lv_iload hx hb dX10_ways_55 (lv_at hl 4 rfl) ?_
            refine lv_aload_n hx hb dX10_ways_57 rfl (lv_at hl 1 rfl) ?_
            refine lv_aload_n hx hb dX10_ways_58 rfl (lv_at hl 1 rfl) ?_
            refine lv_iload_n hx hb dX10_ways_59 rfl (lv_at hl 2 rfl) ?_
            obtain ⟨o_557, hr_557, h⟩ := ob h
            refine vp_callSi (va_Run.run (va_runV (As := [.int x1]) (rest := [.ref h0, .int x4_22, .int (0 : Int32), .int x1, .ref h0, .int x3_22]) ⟨hx, hb, hml, hown, hts⟩ (c_X10_kindOf l dC dI cB cC cI cJ cZ cT h0 q_now q_text q_row q_read q_ranks q_distinct q_proper q_line q_order q_then q_bestOrder q_lineThen q_undos q_was q_kept q_isKept v_typed v_rowMany (0 : Int32) v_length v_at v_wrong v_properMany v_orderMany v_undoMany v_drawn v_now x1 o_557 hr_557) (cwV 1 hts gX10_ways_X10_kindOf rfl rfl rfl (by decide +kernel) ⟨Nat.le_of_ble_eq_true rfl, Nat.le_of_ble_eq_true rfl⟩) ⟨blR, va_recv hK hP (ci := 8) (q0 := 0) rfl rfl, fun U hU hW => ⟨rfl, by rw [hU]; exact hP.sub [0, 1] rfl, va_K.moved hW.alike hK⟩⟩ rfl rfl hl.1 rfl (lv_room (Nat.le_of_ble_eq_true rfl)) dX10_ways_60 ⟨Nat.le_of_ble_eq_true rfl, Nat.le_of_ble_eq_true rfl⟩)) (fun r_557 e_557 => ?_)
            subst e_557
            refine lv_iload hx hb dX10_ways_63 (lv_at hl 4 rfl) ?_
            obtain ⟨o_559, hr_559, h⟩ := ob h
            refine vp_callSi (va_Run.run (va_runV (As := [.int o_557, .int x4_22]) (rest := [.int x4_22, .int (0 : Int32), .int x1, .ref h0, .int x3_22]) ⟨hx, hb, hml, hown, hts⟩ (c_X10_canHold l dC dI cB cC cI cJ cZ cT h0 o_557 x4_22 o_559 hr_559) (cwV 2 hts gX10_ways_X10_canHold rfl rfl rfl (by decide +kernel) ⟨Nat.le_of_ble_eq_true rfl, Nat.le_of_ble_eq_true rfl⟩) ⟨blTX, va_recv hK hP (ci := 8) (q0 := 0) rfl rfl, fun U hU hW => ⟨rfl, by rw [hU]; exact SX.use hW.alike hS hX⟩⟩ rfl rfl hl.1 rfl (lv_room (Nat.le_of_ble_eq_true rfl)) dX10_ways_65 ⟨Nat.le_of_ble_eq_true rfl, Nat.le_of_ble_eq_true rfl⟩)) (fun r_559 e_559 => ?_)
            subst e_559
            obtain ⟨o_561, hr_561, h⟩ := ob h
            refine vp_callSi (va_Run.run (va_runV (As := [.int x1, .int (0 : Int32), .int x4_22, .int (b2i o_559)]) (rest := [.int x3_22]) ⟨hx, hb, hml, hown, hts⟩ (c_X10_whyNot l dC dI cB cC cI cJ cZ cT h0 q_now q_text q_row q_read q_ranks q_distinct q_proper q_line q_order q_then q_bestOrder q_lineThen q_undos q_was q_kept q_isKept v_typed v_rowMany (0 : Int32) v_length v_at v_wrong v_properMany v_orderMany v_undoMany v_drawn v_now x1 (0 : Int32) x4_22 (b2i o_559) o_561 hr_561) (cwV 4 hts gX10_ways_X10_whyNot rfl rfl rfl (by decide +kernel) ⟨Nat.le_of_ble_eq_true rfl, Nat.le_of_ble_eq_true rfl⟩) ⟨blR, va_recv hK hP (ci := 8) (q0 := 0) rfl rfl, fun U hU hW => ⟨rfl, by rw [hU]; exact hP.sub [0, 1] rfl, va_K.moved hW.alike hK⟩⟩ rfl rfl hl.1 rfl (lv_room (Nat.le_of_ble_eq_true rfl)) dX10_ways_68 ⟨Nat.le_of_ble_eq_true rfl, Nat.le_of_ble_eq_true rfl⟩)) (fun r_561 e_561 => ?_)
            subst e_561
            refine lv_if_ne (tgt := 81) hx hb dX10_ways_71 (by decide) (fun c_563 => ?_) (fun c_563 => ?_)
            · replace h := on c_563 h
              refine lv_iconst (v := 0) hx hb dX10_ways_81 (by decide) ?_
              refine lv_ior hx hb dX10_ways_82 ?_
              refine lv_istore_n (lv' := [(3, .int (x3_22 ||| (0 : Int32))), (2, .int (x2_22 ||| v_554)), (0, .ref h0), (1, .int x1), (4, .int x4_22)]) hx hb dX10_ways_83 rfl hl (by decide) rfl (fun ls hl => ?_)
              refine lv_iinc (v := (x4_22 + 1)) (lv' := [(4, .int (x4_22 + 1)), (3, .int (x3_22 ||| (0 : Int32))), (2, .int (x2_22 ||| v_554)), (0, .ref h0), (1, .int x1)]) hx hb dX10_ways_84 hl (k := 4) rfl (by rfl) (by decide) rfl (fun ls hl => ?_)
              refine lv_goto (tgt := 22) hx hb dX10_ways_87 (by decide) ?_
              exact ih (x2_22 ||| v_554) (x3_22 ||| (0 : Int32)) (x4_22 + 1) w H _ ls h hP hD hS (lv_sub hl [3, 4, 2, 1, 0] rfl) K
            · replace h := op c_563 h
              refine lv_iconst (v := 1) hx hb dX10_ways_74 (by decide) ?_
              refine lv_iload hx hb dX10_ways_75 (lv_at hl 4 rfl) ?_
              refine lv_ishl hx hb dX10_ways_77 ?_
              refine lv_goto (tgt := 82) hx hb dX10_ways_78 (by decide) ?_
              refine lv_ior hx hb dX10_ways_82 ?_
              refine lv_istore_n (lv' := [(3, .int (x3_22 ||| ((1 : Int32) <<< (x4_22 &&& 31)))), (2, .int (x2_22 ||| v_554)), (0, .ref h0), (1, .int x1), (4, .int x4_22)]) hx hb dX10_ways_83 rfl hl (by decide) rfl (fun ls hl => ?_)
              refine lv_iinc (v := (x4_22 + 1)) (lv' := [(4, .int (x4_22 + 1)), (3, .int (x3_22 ||| ((1 : Int32) <<< (x4_22 &&& 31)))), (2, .int (x2_22 ||| v_554)), (0, .ref h0), (1, .int x1)]) hx hb dX10_ways_84 hl (k := 4) rfl (by rfl) (by decide) rfl (fun ls hl => ?_)
              refine lv_goto (tgt := 22) hx hb dX10_ways_87 (by decide) ?_
              exact ih (x2_22 ||| v_554) (x3_22 ||| ((1 : Int32) <<< (x4_22 &&& 31))) (x4_22 + 1) w H _ ls h hP hD hS (lv_sub hl [3, 4, 2, 1, 0] rfl) K
          replace h := hv_554
          refine lv_if_ne (tgt := 48) hx hb dX10_ways_38 (by decide) (fun c_556 => ?_) (fun c_556 => ?_)
          · replace h := on c_556 h
            refine lv_iconst (v := 0) hx hb dX10_ways_48 (by decide) ?_
            have ho := Option.some.inj h
            subst ho
            exact J_554 H _ ls hP hD hS (lv_sub hl [0, 1, 3, 4] rfl)
          · replace h := op c_556 h
            refine lv_iconst (v := 1) hx hb dX10_ways_41 (by decide) ?_
            refine lv_iload hx hb dX10_ways_42 (lv_at hl 4 rfl) ?_
            refine lv_ishl hx hb dX10_ways_44 ?_
            refine lv_goto (tgt := 49) hx hb dX10_ways_45 (by decide) ?_
            have ho := Option.some.inj h
            subst ho
            exact J_554 H _ ls hP hD hS (lv_sub hl [0, 1, 3, 4] rfl)
    obtain ⟨w_564, hw_564, h⟩ := ob h
    refine LP_564 fu (0 : Int32) (0 : Int32) (0 : Int32) w_564 H _ ls hw_564 hP hD hS (lv_sub hl [3, 4, 2, 1, 0] rfl) (fun H locs ls hP hD hS hl => ?_)
    refine lv_aload_n hx hb dX10_ways_90 rfl (lv_at hl 0 rfl) ?_
    refine lv_iconst (v := 0) hx hb dX10_ways_91 (by decide) ?_
    refine va_put (D := (dC, dI)) (ci := 8) (v := .int (0 : Int32)) (ty := .int) (C := RX10) (T := TX10) (N := 26) hx hb hts hi_X10 tyX10 tyX10_ok nmX10 hown hK hP hD hS 0 rfl rfl 4 (by decide) (hts _ (List.mem_of_getElem? (i := 2) rfl)) (fun _ h9 => h9) rfl (by decide +kernel) rfl rfl (Nat.le_of_ble_eq_true rfl) dX10_ways_92 (fun H locs hP hD hS => ?_)
    replace hP : va_P (dC, dI) vwCl [(h0, .inr (8, [.ref q_now, .ref q_text, .int v_typed, .ref q_row, .int (0 : Int32), .int (0 : Int32), .int v_length, .int v_at, .int v_wrong, .ref q_read, .ref q_ranks, .ref q_distinct, .ref q_proper, .int v_properMany, .ref q_line, .ref q_order, .int v_orderMany, .ref q_then, .ref q_bestOrder, .ref q_lineThen, .ref q_undos, .ref q_was, .int v_undoMany, .int v_drawn, .ref q_kept, .ref q_isKept])), (q_now, .inl (cJ, 120, .inr (.inl v_now))), (q_row, .inl (cJ, 64, .inr (.inl v_row)))] H := hP
    replace hD : va_D A [(h0, .inr (8, [.ref q_now, .ref q_text, .int v_typed, .ref q_row, .int (0 : Int32), .int (0 : Int32), .int v_length, .int v_at, .int v_wrong, .ref q_read, .ref q_ranks, .ref q_distinct, .ref q_proper, .int v_properMany, .ref q_line, .ref q_order, .int v_orderMany, .ref q_then, .ref q_bestOrder, .ref q_lineThen, .ref q_undos, .ref q_was, .int v_undoMany, .int v_drawn, .ref q_kept, .ref q_isKept])), (q_now, .inl (cJ, 120, .inr (.inl v_now))), (q_row, .inl (cJ, 64, .inr (.inl v_row)))] := hD
    refine lv_aload_n hx hb dX10_ways_95 rfl (lv_at hl 0 rfl) ?_
    refine lv_iload_n hx hb dX10_ways_96 rfl (lv_at hl 2 rfl) ?_
    refine lv_i2l (v := (w_564.2).toInt64) hx hb dX10_ways_97 rfl ?_
    obtain ⟨o_565, hr_565, h⟩ := ob h
    have hPc := hP.sub (ws' := [(h0, .inr (8, [.ref q_now, .ref q_text, .int v_typed, .ref q_row, .int (0 : Int32), .int (0 : Int32), .int v_length, .int v_at, .int v_wrong, .ref q_read, .ref q_ranks, .ref q_distinct, .ref q_proper, .int v_properMany, .ref q_line, .ref q_order, .int v_orderMany, .ref q_then, .ref q_bestOrder, .ref q_lineThen, .ref q_undos, .ref q_was, .int v_undoMany, .int v_drawn, .ref q_kept, .ref q_isKept])), (q_row, .inl (cJ, 64, .inr (.inl v_row)))]) [0, 2] rfl
    have hDc := hD.sub (ws' := [(h0, .inr (8, [.ref q_now, .ref q_text, .int v_typed, .ref q_row, .int (0 : Int32), .int (0 : Int32), .int v_length, .int v_at, .int v_wrong, .ref q_read, .ref q_ranks, .ref q_distinct, .ref q_proper, .int v_properMany, .ref q_line, .ref q_order, .int v_orderMany, .ref q_then, .ref q_bestOrder, .ref q_lineThen, .ref q_undos, .ref q_was, .int v_undoMany, .int v_drawn, .ref q_kept, .ref q_isKept])), (q_row, .inl (cJ, 64, .inr (.inl v_row)))]) [0, 2] (by decide) rfl
    have hFc := va_free (wc := [(h0, .inr (8, [.ref q_now, .ref q_text, .int v_typed, .ref q_row, .int (0 : Int32), .int (0 : Int32), .int v_length, .int v_at, .int v_wrong, .ref q_read, .ref q_ranks, .ref q_distinct, .ref q_proper, .int v_properMany, .ref q_line, .ref q_order, .int v_orderMany, .ref q_then, .ref q_bestOrder, .ref q_lineThen, .ref q_undos, .ref q_was, .int v_undoMany, .int v_drawn, .ref q_kept, .ref q_isKept])), (q_row, .inl (cJ, 64, .inr (.inl v_row)))]) hD hS hA [0, 2] rfl
    refine va_callv (va_runV (As := [.long (w_564.2).toInt64]) (rest := []) ⟨hx, hb, hml, hown, hts⟩ (c_X10_tell l dC dI cB cC cI cJ cZ cT h0 q_now q_text q_row q_read q_ranks q_distinct q_proper q_line q_order q_then q_bestOrder q_lineThen q_undos q_was q_kept q_isKept H.size v_typed (0 : Int32) (0 : Int32) v_length v_at v_wrong v_properMany v_orderMany v_undoMany v_drawn v_row (w_564.2).toInt64 o_565 hr_565) (cwV 1 hts gX10_ways_X10_tell rfl rfl rfl (by decide +kernel) ⟨Nat.le_of_ble_eq_true rfl, Nat.le_of_ble_eq_true rfl⟩) ⟨blW, va_recv hK hP (ci := 8) (q0 := 0) rfl rfl, fun U hU hW => ⟨rfl, by rw [hU], by rw [hU]; exact hPc, va_K.moved hW.alike hK, hDc.weaken (fun _ _ _ _ => trivial)⟩⟩ rfl rfl hl.1 rfl (lv_room (Nat.le_of_ble_eq_true rfl)) dX10_ways_98 ⟨Nat.le_of_ble_eq_true rfl, Nat.le_of_ble_eq_true rfl⟩) hS (fun q _ h => hFc q h) hFc (fun u_565 t_565 H locs ht hvm e_565 hB hz1 hk1 hS => ?_)
    obtain ⟨hP1, -, hD1⟩ := hB
    rw [ht] at hP1
    obtain ⟨hP, hD⟩ := va_join (wr := [(q_now, .inl (cJ, 120, .inr (.inl v_now)))]) (w1 := [(h0, .inr (8, [.ref q_now, .ref q_text, .int v_typed, .ref q_row, .int o_565.1, .int (0 : Int32), .int v_length, .int v_at, .int v_wrong, .ref q_read, .ref q_ranks, .ref q_distinct, .ref q_proper, .int v_properMany, .ref q_line, .ref q_order, .int v_orderMany, .ref q_then, .ref q_bestOrder, .ref q_lineThen, .ref q_undos, .ref q_was, .int v_undoMany, .int v_drawn, .ref q_kept, .ref q_isKept])), (q_row, .inl (cJ, 64, .inr (.inl o_565.2)))]) hP hD [0, 2] [1] rfl rfl (by decide) (by decide) hk1 hFc hP1 hD1
    replace hP := hP.sub (ws' := [(h0, .inr (8, [.ref q_now, .ref q_text, .int v_typed, .ref q_row, .int o_565.1, .int (0 : Int32), .int v_length, .int v_at, .int v_wrong, .ref q_read, .ref q_ranks, .ref q_distinct, .ref q_proper, .int v_properMany, .ref q_line, .ref q_order, .int v_orderMany, .ref q_then, .ref q_bestOrder, .ref q_lineThen, .ref q_undos, .ref q_was, .int v_undoMany, .int v_drawn, .ref q_kept, .ref q_isKept])), (q_now, .inl (cJ, 120, .inr (.inl v_now))), (q_row, .inl (cJ, 64, .inr (.inl o_565.2)))]) [1, 0, 2] rfl
    replace hD := hD.sub (ws' := [(h0, .inr (8, [.ref q_now, .ref q_text, .int v_typed, .ref q_row, .int o_565.1, .int (0 : Int32), .int v_length, .int v_at, .int v_wrong, .ref q_read, .ref q_ranks, .ref q_distinct, .ref q_proper, .int v_properMany, .ref q_line, .ref q_order, .int v_orderMany, .ref q_then, .ref q_bestOrder, .ref q_lineThen, .ref q_undos, .ref q_was, .int v_undoMany, .int v_drawn, .ref q_kept, .ref q_isKept])), (q_now, .inl (cJ, 120, .inr (.inl v_now))), (q_row, .inl (cJ, 64, .inr (.inl o_565.2)))]) [1, 0, 2] (by decide) rfl
    refine lv_iload_n hx hb dX10_ways_101 rfl (lv_at hl 1 rfl) ?_
    rw [hQQ]
    have ho := Option.some.inj h
    subst ho
    exact W.iret hx hb hr (fun t ht hW => ⟨⟨_, (), rfl, rfl, by rw [ht]; exact hP, va_K.moved hW.alike hK, hD⟩, hS.F ht⟩) hS.2.2 dX10_ways_102
  · replace h := op c_550 h
    refine lv_iconst (v := -1) hx hb dX10_ways_13 (by decide) ?_
    rw [hQQ]
    have ho := Option.some.inj h
    subst ho
    exact W.iret hx hb hr (fun t ht hW => ⟨⟨_, (), rfl, rfl, by rw [ht]; exact hP, va_K.moved hW.alike hK, hD⟩, hS.F ht⟩) hS.2.2 dX10_ways_14
def f_X10_isLesser (x1 : Int32) (x2 : Int64) (x4 : Int64) : Option Bool :=
  (if (lg_cmp x2 x4) = 0 then (some false) else (if x1 < (8 : Int32) then (if x1 = (6 : Int32) then ((f_X10_worth x1 x2).bind (fun o_570 => ((f_X10_worth x1 x4).bind (fun o_572 => (if 0 ≤ (Op.cmpValue (FP.dcmp o_570 o_572) .g) then (some false) else (some true)))))) else (if x1 = (7 : Int32) then ((f_X10_worth x1 x2).bind (fun o_581 => ((f_X10_worth x1 x4).bind (fun o_583 => (if 0 ≤ (Op.cmpValue (FP.dcmp o_581 o_583) .g) then (some false) else (some true)))))) else (if x1 = (9 : Int32) then (if (lg_cmp (x2 - x2 / (26 : Int64) * (26 : Int64)) (x4 - x4 / (26 : Int64) * (26 : Int64))) = 0 then (if 0 ≤ (lg_cmp x2 x4) then (some false) else (some true)) else (if 0 ≤ (lg_cmp (x2 - x2 / (26 : Int64) * (26 : Int64)) (x4 - x4 / (26 : Int64) * (26 : Int64))) then (some false) else (some true))) else (if 0 ≤ (lg_cmp x2 x4) then (some false) else (some true))))) else (if (lg_cmp x2 (-9223372036854775808 : Int64)) = 0 then (if (lg_cmp x2 (-9223372036854775808 : Int64)) = 0 then (some true) else (some false)) else (if (lg_cmp x4 (-9223372036854775808 : Int64)) = 0 then (if (lg_cmp x2 (-9223372036854775808 : Int64)) = 0 then (some true) else (some false)) else (if x1 = (6 : Int32) then ((f_X10_worth x1 x2).bind (fun o_590 => ((f_X10_worth x1 x4).bind (fun o_592 => (if 0 ≤ (Op.cmpValue (FP.dcmp o_590 o_592) .g) then (some false) else (some true)))))) else (if x1 = (7 : Int32) then ((f_X10_worth x1 x2).bind (fun o_601 => ((f_X10_worth x1 x4).bind (fun o_603 => (if 0 ≤ (Op.cmpValue (FP.dcmp o_601 o_603) .g) then (some false) else (some true)))))) else (if x1 = (9 : Int32) then (if (lg_cmp (x2 - x2 / (26 : Int64) * (26 : Int64)) (x4 - x4 / (26 : Int64) * (26 : Int64))) = 0 then (if 0 ≤ (lg_cmp x2 x4) then (some false) else (some true)) else (if 0 ≤ (lg_cmp (x2 - x2 / (26 : Int64) * (26 : Int64)) (x4 - x4 / (26 : Int64) * (26 : Int64))) then (some false) else (some true))) else (if 0 ≤ (lg_cmp x2 x4) then (some false) else (some true)))))))))
abbrev rm_X10_isLesser : Room := { frames := 2, cells := 0, slots := 0, locals := 45 }
set_option maxHeartbeats 4000000 in
set_option maxRecDepth 100000 in
theorem c_X10_isLesser (l : Launch) (dC : Nat → ClassId) (dI : Nat → Nat → Nat) (cB cC cI cJ cZ cT : ClassId) (h0 : Nat) (x1 : Int32) (x2 : Int64) (x4 : Int64) (o : Bool) (hf : f_X10_isLesser x1 x2 x4 = some o) : Met l yX10_isLesser wsX10_isLesser rm_X10_isLesser (va_Pc [.ref h0, .int x1, .long x2, .long x4] (fun _ => True)) (vp_Si (fun r => b2i o = r)) 0 0 (fun _ => False) := by
  refine Met.ofW (cc := cX10_isLesser) (maxL := 6) (ret := (some .boolean)) (by decide) rfl ?_
  intro p e s m args below meth c s₁ B hml hv
  obtain ⟨hav, -⟩ := hv
  have hx := B.exec
  have hb := B.bytes
  have hr := B.returns
  have hts := atoms_spec (ws := wsX10_isLesser) B.pre
  have hown : s.vm.findClass RX10 = some m.cls := findClass_of_methodNamed B.named
  have hlocks := B.notSynchronized
  refine wstart (rm := rm_X10_isLesser) hav (Nat.le_of_ble_eq_true rfl) (fun QQ ls hQQ hl => ?_)
  have hl : lv_has ls 6 [(0, .ref h0), (1, .int x1), (2, .long x2), (4, .long x4)] := hl
  have h := hf
  unfold f_X10_isLesser at h
  refine lv_lload_n hx hb dX10_isLesser_0 rfl (lv_at hl 2 rfl) ?_
  refine lv_lload hx hb dX10_isLesser_1 (lv_at hl 3 rfl) ?_
  refine W.lcmp hx hb dX10_isLesser_3 ?_
  refine lv_if_ne (tgt := 9) hx hb dX10_isLesser_4 (by decide) (fun c_567 => ?_) (fun c_567 => ?_)
  · replace h := on c_567 h
    refine lv_iload_n hx hb dX10_isLesser_9 rfl (lv_at hl 1 rfl) ?_
    refine lv_bipush (v := 8) hx hb dX10_isLesser_10 (by decide) ?_
    refine lv_icmp_lt (tgt := 46) hx hb dX10_isLesser_12 (by decide) (fun c_568 => ?_) (fun c_568 => ?_)
    · replace h := op c_568 h
      refine lv_iload_n hx hb dX10_isLesser_46 rfl (lv_at hl 1 rfl) ?_
      refine lv_bipush (v := 6) hx hb dX10_isLesser_47 (by decide) ?_
      refine lv_icmp_eq (tgt := 58) hx hb dX10_isLesser_49 (by decide) (fun c_569 => ?_) (fun c_569 => ?_)
      · replace h := op c_569 h
        refine lv_iload_n hx hb dX10_isLesser_58 rfl (lv_at hl 1 rfl) ?_
        refine lv_lload_n hx hb dX10_isLesser_59 rfl (lv_at hl 2 rfl) ?_
        obtain ⟨o_570, hr_570, h⟩ := ob h
        refine vp_callSd (va_Run.run (va_runS (As := [.int x1, .long x2]) (rest := []) ⟨hx, hb, hml, hown, hts⟩ (c_X10_worth l dC dI cB cC cI cJ cZ cT x1 x2 o_570 hr_570) (va_cwS 2 hts gX10_isLesser_X10_worth rfl rfl rfl (by decide +kernel) ⟨Nat.le_of_ble_eq_true rfl, Nat.le_of_ble_eq_true rfl⟩) ⟨blT, fun U hU hW => ⟨rfl, trivial⟩⟩ rfl rfl hl.1 rfl (lv_room (Nat.le_of_ble_eq_true rfl)) dX10_isLesser_60 ⟨Nat.le_of_ble_eq_true rfl, Nat.le_of_ble_eq_true rfl⟩)) (fun r_570 e_570 => ?_)
        subst e_570
        refine lv_iload_n hx hb dX10_isLesser_63 rfl (lv_at hl 1 rfl) ?_
        refine lv_lload hx hb dX10_isLesser_64 (lv_at hl 3 rfl) ?_
        obtain ⟨o_572, hr_572, h⟩ := ob h
        refine vp_callSd (va_Run.run (va_runS (As := [.int x1, .long x4]) (rest := [.double o_570]) ⟨hx, hb, hml, hown, hts⟩ (c_X10_worth l dC dI cB cC cI cJ cZ cT x1 x4 o_572 hr_572) (va_cwS 2 hts gX10_isLesser_X10_worth rfl rfl rfl (by decide +kernel) ⟨Nat.le_of_ble_eq_true rfl, Nat.le_of_ble_eq_true rfl⟩) ⟨blT, fun U hU hW => ⟨rfl, trivial⟩⟩ rfl rfl hl.1 rfl (lv_room (Nat.le_of_ble_eq_true rfl)) dX10_isLesser_66 ⟨Nat.le_of_ble_eq_true rfl, Nat.le_of_ble_eq_true rfl⟩)) (fun r_572 e_572 => ?_)
        subst e_572
        refine lv_dcmp hx hb dX10_isLesser_69 ?_
        refine lv_if_ge (tgt := 77) hx hb dX10_isLesser_70 (by decide) (fun c_574 => ?_) (fun c_574 => ?_)
        · replace h := op c_574 h
          refine lv_iconst (v := 0) hx hb dX10_isLesser_77 (by decide) ?_
          rw [hQQ]
          exact W.zret hx hb hr rfl (fun t ht hW => ⟨_, rfl, (congrArg b2i (Option.some.inj h).symm), ht⟩) (fun q hq => absurd hq List.not_mem_nil) dX10_isLesser_78
        · replace h := on c_574 h
          refine lv_iconst (v := 1) hx hb dX10_isLesser_73 (by decide) ?_
          refine lv_goto (tgt := 78) hx hb dX10_isLesser_74 (by decide) ?_
          rw [hQQ]
          exact W.zret hx hb hr rfl (fun t ht hW => ⟨_, rfl, (congrArg b2i (Option.some.inj h).symm), ht⟩) (fun q hq => absurd hq List.not_mem_nil) dX10_isLesser_78
      · replace h := on c_569 h
        refine lv_iload_n hx hb dX10_isLesser_52 rfl (lv_at hl 1 rfl) ?_
        refine lv_bipush (v := 7) hx hb dX10_isLesser_53 (by decide) ?_
        refine lv_icmp_ne (tgt := 79) hx hb dX10_isLesser_55 (by decide) (fun c_575 => ?_) (fun c_575 => ?_)
        · replace h := on c_575 h
          refine lv_iload_n hx hb dX10_isLesser_79 rfl (lv_at hl 1 rfl) ?_
          refine lv_bipush (v := 9) hx hb dX10_isLesser_80 (by decide) ?_
          refine lv_icmp_ne (tgt := 138) hx hb dX10_isLesser_82 (by decide) (fun c_576 => ?_) (fun c_576 => ?_)
          · replace h := on c_576 h
            refine lv_lload_n hx hb dX10_isLesser_138 rfl (lv_at hl 2 rfl) ?_
            refine lv_lload hx hb dX10_isLesser_139 (lv_at hl 3 rfl) ?_
            refine W.lcmp hx hb dX10_isLesser_141 ?_
            refine lv_if_ge (tgt := 149) hx hb dX10_isLesser_142 (by decide) (fun c_577 => ?_) (fun c_577 => ?_)
            · replace h := op c_577 h
              refine lv_iconst (v := 0) hx hb dX10_isLesser_149 (by decide) ?_
              rw [hQQ]
              exact W.zret hx hb hr rfl (fun t ht hW => ⟨_, rfl, (congrArg b2i (Option.some.inj h).symm), ht⟩) (fun q hq => absurd hq List.not_mem_nil) dX10_isLesser_150
            · replace h := on c_577 h
              refine lv_iconst (v := 1) hx hb dX10_isLesser_145 (by decide) ?_
              refine lv_goto (tgt := 150) hx hb dX10_isLesser_146 (by decide) ?_
              rw [hQQ]
              exact W.zret hx hb hr rfl (fun t ht hW => ⟨_, rfl, (congrArg b2i (Option.some.inj h).symm), ht⟩) (fun q hq => absurd hq List.not_mem_nil) dX10_isLesser_150
          · replace h := op c_576 h
            refine lv_lload_n hx hb dX10_isLesser_85 rfl (lv_at hl 2 rfl) ?_
            refine lv_ldc2 (v := 26) hx hb hown (hts _ (List.mem_of_getElem? (i := 2) rfl)) dX10_isLesser_86 ?_
            refine lv_lrem hx hb dX10_isLesser_89 (by decide) ?_
            refine lv_lload hx hb dX10_isLesser_90 (lv_at hl 3 rfl) ?_
            refine lv_ldc2 (v := 26) hx hb hown (hts _ (List.mem_of_getElem? (i := 2) rfl)) dX10_isLesser_92 ?_
            refine lv_lrem hx hb dX10_isLesser_95 (by decide) ?_
            refine W.lcmp hx hb dX10_isLesser_96 ?_
            refine lv_if_eq (tgt := 123) hx hb dX10_isLesser_97 (by decide) (fun c_578 => ?_) (fun c_578 => ?_)
            · replace h := op c_578 h
              refine lv_lload_n hx hb dX10_isLesser_123 rfl (lv_at hl 2 rfl) ?_
              refine lv_lload hx hb dX10_isLesser_124 (lv_at hl 3 rfl) ?_
              refine W.lcmp hx hb dX10_isLesser_126 ?_
              refine lv_if_ge (tgt := 134) hx hb dX10_isLesser_127 (by decide) (fun c_579 => ?_) (fun c_579 => ?_)
              · replace h := op c_579 h
                refine lv_iconst (v := 0) hx hb dX10_isLesser_134 (by decide) ?_
                refine lv_goto (tgt := 150) hx hb dX10_isLesser_135 (by decide) ?_
                rw [hQQ]
                exact W.zret hx hb hr rfl (fun t ht hW => ⟨_, rfl, (congrArg b2i (Option.some.inj h).symm), ht⟩) (fun q hq => absurd hq List.not_mem_nil) dX10_isLesser_150
              · replace h := on c_579 h
                refine lv_iconst (v := 1) hx hb dX10_isLesser_130 (by decide) ?_
                refine lv_goto (tgt := 150) hx hb dX10_isLesser_131 (by decide) ?_
                rw [hQQ]
                exact W.zret hx hb hr rfl (fun t ht hW => ⟨_, rfl, (congrArg b2i (Option.some.inj h).symm), ht⟩) (fun q hq => absurd hq List.not_mem_nil) dX10_isLesser_150
            · replace h := on c_578 h
              refine lv_lload_n hx hb dX10_isLesser_100 rfl (lv_at hl 2 rfl) ?_
              refine lv_ldc2 (v := 26) hx hb hown (hts _ (List.mem_of_getElem? (i := 2) rfl)) dX10_isLesser_101 ?_
              refine lv_lrem hx hb dX10_isLesser_104 (by decide) ?_
              refine lv_lload hx hb dX10_isLesser_105 (lv_at hl 3 rfl) ?_
              refine lv_ldc2 (v := 26) hx hb hown (hts _ (List.mem_of_getElem? (i := 2) rfl)) dX10_isLesser_107 ?_
              refine lv_lrem hx hb dX10_isLesser_110 (by decide) ?_
              refine W.lcmp hx hb dX10_isLesser_111 ?_
              refine lv_if_ge (tgt := 119) hx hb dX10_isLesser_112 (by decide) (fun c_580 => ?_) (fun c_580 => ?_)
              · replace h := op c_580 h
                refine lv_iconst (v := 0) hx hb dX10_isLesser_119 (by decide) ?_
                refine lv_goto (tgt := 150) hx hb dX10_isLesser_120 (by decide) ?_
                rw [hQQ]
                exact W.zret hx hb hr rfl (fun t ht hW => ⟨_, rfl, (congrArg b2i (Option.some.inj h).symm), ht⟩) (fun q hq => absurd hq List.not_mem_nil) dX10_isLesser_150
              · replace h := on c_580 h
                refine lv_iconst (v := 1) hx hb dX10_isLesser_115 (by decide) ?_
                refine lv_goto (tgt := 150) hx hb dX10_isLesser_116 (by decide) ?_
                rw [hQQ]
                exact W.zret hx hb hr rfl (fun t ht hW => ⟨_, rfl, (congrArg b2i (Option.some.inj h).symm), ht⟩) (fun q hq => absurd hq List.not_mem_nil) dX10_isLesser_150
        · replace h := op c_575 h
          refine lv_iload_n hx hb dX10_isLesser_58 rfl (lv_at hl 1 rfl) ?_
          refine lv_lload_n hx hb dX10_isLesser_59 rfl (lv_at hl 2 rfl) ?_
          obtain ⟨o_581, hr_581, h⟩ := ob h
          refine vp_callSd (va_Run.run (va_runS (As := [.int x1, .long x2]) (rest := []) ⟨hx, hb, hml, hown, hts⟩ (c_X10_worth l dC dI cB cC cI cJ cZ cT x1 x2 o_581 hr_581) (va_cwS 2 hts gX10_isLesser_X10_worth rfl rfl rfl (by decide +kernel) ⟨Nat.le_of_ble_eq_true rfl, Nat.le_of_ble_eq_true rfl⟩) ⟨blT, fun U hU hW => ⟨rfl, trivial⟩⟩ rfl rfl hl.1 rfl (lv_room (Nat.le_of_ble_eq_true rfl)) dX10_isLesser_60 ⟨Nat.le_of_ble_eq_true rfl, Nat.le_of_ble_eq_true rfl⟩)) (fun r_581 e_581 => ?_)
          subst e_581
          refine lv_iload_n hx hb dX10_isLesser_63 rfl (lv_at hl 1 rfl) ?_
          refine lv_lload hx hb dX10_isLesser_64 (lv_at hl 3 rfl) ?_
          obtain ⟨o_583, hr_583, h⟩ := ob h
          refine vp_callSd (va_Run.run (va_runS (As := [.int x1, .long x4]) (rest := [.double o_581]) ⟨hx, hb, hml, hown, hts⟩ (c_X10_worth l dC dI cB cC cI cJ cZ cT x1 x4 o_583 hr_583) (va_cwS 2 hts gX10_isLesser_X10_worth rfl rfl rfl (by decide +kernel) ⟨Nat.le_of_ble_eq_true rfl, Nat.le_of_ble_eq_true rfl⟩) ⟨blT, fun U hU hW => ⟨rfl, trivial⟩⟩ rfl rfl hl.1 rfl (lv_room (Nat.le_of_ble_eq_true rfl)) dX10_isLesser_66 ⟨Nat.le_of_ble_eq_true rfl, Nat.le_of_ble_eq_true rfl⟩)) (fun r_583 e_583 => ?_)
          subst e_583
          refine lv_dcmp hx hb dX10_isLesser_69 ?_
          refine lv_if_ge (tgt := 77) hx hb dX10_isLesser_70 (by decide) (fun c_585 => ?_) (fun c_585 => ?_)
          · replace h := op c_585 h
            refine lv_iconst (v := 0) hx hb dX10_isLesser_77 (by decide) ?_
            rw [hQQ]
            exact W.zret hx hb hr rfl (fun t ht hW => ⟨_, rfl, (congrArg b2i (Option.some.inj h).symm), ht⟩) (fun q hq => absurd hq List.not_mem_nil) dX10_isLesser_78
          · replace h := on c_585 h
            refine lv_iconst (v := 1) hx hb dX10_isLesser_73 (by decide) ?_
            refine lv_goto (tgt := 78) hx hb dX10_isLesser_74 (by decide) ?_
            rw [hQQ]
            exact W.zret hx hb hr rfl (fun t ht hW => ⟨_, rfl, (congrArg b2i (Option.some.inj h).symm), ht⟩) (fun q hq => absurd hq List.not_mem_nil) dX10_isLesser_78
    · replace h := on c_568 h
      refine lv_lload_n hx hb dX10_isLesser_15 rfl (lv_at hl 2 rfl) ?_
      refine lv_ldc2 (v := -9223372036854775808) hx hb hown (hts _ (List.mem_of_getElem? (i := 1) rfl)) dX10_isLesser_16 ?_
      refine W.lcmp hx hb dX10_isLesser_19 ?_
      refine lv_if_eq (tgt := 32) hx hb dX10_isLesser_20 (by decide) (fun c_586 => ?_) (fun c_586 => ?_)
      · replace h := op c_586 h
        refine lv_lload_n hx hb dX10_isLesser_32 rfl (lv_at hl 2 rfl) ?_
        refine lv_ldc2 (v := -9223372036854775808) hx hb hown (hts _ (List.mem_of_getElem? (i := 1) rfl)) dX10_isLesser_33 ?_
        refine W.lcmp hx hb dX10_isLesser_36 ?_
        refine lv_if_ne (tgt := 44) hx hb dX10_isLesser_37 (by decide) (fun c_587 => ?_) (fun c_587 => ?_)
        · replace h := on c_587 h
          refine lv_iconst (v := 0) hx hb dX10_isLesser_44 (by decide) ?_
          rw [hQQ]
          exact W.zret hx hb hr rfl (fun t ht hW => ⟨_, rfl, (congrArg b2i (Option.some.inj h).symm), ht⟩) (fun q hq => absurd hq List.not_mem_nil) dX10_isLesser_45
        · replace h := op c_587 h
          refine lv_iconst (v := 1) hx hb dX10_isLesser_40 (by decide) ?_
          refine lv_goto (tgt := 45) hx hb dX10_isLesser_41 (by decide) ?_
          rw [hQQ]
          exact W.zret hx hb hr rfl (fun t ht hW => ⟨_, rfl, (congrArg b2i (Option.some.inj h).symm), ht⟩) (fun q hq => absurd hq List.not_mem_nil) dX10_isLesser_45
      · replace h := on c_586 h
        refine lv_lload hx hb dX10_isLesser_23 (lv_at hl 3 rfl) ?_
        refine lv_ldc2 (v := -9223372036854775808) hx hb hown (hts _ (List.mem_of_getElem? (i := 1) rfl)) dX10_isLesser_25 ?_
        refine W.lcmp hx hb dX10_isLesser_28 ?_
        refine lv_if_ne (tgt := 46) hx hb dX10_isLesser_29 (by decide) (fun c_588 => ?_) (fun c_588 => ?_)
        · replace h := on c_588 h
          refine lv_iload_n hx hb dX10_isLesser_46 rfl (lv_at hl 1 rfl) ?_
          refine lv_bipush (v := 6) hx hb dX10_isLesser_47 (by decide) ?_
          refine lv_icmp_eq (tgt := 58) hx hb dX10_isLesser_49 (by decide) (fun c_589 => ?_) (fun c_589 => ?_)
          · replace h := op c_589 h
            refine lv_iload_n hx hb dX10_isLesser_58 rfl (lv_at hl 1 rfl) ?_
            refine lv_lload_n hx hb dX10_isLesser_59 rfl (lv_at hl 2 rfl) ?_
            obtain ⟨o_590, hr_590, h⟩ := ob h
            refine vp_callSd (va_Run.run (va_runS (As := [.int x1, .long x2]) (rest := []) ⟨hx, hb, hml, hown, hts⟩ (c_X10_worth l dC dI cB cC cI cJ cZ cT x1 x2 o_590 hr_590) (va_cwS 2 hts gX10_isLesser_X10_worth rfl rfl rfl (by decide +kernel) ⟨Nat.le_of_ble_eq_true rfl, Nat.le_of_ble_eq_true rfl⟩) ⟨blT, fun U hU hW => ⟨rfl, trivial⟩⟩ rfl rfl hl.1 rfl (lv_room (Nat.le_of_ble_eq_true rfl)) dX10_isLesser_60 ⟨Nat.le_of_ble_eq_true rfl, Nat.le_of_ble_eq_true rfl⟩)) (fun r_590 e_590 => ?_)
            subst e_590
            refine lv_iload_n hx hb dX10_isLesser_63 rfl (lv_at hl 1 rfl) ?_
            refine lv_lload hx hb dX10_isLesser_64 (lv_at hl 3 rfl) ?_
            obtain ⟨o_592, hr_592, h⟩ := ob h
            refine vp_callSd (va_Run.run (va_runS (As := [.int x1, .long x4]) (rest := [.double o_590]) ⟨hx, hb, hml, hown, hts⟩ (c_X10_worth l dC dI cB cC cI cJ cZ cT x1 x4 o_592 hr_592) (va_cwS 2 hts gX10_isLesser_X10_worth rfl rfl rfl (by decide +kernel) ⟨Nat.le_of_ble_eq_true rfl, Nat.le_of_ble_eq_true rfl⟩) ⟨blT, fun U hU hW => ⟨rfl, trivial⟩⟩ rfl rfl hl.1 rfl (lv_room (Nat.le_of_ble_eq_true rfl)) dX10_isLesser_66 ⟨Nat.le_of_ble_eq_true rfl, Nat.le_of_ble_eq_true rfl⟩)) (fun r_592 e_592 => ?_)
            subst e_592
            refine lv_dcmp hx hb dX10_isLesser_69 ?_
            refine lv_if_ge (tgt := 77) hx hb dX10_isLesser_70 (by decide) (fun c_594 => ?_) (fun c_594 => ?_)
            · replace h := op c_594 h
              refine lv_iconst (v := 0) hx hb dX10_isLesser_77 (by decide) ?_
              rw [hQQ]
              exact W.zret hx hb hr rfl (fun t ht hW => ⟨_, rfl, (congrArg b2i (Option.some.inj h).symm), ht⟩) (fun q hq => absurd hq List.not_mem_nil) dX10_isLesser_78
            · replace h := on c_594 h
              refine lv_iconst (v := 1) hx hb dX10_isLesser_73 (by decide) ?_
              refine lv_goto (tgt := 78) hx hb dX10_isLesser_74 (by decide) ?_
              rw [hQQ]
              exact W.zret hx hb hr rfl (fun t ht hW => ⟨_, rfl, (congrArg b2i (Option.some.inj h).symm), ht⟩) (fun q hq => absurd hq List.not_mem_nil) dX10_isLesser_78
          · replace h := on c_589 h
            refine lv_iload_n hx hb dX10_isLesser_52 rfl (lv_at hl 1 rfl) ?_
            refine lv_bipush (v := 7) hx hb dX10_isLesser_53 (by decide) ?_
            refine lv_icmp_ne (tgt := 79) hx hb dX10_isLesser_55 (by decide) (fun c_595 => ?_) (fun c_595 => ?_)
            · replace h := on c_595 h
              refine lv_iload_n hx hb dX10_isLesser_79 rfl (lv_at hl 1 rfl) ?_
              refine lv_bipush (v := 9) hx hb dX10_isLesser_80 (by decide) ?_
              refine lv_icmp_ne (tgt := 138) hx hb dX10_isLesser_82 (by decide) (fun c_596 => ?_) (fun c_596 => ?_)
              · replace h := on c_596 h
                refine lv_lload_n hx hb dX10_isLesser_138 rfl (lv_at hl 2 rfl) ?_
                refine lv_lload hx hb dX10_isLesser_139 (lv_at hl 3 rfl) ?_
                refine W.lcmp hx hb dX10_isLesser_141 ?_
                refine lv_if_ge (tgt := 149) hx hb dX10_isLesser_142 (by decide) (fun c_597 => ?_) (fun c_597 => ?_)
                · replace h := op c_597 h
                  refine lv_iconst (v := 0) hx hb dX10_isLesser_149 (by decide) ?_
                  rw [hQQ]
                  exact W.zret hx hb hr rfl (fun t ht hW => ⟨_, rfl, (congrArg b2i (Option.some.inj h).symm), ht⟩) (fun q hq => absurd hq List.not_mem_nil) dX10_isLesser_150
                · replace h := on c_597 h
                  refine lv_iconst (v := 1) hx hb dX10_isLesser_145 (by decide) ?_
                  refine lv_goto (tgt := 150) hx hb dX10_isLesser_146 (by decide) ?_
                  rw [hQQ]
                  exact W.zret hx hb hr rfl (fun t ht hW => ⟨_, rfl, (congrArg b2i (Option.some.inj h).symm), ht⟩) (fun q hq => absurd hq List.not_mem_nil) dX10_isLesser_150
              · replace h := op c_596 h
                refine lv_lload_n hx hb dX10_isLesser_85 rfl (lv_at hl 2 rfl) ?_
                refine lv_ldc2 (v := 26) hx hb hown (hts _ (List.mem_of_getElem? (i := 2) rfl)) dX10_isLesser_86 ?_
                refine lv_lrem hx hb dX10_isLesser_89 (by decide) ?_
                refine lv_lload hx hb dX10_isLesser_90 (lv_at hl 3 rfl) ?_
                refine lv_ldc2 (v := 26) hx hb hown (hts _ (List.mem_of_getElem? (i := 2) rfl)) dX10_isLesser_92 ?_
                refine lv_lrem hx hb dX10_isLesser_95 (by decide) ?_
                refine W.lcmp hx hb dX10_isLesser_96 ?_
                refine lv_if_eq (tgt := 123) hx hb dX10_isLesser_97 (by decide) (fun c_598 => ?_) (fun c_598 => ?_)
                · replace h := op c_598 h
                  refine lv_lload_n hx hb dX10_isLesser_123 rfl (lv_at hl 2 rfl) ?_
                  refine lv_lload hx hb dX10_isLesser_124 (lv_at hl 3 rfl) ?_
                  refine W.lcmp hx hb dX10_isLesser_126 ?_
                  refine lv_if_ge (tgt := 134) hx hb dX10_isLesser_127 (by decide) (fun c_599 => ?_) (fun c_599 => ?_)
                  · replace h := op c_599 h
                    refine lv_iconst (v := 0) hx hb dX10_isLesser_134 (by decide) ?_
                    refine lv_goto (tgt := 150) hx hb dX10_isLesser_135 (by decide) ?_
                    rw [hQQ]
                    exact W.zret hx hb hr rfl (fun t ht hW => ⟨_, rfl, (congrArg b2i (Option.some.inj h).symm), ht⟩) (fun q hq => absurd hq List.not_mem_nil) dX10_isLesser_150
                  · replace h := on c_599 h
                    refine lv_iconst (v := 1) hx hb dX10_isLesser_130 (by decide) ?_
                    refine lv_goto (tgt := 150) hx hb dX10_isLesser_131 (by decide) ?_
                    rw [hQQ]
                    exact W.zret hx hb hr rfl (fun t ht hW => ⟨_, rfl, (congrArg b2i (Option.some.inj h).symm), ht⟩) (fun q hq => absurd hq List.not_mem_nil) dX10_isLesser_150
                · replace h := on c_598 h
                  refine lv_lload_n hx hb dX10_isLesser_100 rfl (lv_at hl 2 rfl) ?_
                  refine lv_ldc2 (v := 26) hx hb hown (hts _ (List.mem_of_getElem? (i := 2) rfl)) dX10_isLesser_101 ?_
                  refine lv_lrem hx hb dX10_isLesser_104 (by decide) ?_
                  refine lv_lload hx hb dX10_isLesser_105 (lv_at hl 3 rfl) ?_
                  refine lv_ldc2 (v := 26) hx hb hown (hts _ (List.mem_of_getElem? (i := 2) rfl)) dX10_isLesser_107 ?_
                  refine lv_lrem hx hb dX10_isLesser_110 (by decide) ?_
                  refine W.lcmp hx hb dX10_isLesser_111 ?_
                  refine lv_if_ge (tgt := 119) hx hb dX10_isLesser_112 (by decide) (fun c_600 => ?_) (fun c_600 => ?_)
                  · replace h := op c_600 h
                    refine lv_iconst (v := 0) hx hb dX10_isLesser_119 (by decide) ?_
                    refine lv_goto (tgt := 150) hx hb dX10_isLesser_120 (by decide) ?_
                    rw [hQQ]
                    exact W.zret hx hb hr rfl (fun t ht hW => ⟨_, rfl, (congrArg b2i (Option.some.inj h).symm), ht⟩) (fun q hq => absurd hq List.not_mem_nil) dX10_isLesser_150
                  · replace h := on c_600 h
                    refine lv_iconst (v := 1) hx hb dX10_isLesser_115 (by decide) ?_
                    refine lv_goto (tgt := 150) hx hb dX10_isLesser_116 (by decide) ?_
                    rw [hQQ]
                    exact W.zret hx hb hr rfl (fun t ht hW => ⟨_, rfl, (congrArg b2i (Option.some.inj h).symm), ht⟩) (fun q hq => absurd hq List.not_mem_nil) dX10_isLesser_150
            · replace h := op c_595 h
              refine lv_iload_n hx hb dX10_isLesser_58 rfl (lv_at hl 1 rfl) ?_
              refine lv_lload_n hx hb dX10_isLesser_59 rfl (lv_at hl 2 rfl) ?_
              obtain ⟨o_601, hr_601, h⟩ := ob h
              refine vp_callSd (va_Run.run (va_runS (As := [.int x1, .long x2]) (rest := []) ⟨hx, hb, hml, hown, hts⟩ (c_X10_worth l dC dI cB cC cI cJ cZ cT x1 x2 o_601 hr_601) (va_cwS 2 hts gX10_isLesser_X10_worth rfl rfl rfl (by decide +kernel) ⟨Nat.le_of_ble_eq_true rfl, Nat.le_of_ble_eq_true rfl⟩) ⟨blT, fun U hU hW => ⟨rfl, trivial⟩⟩ rfl rfl hl.1 rfl (lv_room (Nat.le_of_ble_eq_true rfl)) dX10_isLesser_60 ⟨Nat.le_of_ble_eq_true rfl, Nat.le_of_ble_eq_true rfl⟩)) (fun r_601 e_601 => ?_)
              subst e_601
              refine lv_iload_n hx hb dX10_isLesser_63 rfl (lv_at hl 1 rfl) ?_
              refine lv_lload hx hb dX10_isLesser_64 (lv_at hl 3 rfl) ?_
              obtain ⟨o_603, hr_603, h⟩ := ob h
              refine vp_callSd (va_Run.run (va_runS (As := [.int x1, .long x4]) (rest := [.double o_601]) ⟨hx, hb, hml, hown, hts⟩ (c_X10_worth l dC dI cB cC cI cJ cZ cT x1 x4 o_603 hr_603) (va_cwS 2 hts gX10_isLesser_X10_worth rfl rfl rfl (by decide +kernel) ⟨Nat.le_of_ble_eq_true rfl, Nat.le_of_ble_eq_true rfl⟩) ⟨blT, fun U hU hW => ⟨rfl, trivial⟩⟩ rfl rfl hl.1 rfl (lv_room (Nat.le_of_ble_eq_true rfl)) dX10_isLesser_66 ⟨Nat.le_of_ble_eq_true rfl, Nat.le_of_ble_eq_true rfl⟩)) (fun r_603 e_603 => ?_)
              subst e_603
              refine lv_dcmp hx hb dX10_isLesser_69 ?_
              refine lv_if_ge (tgt := 77) hx hb dX10_isLesser_70 (by decide) (fun c_605 => ?_) (fun c_605 => ?_)
              · replace h := op c_605 h
                refine lv_iconst (v := 0) hx hb dX10_isLesser_77 (by decide) ?_
                rw [hQQ]
                exact W.zret hx hb hr rfl (fun t ht hW => ⟨_, rfl, (congrArg b2i (Option.some.inj h).symm), ht⟩) (fun q hq => absurd hq List.not_mem_nil) dX10_isLesser_78
              · replace h := on c_605 h
                refine lv_iconst (v := 1) hx hb dX10_isLesser_73 (by decide) ?_
                refine lv_goto (tgt := 78) hx hb dX10_isLesser_74 (by decide) ?_
                rw [hQQ]
                exact W.zret hx hb hr rfl (fun t ht hW => ⟨_, rfl, (congrArg b2i (Option.some.inj h).symm), ht⟩) (fun q hq => absurd hq List.not_mem_nil) dX10_isLesser_78
        · replace h := op c_588 h
          refine lv_lload_n hx hb dX10_isLesser_32 rfl (lv_at hl 2 rfl) ?_
          refine lv_ldc2 (v := -9223372036854775808) hx hb hown (hts _ (List.mem_of_getElem? (i := 1) rfl)) dX10_isLesser_33 ?_
          refine W.lcmp hx hb dX10_isLesser_36 ?_
          refine lv_if_ne (tgt := 44) hx hb dX10_isLesser_37 (by decide) (fun c_606 => ?_) (fun c_606 => ?_)
          · replace h := on c_606 h
            refine lv_iconst (v := 0) hx hb dX10_isLesser_44 (by decide) ?_
            rw [hQQ]
            exact W.zret hx hb hr rfl (fun t ht hW => ⟨_, rfl, (congrArg b2i (Option.some.inj h).symm), ht⟩) (fun q hq => absurd hq List.not_mem_nil) dX10_isLesser_45
          · replace h := op c_606 h
            refine lv_iconst (v := 1) hx hb dX10_isLesser_40 (by decide) ?_
            refine lv_goto (tgt := 45) hx hb dX10_isLesser_41 (by decide) ?_
            rw [hQQ]
            exact W.zret hx hb hr rfl (fun t ht hW => ⟨_, rfl, (congrArg b2i (Option.some.inj h).symm), ht⟩) (fun q hq => absurd hq List.not_mem_nil) dX10_isLesser_45
  · replace h := op c_567 h
    refine lv_iconst (v := 0) hx hb dX10_isLesser_7 (by decide) ?_
    rw [hQQ]
    exact W.zret hx hb hr rfl (fun t ht hW => ⟨_, rfl, (congrArg b2i (Option.some.inj h).symm), ht⟩) (fun q hq => absurd hq List.not_mem_nil) dX10_isLesser_8
def L_X10_isFirst_2 (v_now : (Nat → Int64)) (x1 : Int32) (x2 : Int32) : Nat → Int32 → Option (Unit ⊕ Bool)
  | 0, _ => none
  | n+1, x3_2 => (if x2 ≤ x3_2 then (some (.inl ())) else ((f_X10_cell v_now x1 x3_2).bind (fun o_608 => ((f_X10_cell v_now x1 x2).bind (fun o_610 => (if (lg_cmp o_608 o_610) = 0 then (some (.inr false)) else (L_X10_isFirst_2 v_now x1 x2 n (x3_2 + 1))))))))
def f_X10_isFirst (v_now : Nat → Int64) (x1 : Int32) (x2 : Int32) : Option Bool :=
  ((L_X10_isFirst_2 v_now x1 x2 fu (0 : Int32)).bind (sm (fun u_613 => (some true))))
abbrev rm_X10_isFirst : Room := { frames := 2, cells := 0, slots := 0, locals := 43 }
set_option maxHeartbeats 4000000 in
set_option maxRecDepth 100000 in
theorem c_X10_isFirst (l : Launch) (dC : Nat → ClassId) (dI : Nat → Nat → Nat) (cB cC cI cJ cZ cT : ClassId) (h0 q_now q_text q_row q_read q_ranks q_distinct q_proper q_line q_order q_then q_bestOrder q_lineThen q_undos q_was q_kept q_isKept : Nat) (v_typed : Int32) (v_rowMany : Int32) (v_thrown : Int32) (v_length : Int32) (v_at : Int32) (v_wrong : Int32) (v_properMany : Int32) (v_orderMany : Int32) (v_undoMany : Int32) (v_drawn : Int32) (v_now : Nat → Int64) (x1 : Int32) (x2 : Int32) (o : Bool) (hf : f_X10_isFirst v_now x1 x2 = some o) : Met l yX10_isFirst wsX10_isFirst rm_X10_isFirst (va_Pc [.ref h0, .int x1, .int x2] (fun U => va_P (dC, dI) vwCl [(h0, .inr (8, [.ref q_now, .ref q_text, .int v_typed, .ref q_row, .int v_rowMany, .int v_thrown, .int v_length, .int v_at, .int v_wrong, .ref q_read, .ref q_ranks, .ref q_distinct, .ref q_proper, .int v_properMany, .ref q_line, .ref q_order, .int v_orderMany, .ref q_then, .ref q_bestOrder, .ref q_lineThen, .ref q_undos, .ref q_was, .int v_undoMany, .int v_drawn, .ref q_kept, .ref q_isKept])), (q_now, .inl (cJ, 120, .inr (.inl v_now)))] U.heap ∧ va_K (dC, dI) vwCl (tyA cB cC cI cJ cZ cT) U)) (vp_Si (fun r => b2i o = r)) 0 0 (fun _ => False) := by
  refine Met.ofW (cc := cX10_isFirst) (maxL := 4) (ret := (some .boolean)) (by decide) rfl ?_
  intro p e s m args below meth c s₁ B hml hv
  obtain ⟨hav, hP, hK⟩ := hv
  have hx := B.exec
  have hb := B.bytes
  have hr := B.returns
  have hts := atoms_spec (ws := wsX10_isFirst) B.pre
  have hown : s.vm.findClass RX10 = some m.cls := findClass_of_methodNamed B.named
  have hlocks := B.notSynchronized
  refine wstart (rm := rm_X10_isFirst) hav (Nat.le_of_ble_eq_true rfl) (fun QQ ls hQQ hl => ?_)
  have hl : lv_has ls 4 [(0, .ref h0), (1, .int x1), (2, .int x2)] := hl
  have h := hf
  unfold f_X10_isFirst at h
  refine lv_iconst (v := 0) hx hb dX10_isFirst_0 (by decide) ?_
  refine lv_istore_n (lv' := [(3, .int (0 : Int32)), (0, .ref h0), (1, .int x1), (2, .int x2)]) hx hb dX10_isFirst_1 rfl hl (by decide) rfl (fun ls hl => ?_)
  have LP_613 : ∀ (n : Nat) (x3_2 : Int32) (w : (Unit ⊕ Bool)) (ls : Array Slot), L_X10_isFirst_2 v_now x1 x2 n x3_2 = some w → lv_has ls 4 [(0, .ref h0), (1, .int x1), (2, .int x2), (3, .int x3_2)] → (∀ u : Unit, w = .inl u → ∀ (ls : Array Slot), lv_has ls 4 [] → W p l e rm_X10_isFirst s m args below meth c s.heap [] 0 0 QQ (F0 m 31 ls [])) → (∀ r : Bool, w = .inr r → some r = some o) → W p l e rm_X10_isFirst s m args below meth c s.heap [] 0 0 QQ (F0 m 2 ls []) := by
    intro n
    induction n with
    | zero => intro x3_2 w ls h; exact absurd (show none = some w from h) nofun
    | succ n ih =>
      intro x3_2 w ls h hl K KR
      rw [L_X10_isFirst_2] at h
      refine lv_iload_n hx hb dX10_isFirst_2 rfl (lv_at hl 3 rfl) ?_
      refine lv_iload_n hx hb dX10_isFirst_3 rfl (lv_at hl 2 rfl) ?_
      refine lv_icmp_ge (tgt := 31) hx hb dX10_isFirst_4 (by decide) (fun c_607 => ?_) (fun c_607 => ?_)
      · replace h := op c_607 h
        have ho := Option.some.inj h
        subst ho
        exact K _ rfl ls (lv_sub hl [] rfl)
      · replace h := on c_607 h
        refine lv_aload_n hx hb dX10_isFirst_7 rfl (lv_at hl 0 rfl) ?_
        refine lv_iload_n hx hb dX10_isFirst_8 rfl (lv_at hl 1 rfl) ?_
        refine lv_iload_n hx hb dX10_isFirst_9 rfl (lv_at hl 3 rfl) ?_
        obtain ⟨o_608, hr_608, h⟩ := ob h
        refine vp_callSl (va_Run.run (va_runV (As := [.int x1, .int x3_2]) (rest := []) ⟨hx, hb, hml, hown, hts⟩ (c_X10_cell l dC dI cB cC cI cJ cZ cT h0 q_now q_text q_row q_read q_ranks q_distinct q_proper q_line q_order q_then q_bestOrder q_lineThen q_undos q_was q_kept q_isKept v_typed v_rowMany v_thrown v_length v_at v_wrong v_properMany v_orderMany v_undoMany v_drawn v_now x1 x3_2 o_608 hr_608) (cwV 2 hts gX10_isFirst_X10_cell rfl rfl rfl (by decide +kernel) ⟨Nat.le_of_ble_eq_true rfl, Nat.le_of_ble_eq_true rfl⟩) ⟨blR, va_recv hK hP (ci := 8) (q0 := 0) rfl rfl, fun U hU hW => ⟨rfl, by rw [hU]; exact hP.sub [0, 1] rfl, va_K.moved hW.alike hK⟩⟩ rfl rfl hl.1 rfl (lv_room (Nat.le_of_ble_eq_true rfl)) dX10_isFirst_10 ⟨Nat.le_of_ble_eq_true rfl, Nat.le_of_ble_eq_true rfl⟩)) (fun r_608 e_608 => ?_)
        subst e_608
        refine lv_aload_n hx hb dX10_isFirst_13 rfl (lv_at hl 0 rfl) ?_
        refine lv_iload_n hx hb dX10_isFirst_14 rfl (lv_at hl 1 rfl) ?_
        refine lv_iload_n hx hb dX10_isFirst_15 rfl (lv_at hl 2 rfl) ?_
        obtain ⟨o_610, hr_610, h⟩ := ob h
        refine vp_callSl (va_Run.run (va_runV (As := [.int x1, .int x2]) (rest := [.long o_608]) ⟨hx, hb, hml, hown, hts⟩ (c_X10_cell l dC dI cB cC cI cJ cZ cT h0 q_now q_text q_row q_read q_ranks q_distinct q_proper q_line q_order q_then q_bestOrder q_lineThen q_undos q_was q_kept q_isKept v_typed v_rowMany v_thrown v_length v_at v_wrong v_properMany v_orderMany v_undoMany v_drawn v_now x1 x2 o_610 hr_610) (cwV 2 hts gX10_isFirst_X10_cell rfl rfl rfl (by decide +kernel) ⟨Nat.le_of_ble_eq_true rfl, Nat.le_of_ble_eq_true rfl⟩) ⟨blR, va_recv hK hP (ci := 8) (q0 := 0) rfl rfl, fun U hU hW => ⟨rfl, by rw [hU]; exact hP.sub [0, 1] rfl, va_K.moved hW.alike hK⟩⟩ rfl rfl hl.1 rfl (lv_room (Nat.le_of_ble_eq_true rfl)) dX10_isFirst_16 ⟨Nat.le_of_ble_eq_true rfl, Nat.le_of_ble_eq_true rfl⟩)) (fun r_610 e_610 => ?_)
        subst e_610
        refine W.lcmp hx hb dX10_isFirst_19 ?_
        refine lv_if_ne (tgt := 25) hx hb dX10_isFirst_20 (by decide) (fun c_612 => ?_) (fun c_612 => ?_)
        · replace h := on c_612 h
          refine lv_iinc (v := (x3_2 + 1)) (lv' := [(3, .int (x3_2 + 1)), (0, .ref h0), (1, .int x1), (2, .int x2)]) hx hb dX10_isFirst_25 hl (k := 3) rfl (by rfl) (by decide) rfl (fun ls hl => ?_)
          refine lv_goto (tgt := 2) hx hb dX10_isFirst_28 (by decide) ?_
          exact ih (x3_2 + 1) w ls h (lv_sub hl [1, 2, 3, 0] rfl) K KR
        · replace h := op c_612 h
          refine lv_iconst (v := 0) hx hb dX10_isFirst_23 (by decide) ?_
          replace h := KR _ (Option.some.inj h).symm
          rw [hQQ]
          exact W.zret hx hb hr rfl (fun t ht hW => ⟨_, rfl, (congrArg b2i (Option.some.inj h).symm), ht⟩) (fun q hq => absurd hq List.not_mem_nil) dX10_isFirst_24
  obtain ⟨w_613, hw_613, h⟩ := ob h
  refine LP_613 fu (0 : Int32) w_613 ls hw_613 (lv_sub hl [1, 2, 3, 0] rfl) (fun u_613 e_613 ls hl => ?_) (fun r_613 e_613 => by subst e_613; exact h)
  subst e_613
  replace h := sm_l h
  refine lv_iconst (v := 1) hx hb dX10_isFirst_31 (by decide) ?_
  rw [hQQ]
  exact W.zret hx hb hr rfl (fun t ht hW => ⟨_, rfl, (congrArg b2i (Option.some.inj h).symm), ht⟩) (fun q hq => absurd hq List.not_mem_nil) dX10_isFirst_32
def L_X10_rankOf_5 (v_now : (Nat → Int64)) (x1 : Int32) (x2 : Int32) : Nat → Int32 → Int32 → Option Int32
  | 0, _, _ => none
  | n+1, x3_5, x4_5 => ((f_X10_rows v_now).bind (fun o_614 => (if o_614 ≤ x4_5 then (some x3_5) else ((f_X10_isFirst v_now x1 x4_5).bind (fun o_617 => (if (b2i o_617) = 0 then (L_X10_rankOf_5 v_now x1 x2 n x3_5 (x4_5 + 1)) else ((f_X10_kindOf v_now x1).bind (fun o_620 => ((f_X10_cell v_now x1 x4_5).bind (fun o_622 => ((f_X10_cell v_now x1 x2).bind (fun o_624 => ((f_X10_isLesser o_620 o_622 o_624).bind (fun o_626 => (if (b2i o_626) = 0 then (L_X10_rankOf_5 v_now x1 x2 n x3_5 (x4_5 + 1)) else (L_X10_rankOf_5 v_now x1 x2 n (x3_5 + 1) (x4_5 + 1)))))))))))))))))
def f_X10_rankOf (v_now : Nat → Int64) (x1 : Int32) (x2 : Int32) : Option Int32 :=
  ((L_X10_rankOf_5 v_now x1 x2 fu (0 : Int32) (0 : Int32)).bind (fun w_629 => (some w_629)))
abbrev rm_X10_rankOf : Room := { frames := 3, cells := 0, slots := 0, locals := 70 }
set_option maxHeartbeats 4000000 in
set_option maxRecDepth 100000 in
theorem c_X10_rankOf (l : Launch) (dC : Nat → ClassId) (dI : Nat → Nat → Nat) (cB cC cI cJ cZ cT : ClassId) (h0 q_now q_text q_row q_read q_ranks q_distinct q_proper q_line q_order q_then q_bestOrder q_lineThen q_undos q_was q_kept q_isKept : Nat) (v_typed : Int32) (v_rowMany : Int32) (v_thrown : Int32) (v_length : Int32) (v_at : Int32) (v_wrong : Int32) (v_properMany : Int32) (v_orderMany : Int32) (v_undoMany : Int32) (v_drawn : Int32) (v_now : Nat → Int64) (x1 : Int32) (x2 : Int32) (o : Int32) (hf : f_X10_rankOf v_now x1 x2 = some o) : Met l yX10_rankOf wsX10_rankOf rm_X10_rankOf (va_Pc [.ref h0, .int x1, .int x2] (fun U => va_P (dC, dI) vwCl [(h0, .inr (8, [.ref q_now, .ref q_text, .int v_typed, .ref q_row, .int v_rowMany, .int v_thrown, .int v_length, .int v_at, .int v_wrong, .ref q_read, .ref q_ranks, .ref q_distinct, .ref q_proper, .int v_properMany, .ref q_line, .ref q_order, .int v_orderMany, .ref q_then, .ref q_bestOrder, .ref q_lineThen, .ref q_undos, .ref q_was, .int v_undoMany, .int v_drawn, .ref q_kept, .ref q_isKept])), (q_now, .inl (cJ, 120, .inr (.inl v_now)))] U.heap ∧ va_K (dC, dI) vwCl (tyA cB cC cI cJ cZ cT) U)) (vp_Si (fun r => o = r)) 0 0 (fun _ => False) := by
  refine Met.ofW (cc := cX10_rankOf) (maxL := 5) (ret := (some .int)) (by decide) rfl ?_
  intro p e s m args below meth c s₁ B hml hv
  obtain ⟨hav, hP, hK⟩ := hv
  have hx := B.exec
  have hb := B.bytes
  have hr := B.returns
  have hts := atoms_spec (ws := wsX10_rankOf) B.pre
  have hown : s.vm.findClass RX10 = some m.cls := findClass_of_methodNamed B.named
  have hlocks := B.notSynchronized
  refine wstart (rm := rm_X10_rankOf) hav (Nat.le_of_ble_eq_true rfl) (fun QQ ls hQQ hl => ?_)
  have hl : lv_has ls 5 [(0, .ref h0), (1, .int x1), (2, .int x2)] := hl
  have h := hf
  unfold f_X10_rankOf at h
  refine lv_iconst (v := 0) hx hb dX10_rankOf_0 (by decide) ?_
  refine lv_istore_n (lv' := [(3, .int (0 : Int32)), (0, .ref h0), (1, .int x1), (2, .int x2)]) hx hb dX10_rankOf_1 rfl hl (by decide) rfl (fun ls hl => ?_)
  refine lv_iconst (v := 0) hx hb dX10_rankOf_2 (by decide) ?_
  refine lv_istore (lv' := [(4, .int (0 : Int32)), (3, .int (0 : Int32)), (0, .ref h0), (1, .int x1), (2, .int x2)]) hx hb dX10_rankOf_3 hl (by decide) rfl (fun ls hl => ?_)
  have LP_629 : ∀ (n : Nat) (x3_5 : Int32) (x4_5 : Int32) (w : Int32) (ls : Array Slot), L_X10_rankOf_5 v_now x1 x2 n x3_5 x4_5 = some w → lv_has ls 5 [(0, .ref h0), (1, .int x1), (2, .int x2), (3, .int x3_5), (4, .int x4_5)] → (∀ (ls : Array Slot), lv_has ls 5 [(3, .int w)] → W p l e rm_X10_rankOf s m args below meth c s.heap [] 0 0 QQ (F0 m 58 ls [])) → W p l e rm_X10_rankOf s m args below meth c s.heap [] 0 0 QQ (F0 m 5 ls []) := by
    intro n
    induction n with
    | zero => intro x3_5 x4_5 w ls h; exact absurd (show none = some w from h) nofun
    | succ n ih =>
      intro x3_5 x4_5 w ls h hl K
      rw [L_X10_rankOf_5] at h
      refine lv_iload hx hb dX10_rankOf_5 (lv_at hl 4 rfl) ?_
      refine lv_aload_n hx hb dX10_rankOf_7 rfl (lv_at hl 0 rfl) ?_
      obtain ⟨o_614, hr_614, h⟩ := ob h
      refine vp_callSi (va_Run.run (va_runV (As := []) (rest := [.int x4_5]) ⟨hx, hb, hml, hown, hts⟩ (c_X10_rows l dC dI cB cC cI cJ cZ cT h0 q_now q_text q_row q_read q_ranks q_distinct q_proper q_line q_order q_then q_bestOrder q_lineThen q_undos q_was q_kept q_isKept v_typed v_rowMany v_thrown v_length v_at v_wrong v_properMany v_orderMany v_undoMany v_drawn v_now o_614 hr_614) (cwV 0 hts gX10_rankOf_X10_rows rfl rfl rfl (by decide +kernel) ⟨Nat.le_of_ble_eq_true rfl, Nat.le_of_ble_eq_true rfl⟩) ⟨blR, va_recv hK hP (ci := 8) (q0 := 0) rfl rfl, fun U hU hW => ⟨rfl, by rw [hU]; exact hP.sub [0, 1] rfl, va_K.moved hW.alike hK⟩⟩ rfl rfl hl.1 rfl (lv_room (Nat.le_of_ble_eq_true rfl)) dX10_rankOf_8 ⟨Nat.le_of_ble_eq_true rfl, Nat.le_of_ble_eq_true rfl⟩)) (fun r_614 e_614 => ?_)
      subst e_614
      refine lv_icmp_ge (tgt := 58) hx hb dX10_rankOf_11 (by decide) (fun c_616 => ?_) (fun c_616 => ?_)
      · replace h := op c_616 h
        have ho := Option.some.inj h
        subst ho
        exact K ls (lv_sub hl [3] rfl)
      · replace h := on c_616 h
        refine lv_aload_n hx hb dX10_rankOf_14 rfl (lv_at hl 0 rfl) ?_
        refine lv_iload_n hx hb dX10_rankOf_15 rfl (lv_at hl 1 rfl) ?_
        refine lv_iload hx hb dX10_rankOf_16 (lv_at hl 4 rfl) ?_
        obtain ⟨o_617, hr_617, h⟩ := ob h
        refine vp_callSi (va_Run.run (va_runV (As := [.int x1, .int x4_5]) (rest := []) ⟨hx, hb, hml, hown, hts⟩ (c_X10_isFirst l dC dI cB cC cI cJ cZ cT h0 q_now q_text q_row q_read q_ranks q_distinct q_proper q_line q_order q_then q_bestOrder q_lineThen q_undos q_was q_kept q_isKept v_typed v_rowMany v_thrown v_length v_at v_wrong v_properMany v_orderMany v_undoMany v_drawn v_now x1 x4_5 o_617 hr_617) (cwV 2 hts gX10_rankOf_X10_isFirst rfl rfl rfl (by decide +kernel) ⟨Nat.le_of_ble_eq_true rfl, Nat.le_of_ble_eq_true rfl⟩) ⟨blR, va_recv hK hP (ci := 8) (q0 := 0) rfl rfl, fun U hU hW => ⟨rfl, by rw [hU]; exact hP.sub [0, 1] rfl, va_K.moved hW.alike hK⟩⟩ rfl rfl hl.1 rfl (lv_room (Nat.le_of_ble_eq_true rfl)) dX10_rankOf_18 ⟨Nat.le_of_ble_eq_true rfl, Nat.le_of_ble_eq_true rfl⟩)) (fun r_617 e_617 => ?_)
        subst e_617
        refine lv_if_eq (tgt := 52) hx hb dX10_rankOf_21 (by decide) (fun c_619 => ?_) (fun c_619 => ?_)
        · replace h := op c_619 h
          refine lv_iinc (v := (x4_5 + 1)) (lv' := [(4, .int (x4_5 + 1)), (0, .ref h0), (1, .int x1), (2, .int x2), (3, .int x3_5)]) hx hb dX10_rankOf_52 hl (k := 4) rfl (by rfl) (by decide) rfl (fun ls hl => ?_)
          refine lv_goto (tgt := 5) hx hb dX10_rankOf_55 (by decide) ?_
          exact ih x3_5 (x4_5 + 1) w ls h (lv_sub hl [1, 2, 3, 4, 0] rfl) K
        · replace h := on c_619 h
          refine lv_aload_n hx hb dX10_rankOf_24 rfl (lv_at hl 0 rfl) ?_
          refine lv_aload_n hx hb dX10_rankOf_25 rfl (lv_at hl 0 rfl) ?_
          refine lv_iload_n hx hb dX10_rankOf_26 rfl (lv_at hl 1 rfl) ?_
          obtain ⟨o_620, hr_620, h⟩ := ob h
          refine vp_callSi (va_Run.run (va_runV (As := [.int x1]) (rest := [.ref h0]) ⟨hx, hb, hml, hown, hts⟩ (c_X10_kindOf l dC dI cB cC cI cJ cZ cT h0 q_now q_text q_row q_read q_ranks q_distinct q_proper q_line q_order q_then q_bestOrder q_lineThen q_undos q_was q_kept q_isKept v_typed v_rowMany v_thrown v_length v_at v_wrong v_properMany v_orderMany v_undoMany v_drawn v_now x1 o_620 hr_620) (cwV 1 hts gX10_rankOf_X10_kindOf rfl rfl rfl (by decide +kernel) ⟨Nat.le_of_ble_eq_true rfl, Nat.le_of_ble_eq_true rfl⟩) ⟨blR, va_recv hK hP (ci := 8) (q0 := 0) rfl rfl, fun U hU hW => ⟨rfl, by rw [hU]; exact hP.sub [0, 1] rfl, va_K.moved hW.alike hK⟩⟩ rfl rfl hl.1 rfl (lv_room (Nat.le_of_ble_eq_true rfl)) dX10_rankOf_27 ⟨Nat.le_of_ble_eq_true rfl, Nat.le_of_ble_eq_true rfl⟩)) (fun r_620 e_620 => ?_)
          subst e_620
          refine lv_aload_n hx hb dX10_rankOf_30 rfl (lv_at hl 0 rfl) ?_
          refine lv_iload_n hx hb dX10_rankOf_31 rfl (lv_at hl 1 rfl) ?_
          refine lv_iload hx hb dX10_rankOf_32 (lv_at hl 4 rfl) ?_
          obtain ⟨o_622, hr_622, h⟩ := ob h
          refine vp_callSl (va_Run.run (va_runV (As := [.int x1, .int x4_5]) (rest := [.int o_620, .ref h0]) ⟨hx, hb, hml, hown, hts⟩ (c_X10_cell l dC dI cB cC cI cJ cZ cT h0 q_now q_text q_row q_read q_ranks q_distinct q_proper q_line q_order q_then q_bestOrder q_lineThen q_undos q_was q_kept q_isKept v_typed v_rowMany v_thrown v_length v_at v_wrong v_properMany v_orderMany v_undoMany v_drawn v_now x1 x4_5 o_622 hr_622) (cwV 2 hts gX10_rankOf_X10_cell rfl rfl rfl (by decide +kernel) ⟨Nat.le_of_ble_eq_true rfl, Nat.le_of_ble_eq_true rfl⟩) ⟨blR, va_recv hK hP (ci := 8) (q0 := 0) rfl rfl, fun U hU hW => ⟨rfl, by rw [hU]; exact hP.sub [0, 1] rfl, va_K.moved hW.alike hK⟩⟩ rfl rfl hl.1 rfl (lv_room (Nat.le_of_ble_eq_true rfl)) dX10_rankOf_34 ⟨Nat.le_of_ble_eq_true rfl, Nat.le_of_ble_eq_true rfl⟩)) (fun r_622 e_622 => ?_)
          subst e_622
          refine lv_aload_n hx hb dX10_rankOf_37 rfl (lv_at hl 0 rfl) ?_
          refine lv_iload_n hx hb dX10_rankOf_38 rfl (lv_at hl 1 rfl) ?_
          refine lv_iload_n hx hb dX10_rankOf_39 rfl (lv_at hl 2 rfl) ?_
          obtain ⟨o_624, hr_624, h⟩ := ob h
          refine vp_callSl (va_Run.run (va_runV (As := [.int x1, .int x2]) (rest := [.long o_622, .int o_620, .ref h0]) ⟨hx, hb, hml, hown, hts⟩ (c_X10_cell l dC dI cB cC cI cJ cZ cT h0 q_now q_text q_row q_read q_ranks q_distinct q_proper q_line q_order q_then q_bestOrder q_lineThen q_undos q_was q_kept q_isKept v_typed v_rowMany v_thrown v_length v_at v_wrong v_properMany v_orderMany v_undoMany v_drawn v_now x1 x2 o_624 hr_624) (cwV 2 hts gX10_rankOf_X10_cell rfl rfl rfl (by decide +kernel) ⟨Nat.le_of_ble_eq_true rfl, Nat.le_of_ble_eq_true rfl⟩) ⟨blR, va_recv hK hP (ci := 8) (q0 := 0) rfl rfl, fun U hU hW => ⟨rfl, by rw [hU]; exact hP.sub [0, 1] rfl, va_K.moved hW.alike hK⟩⟩ rfl rfl hl.1 rfl (lv_room (Nat.le_of_ble_eq_true rfl)) dX10_rankOf_40 ⟨Nat.le_of_ble_eq_true rfl, Nat.le_of_ble_eq_true rfl⟩)) (fun r_624 e_624 => ?_)
          subst e_624
          obtain ⟨o_626, hr_626, h⟩ := ob h
          refine vp_callSi (va_Run.run (va_runV (As := [.int o_620, .long o_622, .long o_624]) (rest := []) ⟨hx, hb, hml, hown, hts⟩ (c_X10_isLesser l dC dI cB cC cI cJ cZ cT h0 o_620 o_622 o_624 o_626 hr_626) (cwV 3 hts gX10_rankOf_X10_isLesser rfl rfl rfl (by decide +kernel) ⟨Nat.le_of_ble_eq_true rfl, Nat.le_of_ble_eq_true rfl⟩) ⟨blT, va_recv hK hP (ci := 8) (q0 := 0) rfl rfl, fun U hU hW => ⟨rfl, trivial⟩⟩ rfl rfl hl.1 rfl (lv_room (Nat.le_of_ble_eq_true rfl)) dX10_rankOf_43 ⟨Nat.le_of_ble_eq_true rfl, Nat.le_of_ble_eq_true rfl⟩)) (fun r_626 e_626 => ?_)
          subst e_626
          refine lv_if_eq (tgt := 52) hx hb dX10_rankOf_46 (by decide) (fun c_628 => ?_) (fun c_628 => ?_)
          · replace h := op c_628 h
            refine lv_iinc (v := (x4_5 + 1)) (lv' := [(4, .int (x4_5 + 1)), (0, .ref h0), (1, .int x1), (2, .int x2), (3, .int x3_5)]) hx hb dX10_rankOf_52 hl (k := 4) rfl (by rfl) (by decide) rfl (fun ls hl => ?_)
            refine lv_goto (tgt := 5) hx hb dX10_rankOf_55 (by decide) ?_
            exact ih x3_5 (x4_5 + 1) w ls h (lv_sub hl [1, 2, 3, 4, 0] rfl) K
          · replace h := on c_628 h
            refine lv_iinc (v := (x3_5 + 1)) (lv' := [(3, .int (x3_5 + 1)), (0, .ref h0), (1, .int x1), (2, .int x2), (4, .int x4_5)]) hx hb dX10_rankOf_49 hl (k := 3) rfl (by rfl) (by decide) rfl (fun ls hl => ?_)
            refine lv_iinc (v := (x4_5 + 1)) (lv' := [(4, .int (x4_5 + 1)), (3, .int (x3_5 + 1)), (0, .ref h0), (1, .int x1), (2, .int x2)]) hx hb dX10_rankOf_52 hl (k := 4) rfl (by rfl) (by decide) rfl (fun ls hl => ?_)
            refine lv_goto (tgt := 5) hx hb dX10_rankOf_55 (by decide) ?_
            exact ih (x3_5 + 1) (x4_5 + 1) w ls h (lv_sub hl [2, 3, 4, 1, 0] rfl) K
  obtain ⟨w_629, hw_629, h⟩ := ob h
  refine LP_629 fu (0 : Int32) (0 : Int32) w_629 ls hw_629 (lv_sub hl [2, 3, 4, 1, 0] rfl) (fun ls hl => ?_)
  refine lv_iload_n hx hb dX10_rankOf_58 rfl (lv_at hl 0 rfl) ?_
  rw [hQQ]
  exact W.iret hx hb hr (fun t ht hW => ⟨_, rfl, (Option.some.inj h).symm, ht⟩) (fun q hq => absurd hq List.not_mem_nil) dX10_rankOf_59
def L_X10_layRanks_55 (v_now : (Nat → Int64)) (x1_7 : Int32) : Nat → Int32 → (Nat → Int32) → (Nat → Int32) → Option ((Nat → Int32) × (Nat → Int32))
  | 0, _, _, _ => none
  | n+1, x2_55, v_ranks_55, v_distinct_55 => ((f_X10_rows v_now).bind (fun o_638 => (if o_638 ≤ x2_55 then (some (v_ranks_55, v_distinct_55)) else ((f_X10_rankOf v_now x1_7 x2_55).bind (fun o_641 => (if (((16 : Int32) * x1_7) + x2_55) < 0 ∨ 96 ≤ ((((16 : Int32) * x1_7) + x2_55)).toNatClampNeg then none else (if x1_7 < 0 ∨ 6 ≤ (x1_7).toNatClampNeg then none else ((f_X10_isFirst v_now x1_7 x2_55).bind (fun o_645 => (if (b2i o_645) = 0 then (if x1_7 < 0 ∨ 6 ≤ (x1_7).toNatClampNeg then none else (L_X10_layRanks_55 v_now x1_7 n (x2_55 + 1) (upd v_ranks_55 ((((16 : Int32) * x1_7) + x2_55)).toNatClampNeg o_641) (upd v_distinct_55 (x1_7).toNatClampNeg ((v_distinct_55 (x1_7).toNatClampNeg) + (0 : Int32))))) else (if x1_7 < 0 ∨ 6 ≤ (x1_7).toNatClampNeg then none else (L_X10_layRanks_55 v_now x1_7 n (x2_55 + 1) (upd v_ranks_55 ((((16 : Int32) * x1_7) + x2_55)).toNatClampNeg o_641) (upd v_distinct_55 (x1_7).toNatClampNeg ((v_distinct_55 (x1_7).toNatClampNeg) + (1 : Int32)))))))))))))))
def L_X10_layRanks_7 (v_now : (Nat → Int64)) : Nat → Int32 → Int32 → (Nat → Int32) → (Nat → Int32) → (Nat → Int32) → Option (Int32 × (Nat → Int32) × (Nat → Int32) × (Nat → Int32))
  | 0, _, _, _, _, _ => none
  | n+1, x1_7, v_properMany_7, v_ranks_7, v_distinct_7, v_proper_7 => ((f_X10_columns v_now).bind (fun o_630 => (if o_630 ≤ x1_7 then (some (v_properMany_7, v_ranks_7, v_distinct_7, v_proper_7)) else ((f_X10_isProper v_now x1_7).bind (fun o_633 => (if (b2i o_633) = 0 then (L_X10_layRanks_7 v_now n (x1_7 + 1) v_properMany_7 v_ranks_7 v_distinct_7 v_proper_7) else (if v_properMany_7 < 0 ∨ 6 ≤ (v_properMany_7).toNatClampNeg then none else (if x1_7 < 0 ∨ 6 ≤ (x1_7).toNatClampNeg then none else ((L_X10_layRanks_55 v_now x1_7 fu (0 : Int32) v_ranks_7 (upd v_distinct_7 (x1_7).toNatClampNeg (0 : Int32))).bind (fun w_650 => (L_X10_layRanks_7 v_now n (x1_7 + 1) (v_properMany_7 + (1 : Int32)) w_650.1 w_650.2 (upd v_proper_7 (v_properMany_7).toNatClampNeg x1_7))))))))))))
def f_X10_layRanks (v_now : Nat → Int64) (v_ranks : Nat → Int32) (v_distinct : Nat → Int32) (v_proper : Nat → Int32) : Option (Int32 × (Nat → Int32) × (Nat → Int32) × (Nat → Int32)) :=
  ((L_X10_layRanks_7 v_now fu (0 : Int32) (0 : Int32) v_ranks v_distinct v_proper).bind (fun w_651 => (some (w_651.1, w_651.2.1, w_651.2.2.1, w_651.2.2.2))))
abbrev rm_X10_layRanks : Room := { frames := 4, cells := 0, slots := 0, locals := 94 }
set_option maxHeartbeats 4000000 in
set_option maxRecDepth 100000 in
theorem c_X10_layRanks (l : Launch) (dC : Nat → ClassId) (dI : Nat → Nat → Nat) (cB cC cI cJ cZ cT : ClassId) (h0 q_now q_text q_row q_read q_ranks q_distinct q_proper q_line q_order q_then q_bestOrder q_lineThen q_undos q_was q_kept q_isKept : Nat) (sz : Nat) (v_typed : Int32) (v_rowMany : Int32) (v_thrown : Int32) (v_length : Int32) (v_at : Int32) (v_wrong : Int32) (v_properMany : Int32) (v_orderMany : Int32) (v_undoMany : Int32) (v_drawn : Int32) (v_now : Nat → Int64) (v_ranks : Nat → Int32) (v_distinct : Nat → Int32) (v_proper : Nat → Int32) (o : (Int32 × (Nat → Int32) × (Nat → Int32) × (Nat → Int32))) (hf : f_X10_layRanks v_now v_ranks v_distinct v_proper = some o) : Met l yX10_layRanks wsX10_layRanks rm_X10_layRanks (va_Pc [.ref h0] (fun U => U.heap.size = sz ∧ va_P (dC, dI) vwCl [(h0, .inr (8, [.ref q_now, .ref q_text, .int v_typed, .ref q_row, .int v_rowMany, .int v_thrown, .int v_length, .int v_at, .int v_wrong, .ref q_read, .ref q_ranks, .ref q_distinct, .ref q_proper, .int v_properMany, .ref q_line, .ref q_order, .int v_orderMany, .ref q_then, .ref q_bestOrder, .ref q_lineThen, .ref q_undos, .ref q_was, .int v_undoMany, .int v_drawn, .ref q_kept, .ref q_isKept])), (q_now, .inl (cJ, 120, .inr (.inl v_now))), (q_ranks, .inl (cI, 96, .inl v_ranks)), (q_distinct, .inl (cI, 6, .inl v_distinct)), (q_proper, .inl (cI, 6, .inl v_proper))] U.heap ∧ va_K (dC, dI) vwCl (tyA cB cC cI cJ cZ cT) U ∧ va_D (fun _ => True) [(h0, .inr (8, [.ref q_now, .ref q_text, .int v_typed, .ref q_row, .int v_rowMany, .int v_thrown, .int v_length, .int v_at, .int v_wrong, .ref q_read, .ref q_ranks, .ref q_distinct, .ref q_proper, .int v_properMany, .ref q_line, .ref q_order, .int v_orderMany, .ref q_then, .ref q_bestOrder, .ref q_lineThen, .ref q_undos, .ref q_was, .int v_undoMany, .int v_drawn, .ref q_kept, .ref q_isKept])), (q_now, .inl (cJ, 120, .inr (.inl v_now))), (q_ranks, .inl (cI, 96, .inl v_ranks)), (q_distinct, .inl (cI, 6, .inl v_distinct)), (q_proper, .inl (cI, 6, .inl v_proper))])) (va_Qv (fun _ : Unit => True) (fun _ t => va_P (dC, dI) vwCl [(h0, .inr (8, [.ref q_now, .ref q_text, .int v_typed, .ref q_row, .int v_rowMany, .int v_thrown, .int v_length, .int v_at, .int v_wrong, .ref q_read, .ref q_ranks, .ref q_distinct, .ref q_proper, .int o.1, .ref q_line, .ref q_order, .int v_orderMany, .ref q_then, .ref q_bestOrder, .ref q_lineThen, .ref q_undos, .ref q_was, .int v_undoMany, .int v_drawn, .ref q_kept, .ref q_isKept])), (q_now, .inl (cJ, 120, .inr (.inl v_now))), (q_ranks, .inl (cI, 96, .inl o.2.1)), (q_distinct, .inl (cI, 6, .inl o.2.2.1)), (q_proper, .inl (cI, 6, .inl o.2.2.2))] t.heap ∧ va_K (dC, dI) vwCl (tyA cB cC cI cJ cZ cT) t ∧ va_D (va_A [(h0, .inr (8, [.ref q_now, .ref q_text, .int v_typed, .ref q_row, .int v_rowMany, .int v_thrown, .int v_length, .int v_at, .int v_wrong, .ref q_read, .ref q_ranks, .ref q_distinct, .ref q_proper, .int v_properMany, .ref q_line, .ref q_order, .int v_orderMany, .ref q_then, .ref q_bestOrder, .ref q_lineThen, .ref q_undos, .ref q_was, .int v_undoMany, .int v_drawn, .ref q_kept, .ref q_isKept])), (q_now, .inl (cJ, 120, .inr (.inl v_now))), (q_ranks, .inl (cI, 96, .inl v_ranks)), (q_distinct, .inl (cI, 6, .inl v_distinct)), (q_proper, .inl (cI, 6, .inl v_proper))] sz) [(h0, .inr (8, [.ref q_now, .ref q_text, .int v_typed, .ref q_row, .int v_rowMany, .int v_thrown, .int v_length, .int v_at, .int v_wrong, .ref q_read, .ref q_ranks, .ref q_distinct, .ref q_proper, .int o.1, .ref q_line, .ref q_order, .int v_orderMany, .ref q_then, .ref q_bestOrder, .ref q_lineThen, .ref q_undos, .ref q_was, .int v_undoMany, .int v_drawn, .ref q_kept, .ref q_isKept])), (q_now, .inl (cJ, 120, .inr (.inl v_now))), (q_ranks, .inl (cI, 96, .inl o.2.1)), (q_distinct, .inl (cI, 6, .inl o.2.2.1)), (q_proper, .inl (cI, 6, .inl o.2.2.2))]) (va_A [(h0, .inr (8, [.ref q_now, .ref q_text, .int v_typed, .ref q_row, .int v_rowMany, .int v_thrown, .int v_length, .int v_at, .int v_wrong, .ref q_read, .ref q_ranks, .ref q_distinct, .ref q_proper, .int v_properMany, .ref q_line, .ref q_order, .int v_orderMany, .ref q_then, .ref q_bestOrder, .ref q_lineThen, .ref q_undos, .ref q_was, .int v_undoMany, .int v_drawn, .ref q_kept, .ref q_isKept])), (q_now, .inl (cJ, 120, .inr (.inl v_now))), (q_ranks, .inl (cI, 96, .inl v_ranks)), (q_distinct, .inl (cI, 6, .inl v_distinct)), (q_proper, .inl (cI, 6, .inl v_proper))] sz)) 0 0 (va_A [(h0, .inr (8, [.ref q_now, .ref q_text, .int v_typed, .ref q_row, .int v_rowMany, .int v_thrown, .int v_length, .int v_at, .int v_wrong, .ref q_read, .ref q_ranks, .ref q_distinct, .ref q_proper, .int v_properMany, .ref q_line, .ref q_order, .int v_orderMany, .ref q_then, .ref q_bestOrder, .ref q_lineThen, .ref q_undos, .ref q_was, .int v_undoMany, .int v_drawn, .ref q_kept, .ref q_isKept])), (q_now, .inl (cJ, 120, .inr (.inl v_now))), (q_ranks, .inl (cI, 96, .inl v_ranks)), (q_distinct, .inl (cI, 6, .inl v_distinct)), (q_proper, .inl (cI, 6, .inl v_proper))] sz) := by
  refine Met.ofW (cc := cX10_layRanks) (maxL := 3) (ret := none) (by decide) rfl ?_
  intro p e s m args below meth c s₁ B hml hv
  obtain ⟨hav, hsz, hP, hK, hD0⟩ := hv
  have hx := B.exec
  have hb := B.bytes
  have hr := B.returns
  have hts := atoms_spec (ws := wsX10_layRanks) B.pre
  have hown : s.vm.findClass RX10 = some m.cls := findClass_of_methodNamed B.named
  have hlocks := B.notSynchronized
  subst hsz
  have hD := hD0.self (sz := s.heap.size)
  generalize hAe : va_A [(h0, .inr (8, [.ref q_now, .ref q_text, .int v_typed, .ref q_row, .int v_rowMany, .int v_thrown, .int v_length, .int v_at, .int v_wrong, .ref q_read, .ref q_ranks, .ref q_distinct, .ref q_proper, .int v_properMany, .ref q_line, .ref q_order, .int v_orderMany, .ref q_then, .ref q_bestOrder, .ref q_lineThen, .ref q_undos, .ref q_was, .int v_undoMany, .int v_drawn, .ref q_kept, .ref q_isKept])), (q_now, .inl (cJ, 120, .inr (.inl v_now))), (q_ranks, .inl (cI, 96, .inl v_ranks)), (q_distinct, .inl (cI, 6, .inl v_distinct)), (q_proper, .inl (cI, 6, .inl v_proper))] s.heap.size = A at hD ⊢
  have hA : ∀ q : Nat, s.heap.size ≤ q → A q := fun q h => by rw [← hAe]; exact Or.inr h
  have hS : va_S A s.heap s.heap [] := va_S.rf
  refine wstart (rm := rm_X10_layRanks) hav (Nat.le_of_ble_eq_true rfl) (fun QQ ls hQQ hl => ?_)
  have hl : lv_has ls 3 [(0, .ref h0)] := hl
  have hi_X10 : ∀ w ∈ u_ws RX10 TX10 26, w ∈ wsX10_layRanks := by decide +kernel
  have h := hf
  unfold f_X10_layRanks at h
  refine lv_aload_n hx hb dX10_layRanks_0 rfl (lv_at hl 0 rfl) ?_
  refine lv_iconst (v := 0) hx hb dX10_layRanks_1 (by decide) ?_
  refine va_put (D := (dC, dI)) (ci := 8) (v := .int (0 : Int32)) (ty := .int) (C := RX10) (T := TX10) (N := 26) hx hb hts hi_X10 tyX10 tyX10_ok nmX10 hown hK hP hD hS 0 rfl rfl 13 (by decide) (hts _ (List.mem_of_getElem? (i := 1) rfl)) (fun _ h9 => h9) rfl (by decide +kernel) rfl rfl (Nat.le_of_ble_eq_true rfl) dX10_layRanks_2 (fun H locs hP hD hS => ?_)
  replace hP : va_P (dC, dI) vwCl [(h0, .inr (8, [.ref q_now, .ref q_text, .int v_typed, .ref q_row, .int v_rowMany, .int v_thrown, .int v_length, .int v_at, .int v_wrong, .ref q_read, .ref q_ranks, .ref q_distinct, .ref q_proper, .int (0 : Int32), .ref q_line, .ref q_order, .int v_orderMany, .ref q_then, .ref q_bestOrder, .ref q_lineThen, .ref q_undos, .ref q_was, .int v_undoMany, .int v_drawn, .ref q_kept, .ref q_isKept])), (q_now, .inl (cJ, 120, .inr (.inl v_now))), (q_ranks, .inl (cI, 96, .inl v_ranks)), (q_distinct, .inl (cI, 6, .inl v_distinct)), (q_proper, .inl (cI, 6, .inl v_proper))] H := hP
  replace hD : va_D A [(h0, .inr (8, [.ref q_now, .ref q_text, .int v_typed, .ref q_row, .int v_rowMany, .int v_thrown, .int v_length, .int v_at, .int v_wrong, .ref q_read, .ref q_ranks, .ref q_distinct, .ref q_proper, .int (0 : Int32), .ref q_line, .ref q_order, .int v_orderMany, .ref q_then, .ref q_bestOrder, .ref q_lineThen, .ref q_undos, .ref q_was, .int v_undoMany, .int v_drawn, .ref q_kept, .ref q_isKept])), (q_now, .inl (cJ, 120, .inr (.inl v_now))), (q_ranks, .inl (cI, 96, .inl v_ranks)), (q_distinct, .inl (cI, 6, .inl v_distinct)), (q_proper, .inl (cI, 6, .inl v_proper))] := hD
  refine lv_iconst (v := 0) hx hb dX10_layRanks_5 (by decide) ?_
  refine lv_istore_n (lv' := [(1, .int (0 : Int32)), (0, .ref h0)]) hx hb dX10_layRanks_6 rfl hl (by decide) rfl (fun ls hl => ?_)
  have LP_651 : ∀ (n : Nat) (x1_7 : Int32) (v_properMany_7 : Int32) (v_ranks_7 : (Nat → Int32)) (v_distinct_7 : (Nat → Int32)) (v_proper_7 : (Nat → Int32)) (w : (Int32 × (Nat → Int32) × (Nat → Int32) × (Nat → Int32))) (H : Heap) (locs : List Loc) (ls : Array Slot), L_X10_layRanks_7 v_now n x1_7 v_properMany_7 v_ranks_7 v_distinct_7 v_proper_7 = some w → va_P (dC, dI) vwCl [(h0, .inr (8, [.ref q_now, .ref q_text, .int v_typed, .ref q_row, .int v_rowMany, .int v_thrown, .int v_length, .int v_at, .int v_wrong, .ref q_read, .ref q_ranks, .ref q_distinct, .ref q_proper, .int v_properMany_7, .ref q_line, .ref q_order, .int v_orderMany, .ref q_then, .ref q_bestOrder, .ref q_lineThen, .ref q_undos, .ref q_was, .int v_undoMany, .int v_drawn, .ref q_kept, .ref q_isKept])), (q_now, .inl (cJ, 120, .inr (.inl v_now))), (q_ranks, .inl (cI, 96, .inl v_ranks_7)), (q_distinct, .inl (cI, 6, .inl v_distinct_7)), (q_proper, .inl (cI, 6, .inl v_proper_7))] H → va_D A [(h0, .inr (8, [.ref q_now, .ref q_text, .int v_typed, .ref q_row, .int v_rowMany, .int v_thrown, .int v_length, .int v_at, .int v_wrong, .ref q_read, .ref q_ranks, .ref q_distinct, .ref q_proper, .int v_properMany_7, .ref q_line, .ref q_order, .int v_orderMany, .ref q_then, .ref q_bestOrder, .ref q_lineThen, .ref q_undos, .ref q_was, .int v_undoMany, .int v_drawn, .ref q_kept, .ref q_isKept])), (q_now, .inl (cJ, 120, .inr (.inl v_now))), (q_ranks, .inl (cI, 96, .inl v_ranks_7)), (q_distinct, .inl (cI, 6, .inl v_distinct_7)), (q_proper, .inl (cI, 6, .inl v_proper_7))] → va_S A s.heap H locs → lv_has ls 3 [(0, .ref h0), (1, .int x1_7)] → (∀ (H : Heap) (locs : List Loc) (ls : Array Slot), va_P (dC, dI) vwCl [(h0, .inr (8, [.ref q_now, .ref q_text, .int v_typed, .ref q_row, .int v_rowMany, .int v_thrown, .int v_length, .int v_at, .int v_wrong, .ref q_read, .ref q_ranks, .ref q_distinct, .ref q_proper, .int w.1, .ref q_line, .ref q_order, .int v_orderMany, .ref q_then, .ref q_bestOrder, .ref q_lineThen, .ref q_undos, .ref q_was, .int v_undoMany, .int v_drawn, .ref q_kept, .ref q_isKept])), (q_now, .inl (cJ, 120, .inr (.inl v_now))), (q_ranks, .inl (cI, 96, .inl w.2.1)), (q_distinct, .inl (cI, 6, .inl w.2.2.1)), (q_proper, .inl (cI, 6, .inl w.2.2.2))] H → va_D A [(h0, .inr (8, [.ref q_now, .ref q_text, .int v_typed, .ref q_row, .int v_rowMany, .int v_thrown, .int v_length, .int v_at, .int v_wrong, .ref q_read, .ref q_ranks, .ref q_distinct, .ref q_proper, .int w.1, .ref q_line, .ref q_order, .int v_orderMany, .ref q_then, .ref q_bestOrder, .ref q_lineThen, .ref q_undos, .ref q_was, .int v_undoMany, .int v_drawn, .ref q_kept, .ref q_isKept])), (q_now, .inl (cJ, 120, .inr (.inl v_now))), (q_ranks, .inl (cI, 96, .inl w.2.1)), (q_distinct, .inl (cI, 6, .inl w.2.2.1)), (q_proper, .inl (cI, 6, .inl w.2.2.2))] → va_S A s.heap H locs → lv_has ls 3 [] → W p l e rm_X10_layRanks s m args below meth c H locs 0 0 QQ (F0 m 115 ls [])) → W p l e rm_X10_layRanks s m args below meth c H locs 0 0 QQ (F0 m 7 ls []) := by
    intro n
    induction n with
    | zero => intro x1_7 v_properMany_7 v_ranks_7 v_distinct_7 v_proper_7 w H locs ls h; exact absurd (show none = some w from h) nofun
    | succ n ih =>
      intro x1_7 v_properMany_7 v_ranks_7 v_distinct_7 v_proper_7 w H locs ls h hP hD hS hl K
      rw [L_X10_layRanks_7] at h
      refine lv_iload_n hx hb dX10_layRanks_7 rfl (lv_at hl 1 rfl) ?_
      refine lv_aload_n hx hb dX10_layRanks_8 rfl (lv_at hl 0 rfl) ?_
      obtain ⟨o_630, hr_630, h⟩ := ob h
      refine vp_callSi (va_Run.run (va_runV (As := []) (rest := [.int x1_7]) ⟨hx, hb, hml, hown, hts⟩ (c_X10_columns l dC dI cB cC cI cJ cZ cT h0 q_now q_text q_row q_read q_ranks q_distinct q_proper q_line q_order q_then q_bestOrder q_lineThen q_undos q_was q_kept q_isKept v_typed v_rowMany v_thrown v_length v_at v_wrong v_properMany_7 v_orderMany v_undoMany v_drawn v_now o_630 hr_630) (cwV 0 hts gX10_layRanks_X10_columns rfl rfl rfl (by decide +kernel) ⟨Nat.le_of_ble_eq_true rfl, Nat.le_of_ble_eq_true rfl⟩) ⟨blR, va_recv hK hP (ci := 8) (q0 := 0) rfl rfl, fun U hU hW => ⟨rfl, by rw [hU]; exact hP.sub [0, 1] rfl, va_K.moved hW.alike hK⟩⟩ rfl rfl hl.1 rfl (lv_room (Nat.le_of_ble_eq_true rfl)) dX10_layRanks_9 ⟨Nat.le_of_ble_eq_true rfl, Nat.le_of_ble_eq_true rfl⟩)) (fun r_630 e_630 => ?_)
      subst e_630
      refine lv_icmp_ge (tgt := 115) hx hb dX10_layRanks_12 (by decide) (fun c_632 => ?_) (fun c_632 => ?_)
      · replace h := op c_632 h
        have ho := Option.some.inj h
        subst ho
        exact K H _ ls hP hD hS (lv_sub hl [] rfl)
      · replace h := on c_632 h
        refine lv_aload_n hx hb dX10_layRanks_15 rfl (lv_at hl 0 rfl) ?_
        refine lv_iload_n hx hb dX10_layRanks_16 rfl (lv_at hl 1 rfl) ?_
        obtain ⟨o_633, hr_633, h⟩ := ob h
        refine vp_callSi (va_Run.run (va_runV (As := [.int x1_7]) (rest := []) ⟨hx, hb, hml, hown, hts⟩ (c_X10_isProper l dC dI cB cC cI cJ cZ cT h0 q_now q_text q_row q_read q_ranks q_distinct q_proper q_line q_order q_then q_bestOrder q_lineThen q_undos q_was q_kept q_isKept v_typed v_rowMany v_thrown v_length v_at v_wrong v_properMany_7 v_orderMany v_undoMany v_drawn v_now x1_7 o_633 hr_633) (cwV 1 hts gX10_layRanks_X10_isProper rfl rfl rfl (by decide +kernel) ⟨Nat.le_of_ble_eq_true rfl, Nat.le_of_ble_eq_true rfl⟩) ⟨blR, va_recv hK hP (ci := 8) (q0 := 0) rfl rfl, fun U hU hW => ⟨rfl, by rw [hU]; exact hP.sub [0, 1] rfl, va_K.moved hW.alike hK⟩⟩ rfl rfl hl.1 rfl (lv_room (Nat.le_of_ble_eq_true rfl)) dX10_layRanks_17 ⟨Nat.le_of_ble_eq_true rfl, Nat.le_of_ble_eq_true rfl⟩)) (fun r_633 e_633 => ?_)
        subst e_633
        refine lv_if_ne (tgt := 26) hx hb dX10_layRanks_20 (by decide) (fun c_635 => ?_) (fun c_635 => ?_)
        · replace h := on c_635 h
          refine lv_aload_n hx hb dX10_layRanks_26 rfl (lv_at hl 0 rfl) ?_
          refine va_get (D := (dC, dI)) (ci := 8) (v := .ref q_proper) (C := RX10) (T := TX10) (N := 26) hx hb hts hi_X10 hown hK hP 0 rfl rfl 12 (by decide) (hts _ (List.mem_of_getElem? (i := 2) rfl)) (fun _ h9 => h9) rfl dX10_layRanks_27 ?_
          refine lv_aload_n hx hb dX10_layRanks_30 rfl (lv_at hl 0 rfl) ?_
          refine va_get (D := (dC, dI)) (ci := 8) (v := .int v_properMany_7) (C := RX10) (T := TX10) (N := 26) hx hb hts hi_X10 hown hK hP 0 rfl rfl 13 (by decide) (hts _ (List.mem_of_getElem? (i := 1) rfl)) (fun _ h9 => h9) rfl dX10_layRanks_31 ?_
          refine lv_iload_n hx hb dX10_layRanks_34 rfl (lv_at hl 1 rfl) ?_
          obtain ⟨hi_636, h⟩ := og h
          refine va_iast hx hb hK hP hD hS 4 0 rfl rfl hi_636 dX10_layRanks_35 (fun H locs hP hD hS => ?_)
          replace hP : va_P (dC, dI) vwCl [(h0, .inr (8, [.ref q_now, .ref q_text, .int v_typed, .ref q_row, .int v_rowMany, .int v_thrown, .int v_length, .int v_at, .int v_wrong, .ref q_read, .ref q_ranks, .ref q_distinct, .ref q_proper, .int v_properMany_7, .ref q_line, .ref q_order, .int v_orderMany, .ref q_then, .ref q_bestOrder, .ref q_lineThen, .ref q_undos, .ref q_was, .int v_undoMany, .int v_drawn, .ref q_kept, .ref q_isKept])), (q_now, .inl (cJ, 120, .inr (.inl v_now))), (q_ranks, .inl (cI, 96, .inl v_ranks_7)), (q_distinct, .inl (cI, 6, .inl v_distinct_7)), (q_proper, .inl (cI, 6, .inl (upd v_proper_7 (v_properMany_7).toNatClampNeg x1_7)))] H := hP
          replace hD : va_D A [(h0, .inr (8, [.ref q_now, .ref q_text, .int v_typed, .ref q_row, .int v_rowMany, .int v_thrown, .int v_length, .int v_at, .int v_wrong, .ref q_read, .ref q_ranks, .ref q_distinct, .ref q_proper, .int v_properMany_7, .ref q_line, .ref q_order, .int v_orderMany, .ref q_then, .ref q_bestOrder, .ref q_lineThen, .ref q_undos, .ref q_was, .int v_undoMany, .int v_drawn, .ref q_kept, .ref q_isKept])), (q_now, .inl (cJ, 120, .inr (.inl v_now))), (q_ranks, .inl (cI, 96, .inl v_ranks_7)), (q_distinct, .inl (cI, 6, .inl v_distinct_7)), (q_proper, .inl (cI, 6, .inl (upd v_proper_7 (v_properMany_7).toNatClampNeg x1_7)))] := hD
          refine lv_aload_n hx hb dX10_layRanks_36 rfl (lv_at hl 0 rfl) ?_
          refine lv_dup hx hb dX10_layRanks_37 rfl ?_
          refine va_get (D := (dC, dI)) (ci := 8) (v := .int v_properMany_7) (C := RX10) (T := TX10) (N := 26) hx hb hts hi_X10 hown hK hP 0 rfl rfl 13 (by decide) (hts _ (List.mem_of_getElem? (i := 1) rfl)) (fun _ h9 => h9) rfl dX10_layRanks_38 ?_
          refine lv_iconst (v := 1) hx hb dX10_layRanks_41 (by decide) ?_
          refine lv_iadd hx hb dX10_layRanks_42 ?_
          refine va_put (D := (dC, dI)) (ci := 8) (v := .int (v_properMany_7 + (1 : Int32))) (ty := .int) (C := RX10) (T := TX10) (N := 26) hx hb hts hi_X10 tyX10 tyX10_ok nmX10 hown hK hP hD hS 0 rfl rfl 13 (by decide) (hts _ (List.mem_of_getElem? (i := 1) rfl)) (fun _ h9 => h9) rfl (by decide +kernel) rfl rfl (Nat.le_of_ble_eq_true rfl) dX10_layRanks_43 (fun H locs hP hD hS => ?_)
          replace hP : va_P (dC, dI) vwCl [(h0, .inr (8, [.ref q_now, .ref q_text, .int v_typed, .ref q_row, .int v_rowMany, .int v_thrown, .int v_length, .int v_at, .int v_wrong, .ref q_read, .ref q_ranks, .ref q_distinct, .ref q_proper, .int (v_properMany_7 + (1 : Int32)), .ref q_line, .ref q_order, .int v_orderMany, .ref q_then, .ref q_bestOrder, .ref q_lineThen, .ref q_undos, .ref q_was, .int v_undoMany, .int v_drawn, .ref q_kept, .ref q_isKept])), (q_now, .inl (cJ, 120, .inr (.inl v_now))), (q_ranks, .inl (cI, 96, .inl v_ranks_7)), (q_distinct, .inl (cI, 6, .inl v_distinct_7)), (q_proper, .inl (cI, 6, .inl (upd v_proper_7 (v_properMany_7).toNatClampNeg x1_7)))] H := hP
          replace hD : va_D A [(h0, .inr (8, [.ref q_now, .ref q_text, .int v_typed, .ref q_row, .int v_rowMany, .int v_thrown, .int v_length, .int v_at, .int v_wrong, .ref q_read, .ref q_ranks, .ref q_distinct, .ref q_proper, .int (v_properMany_7 + (1 : Int32)), .ref q_line, .ref q_order, .int v_orderMany, .ref q_then, .ref q_bestOrder, .ref q_lineThen, .ref q_undos, .ref q_was, .int v_undoMany, .int v_drawn, .ref q_kept, .ref q_isKept])), (q_now, .inl (cJ, 120, .inr (.inl v_now))), (q_ranks, .inl (cI, 96, .inl v_ranks_7)), (q_distinct, .inl (cI, 6, .inl v_distinct_7)), (q_proper, .inl (cI, 6, .inl (upd v_proper_7 (v_properMany_7).toNatClampNeg x1_7)))] := hD
          refine lv_aload_n hx hb dX10_layRanks_46 rfl (lv_at hl 0 rfl) ?_
          refine va_get (D := (dC, dI)) (ci := 8) (v := .ref q_distinct) (C := RX10) (T := TX10) (N := 26) hx hb hts hi_X10 hown hK hP 0 rfl rfl 11 (by decide) (hts _ (List.mem_of_getElem? (i := 3) rfl)) (fun _ h9 => h9) rfl dX10_layRanks_47 ?_
          refine lv_iload_n hx hb dX10_layRanks_50 rfl (lv_at hl 1 rfl) ?_
          refine lv_iconst (v := 0) hx hb dX10_layRanks_51 (by decide) ?_
          obtain ⟨hi_637, h⟩ := og h
          refine va_iast hx hb hK hP hD hS 3 0 rfl rfl hi_637 dX10_layRanks_52 (fun H locs hP hD hS => ?_)
          replace hP : va_P (dC, dI) vwCl [(h0, .inr (8, [.ref q_now, .ref q_text, .int v_typed, .ref q_row, .int v_rowMany, .int v_thrown, .int v_length, .int v_at, .int v_wrong, .ref q_read, .ref q_ranks, .ref q_distinct, .ref q_proper, .int (v_properMany_7 + (1 : Int32)), .ref q_line, .ref q_order, .int v_orderMany, .ref q_then, .ref q_bestOrder, .ref q_lineThen, .ref q_undos, .ref q_was, .int v_undoMany, .int v_drawn, .ref q_kept, .ref q_isKept])), (q_now, .inl (cJ, 120, .inr (.inl v_now))), (q_ranks, .inl (cI, 96, .inl v_ranks_7)), (q_distinct, .inl (cI, 6, .inl (upd v_distinct_7 (x1_7).toNatClampNeg (0 : Int32)))), (q_proper, .inl (cI, 6, .inl (upd v_proper_7 (v_properMany_7).toNatClampNeg x1_7)))] H := hP
          replace hD : va_D A [(h0, .inr (8, [.ref q_now, .ref q_text, .int v_typed, .ref q_row, .int v_rowMany, .int v_thrown, .int v_length, .int v_at, .int v_wrong, .ref q_read, .ref q_ranks, .ref q_distinct, .ref q_proper, .int (v_properMany_7 + (1 : Int32)), .ref q_line, .ref q_order, .int v_orderMany, .ref q_then, .ref q_bestOrder, .ref q_lineThen, .ref q_undos, .ref q_was, .int v_undoMany, .int v_drawn, .ref q_kept, .ref q_isKept])), (q_now, .inl (cJ, 120, .inr (.inl v_now))), (q_ranks, .inl (cI, 96, .inl v_ranks_7)), (q_distinct, .inl (cI, 6, .inl (upd v_distinct_7 (x1_7).toNatClampNeg (0 : Int32)))), (q_proper, .inl (cI, 6, .inl (upd v_proper_7 (v_properMany_7).toNatClampNeg x1_7)))] := hD
          refine lv_iconst (v := 0) hx hb dX10_layRanks_53 (by decide) ?_
          refine lv_istore_n (lv' := [(2, .int (0 : Int32)), (0, .ref h0), (1, .int x1_7)]) hx hb dX10_layRanks_54 rfl hl (by decide) rfl (fun ls hl => ?_)
          have LP_650 : ∀ (n : Nat) (x2_55 : Int32) (v_ranks_55 : (Nat → Int32)) (v_distinct_55 : (Nat → Int32)) (w : ((Nat → Int32) × (Nat → Int32))) (H : Heap) (locs : List Loc) (ls : Array Slot), L_X10_layRanks_55 v_now x1_7 n x2_55 v_ranks_55 v_distinct_55 = some w → va_P (dC, dI) vwCl [(h0, .inr (8, [.ref q_now, .ref q_text, .int v_typed, .ref q_row, .int v_rowMany, .int v_thrown, .int v_length, .int v_at, .int v_wrong, .ref q_read, .ref q_ranks, .ref q_distinct, .ref q_proper, .int (v_properMany_7 + (1 : Int32)), .ref q_line, .ref q_order, .int v_orderMany, .ref q_then, .ref q_bestOrder, .ref q_lineThen, .ref q_undos, .ref q_was, .int v_undoMany, .int v_drawn, .ref q_kept, .ref q_isKept])), (q_now, .inl (cJ, 120, .inr (.inl v_now))), (q_ranks, .inl (cI, 96, .inl v_ranks_55)), (q_distinct, .inl (cI, 6, .inl v_distinct_55)), (q_proper, .inl (cI, 6, .inl (upd v_proper_7 (v_properMany_7).toNatClampNeg x1_7)))] H → va_D A [(h0, .inr (8, [.ref q_now, .ref q_text, .int v_typed, .ref q_row, .int v_rowMany, .int v_thrown, .int v_length, .int v_at, .int v_wrong, .ref q_read, .ref q_ranks, .ref q_distinct, .ref q_proper, .int (v_properMany_7 + (1 : Int32)), .ref q_line, .ref q_order, .int v_orderMany, .ref q_then, .ref q_bestOrder, .ref q_lineThen, .ref q_undos, .ref q_was, .int v_undoMany, .int v_drawn, .ref q_kept, .ref q_isKept])), (q_now, .inl (cJ, 120, .inr (.inl v_now))), (q_ranks, .inl (cI, 96, .inl v_ranks_55)), (q_distinct, .inl (cI, 6, .inl v_distinct_55)), (q_proper, .inl (cI, 6, .inl (upd v_proper_7 (v_properMany_7).toNatClampNeg x1_7)))] → va_S A s.heap H locs → lv_has ls 3 [(0, .ref h0), (1, .int x1_7), (2, .int x2_55)] → (∀ (H : Heap) (locs : List Loc) (ls : Array Slot), va_P (dC, dI) vwCl [(h0, .inr (8, [.ref q_now, .ref q_text, .int v_typed, .ref q_row, .int v_rowMany, .int v_thrown, .int v_length, .int v_at, .int v_wrong, .ref q_read, .ref q_ranks, .ref q_distinct, .ref q_proper, .int (v_properMany_7 + (1 : Int32)), .ref q_line, .ref q_order, .int v_orderMany, .ref q_then, .ref q_bestOrder, .ref q_lineThen, .ref q_undos, .ref q_was, .int v_undoMany, .int v_drawn, .ref q_kept, .ref q_isKept])), (q_now, .inl (cJ, 120, .inr (.inl v_now))), (q_ranks, .inl (cI, 96, .inl w.1)), (q_distinct, .inl (cI, 6, .inl w.2)), (q_proper, .inl (cI, 6, .inl (upd v_proper_7 (v_properMany_7).toNatClampNeg x1_7)))] H → va_D A [(h0, .inr (8, [.ref q_now, .ref q_text, .int v_typed, .ref q_row, .int v_rowMany, .int v_thrown, .int v_length, .int v_at, .int v_wrong, .ref q_read, .ref q_ranks, .ref q_distinct, .ref q_proper, .int (v_properMany_7 + (1 : Int32)), .ref q_line, .ref q_order, .int v_orderMany, .ref q_then, .ref q_bestOrder, .ref q_lineThen, .ref q_undos, .ref q_was, .int v_undoMany, .int v_drawn, .ref q_kept, .ref q_isKept])), (q_now, .inl (cJ, 120, .inr (.inl v_now))), (q_ranks, .inl (cI, 96, .inl w.1)), (q_distinct, .inl (cI, 6, .inl w.2)), (q_proper, .inl (cI, 6, .inl (upd v_proper_7 (v_properMany_7).toNatClampNeg x1_7)))] → va_S A s.heap H locs → lv_has ls 3 [(0, .ref h0), (1, .int x1_7)] → W p l e rm_X10_layRanks s m args below meth c H locs 0 0 QQ (F0 m 109 ls [])) → W p l e rm_X10_layRanks s m args below meth c H locs 0 0 QQ (F0 m 55 ls []) := by
            intro n
            induction n with
            | zero => intro x2_55 v_ranks_55 v_distinct_55 w H locs ls h; exact absurd (show none = some w from h) nofun
            | succ n ih =>
              intro x2_55 v_ranks_55 v_distinct_55 w H locs ls h hP hD hS hl K
              rw [L_X10_layRanks_55] at h
              refine lv_iload_n hx hb dX10_layRanks_55 rfl (lv_at hl 2 rfl) ?_
              refine lv_aload_n hx hb dX10_layRanks_56 rfl (lv_at hl 0 rfl) ?_
              obtain ⟨o_638, hr_638, h⟩ := ob h
              refine vp_callSi (va_Run.run (va_runV (As := []) (rest := [.int x2_55]) ⟨hx, hb, hml, hown, hts⟩ (c_X10_rows l dC dI cB cC cI cJ cZ cT h0 q_now q_text q_row q_read q_ranks q_distinct q_proper q_line q_order q_then q_bestOrder q_lineThen q_undos q_was q_kept q_isKept v_typed v_rowMany v_thrown v_length v_at v_wrong (v_properMany_7 + (1 : Int32)) v_orderMany v_undoMany v_drawn v_now o_638 hr_638) (cwV 0 hts gX10_layRanks_X10_rows rfl rfl rfl (by decide +kernel) ⟨Nat.le_of_ble_eq_true rfl, Nat.le_of_ble_eq_true rfl⟩) ⟨blR, va_recv hK hP (ci := 8) (q0 := 0) rfl rfl, fun U hU hW => ⟨rfl, by rw [hU]; exact hP.sub [0, 1] rfl, va_K.moved hW.alike hK⟩⟩ rfl rfl hl.1 rfl (lv_room (Nat.le_of_ble_eq_true rfl)) dX10_layRanks_57 ⟨Nat.le_of_ble_eq_true rfl, Nat.le_of_ble_eq_true rfl⟩)) (fun r_638 e_638 => ?_)
              subst e_638
              refine lv_icmp_ge (tgt := 109) hx hb dX10_layRanks_60 (by decide) (fun c_640 => ?_) (fun c_640 => ?_)
              · replace h := op c_640 h
                have ho := Option.some.inj h
                subst ho
                exact K H _ ls hP hD hS (lv_sub hl [0, 1] rfl)
              · replace h := on c_640 h
                refine lv_aload_n hx hb dX10_layRanks_63 rfl (lv_at hl 0 rfl) ?_
                refine va_get (D := (dC, dI)) (ci := 8) (v := .ref q_ranks) (C := RX10) (T := TX10) (N := 26) hx hb hts hi_X10 hown hK hP 0 rfl rfl 10 (by decide) (hts _ (List.mem_of_getElem? (i := 4) rfl)) (fun _ h9 => h9) rfl dX10_layRanks_64 ?_
                refine lv_bipush (v := 16) hx hb dX10_layRanks_67 (by decide) ?_
                refine lv_iload_n hx hb dX10_layRanks_69 rfl (lv_at hl 1 rfl) ?_
                refine lv_imul hx hb dX10_layRanks_70 ?_
                refine lv_iload_n hx hb dX10_layRanks_71 rfl (lv_at hl 2 rfl) ?_
                refine lv_iadd hx hb dX10_layRanks_72 ?_
                refine lv_aload_n hx hb dX10_layRanks_73 rfl (lv_at hl 0 rfl) ?_
                refine lv_iload_n hx hb dX10_layRanks_74 rfl (lv_at hl 1 rfl) ?_
                refine lv_iload_n hx hb dX10_layRanks_75 rfl (lv_at hl 2 rfl) ?_
                obtain ⟨o_641, hr_641, h⟩ := ob h
                refine vp_callSi (va_Run.run (va_runV (As := [.int x1_7, .int x2_55]) (rest := [.int (((16 : Int32) * x1_7) + x2_55), .ref q_ranks]) ⟨hx, hb, hml, hown, hts⟩ (c_X10_rankOf l dC dI cB cC cI cJ cZ cT h0 q_now q_text q_row q_read q_ranks q_distinct q_proper q_line q_order q_then q_bestOrder q_lineThen q_undos q_was q_kept q_isKept v_typed v_rowMany v_thrown v_length v_at v_wrong (v_properMany_7 + (1 : Int32)) v_orderMany v_undoMany v_drawn v_now x1_7 x2_55 o_641 hr_641) (cwV 2 hts gX10_layRanks_X10_rankOf rfl rfl rfl (by decide +kernel) ⟨Nat.le_of_ble_eq_true rfl, Nat.le_of_ble_eq_true rfl⟩) ⟨blR, va_recv hK hP (ci := 8) (q0 := 0) rfl rfl, fun U hU hW => ⟨rfl, by rw [hU]; exact hP.sub [0, 1] rfl, va_K.moved hW.alike hK⟩⟩ rfl rfl hl.1 rfl (lv_room (Nat.le_of_ble_eq_true rfl)) dX10_layRanks_76 ⟨Nat.le_of_ble_eq_true rfl, Nat.le_of_ble_eq_true rfl⟩)) (fun r_641 e_641 => ?_)
                subst e_641
                obtain ⟨hi_643, h⟩ := og h
                refine va_iast hx hb hK hP hD hS 2 0 rfl rfl hi_643 dX10_layRanks_79 (fun H locs hP hD hS => ?_)
                replace hP : va_P (dC, dI) vwCl [(h0, .inr (8, [.ref q_now, .ref q_text, .int v_typed, .ref q_row, .int v_rowMany, .int v_thrown, .int v_length, .int v_at, .int v_wrong, .ref q_read, .ref q_ranks, .ref q_distinct, .ref q_proper, .int (v_properMany_7 + (1 : Int32)), .ref q_line, .ref q_order, .int v_orderMany, .ref q_then, .ref q_bestOrder, .ref q_lineThen, .ref q_undos, .ref q_was, .int v_undoMany, .int v_drawn, .ref q_kept, .ref q_isKept])), (q_now, .inl (cJ, 120, .inr (.inl v_now))), (q_ranks, .inl (cI, 96, .inl (upd v_ranks_55 ((((16 : Int32) * x1_7) + x2_55)).toNatClampNeg o_641))), (q_distinct, .inl (cI, 6, .inl v_distinct_55)), (q_proper, .inl (cI, 6, .inl (upd v_proper_7 (v_properMany_7).toNatClampNeg x1_7)))] H := hP
                replace hD : va_D A [(h0, .inr (8, [.ref q_now, .ref q_text, .int v_typed, .ref q_row, .int v_rowMany, .int v_thrown, .int v_length, .int v_at, .int v_wrong, .ref q_read, .ref q_ranks, .ref q_distinct, .ref q_proper, .int (v_properMany_7 + (1 : Int32)), .ref q_line, .ref q_order, .int v_orderMany, .ref q_then, .ref q_bestOrder, .ref q_lineThen, .ref q_undos, .ref q_was, .int v_undoMany, .int v_drawn, .ref q_kept, .ref q_isKept])), (q_now, .inl (cJ, 120, .inr (.inl v_now))), (q_ranks, .inl (cI, 96, .inl (upd v_ranks_55 ((((16 : Int32) * x1_7) + x2_55)).toNatClampNeg o_641))), (q_distinct, .inl (cI, 6, .inl v_distinct_55)), (q_proper, .inl (cI, 6, .inl (upd v_proper_7 (v_properMany_7).toNatClampNeg x1_7)))] := hD
                refine lv_aload_n hx hb dX10_layRanks_80 rfl (lv_at hl 0 rfl) ?_
                refine va_get (D := (dC, dI)) (ci := 8) (v := .ref q_distinct) (C := RX10) (T := TX10) (N := 26) hx hb hts hi_X10 hown hK hP 0 rfl rfl 11 (by decide) (hts _ (List.mem_of_getElem? (i := 3) rfl)) (fun _ h9 => h9) rfl dX10_layRanks_81 ?_
                refine lv_iload_n hx hb dX10_layRanks_84 rfl (lv_at hl 1 rfl) ?_
                refine lv_dup2_11 hx hb dX10_layRanks_85 rfl rfl ?_
                obtain ⟨hi_644, h⟩ := og h
                refine va_iald hx hb hK hP 3 0 rfl rfl hi_644 dX10_layRanks_86 ?_
                refine lv_aload_n hx hb dX10_layRanks_87 rfl (lv_at hl 0 rfl) ?_
                refine lv_iload_n hx hb dX10_layRanks_88 rfl (lv_at hl 1 rfl) ?_
                refine lv_iload_n hx hb dX10_layRanks_89 rfl (lv_at hl 2 rfl) ?_
                obtain ⟨o_645, hr_645, h⟩ := ob h
                refine vp_callSi (va_Run.run (va_runV (As := [.int x1_7, .int x2_55]) (rest := [.int (v_distinct_55 (x1_7).toNatClampNeg), .int x1_7, .ref q_distinct]) ⟨hx, hb, hml, hown, hts⟩ (c_X10_isFirst l dC dI cB cC cI cJ cZ cT h0 q_now q_text q_row q_read q_ranks q_distinct q_proper q_line q_order q_then q_bestOrder q_lineThen q_undos q_was q_kept q_isKept v_typed v_rowMany v_thrown v_length v_at v_wrong (v_properMany_7 + (1 : Int32)) v_orderMany v_undoMany v_drawn v_now x1_7 x2_55 o_645 hr_645) (cwV 2 hts gX10_layRanks_X10_isFirst rfl rfl rfl (by decide +kernel) ⟨Nat.le_of_ble_eq_true rfl, Nat.le_of_ble_eq_true rfl⟩) ⟨blR, va_recv hK hP (ci := 8) (q0 := 0) rfl rfl, fun U hU hW => ⟨rfl, by rw [hU]; exact hP.sub [0, 1] rfl, va_K.moved hW.alike hK⟩⟩ rfl rfl hl.1 rfl (lv_room (Nat.le_of_ble_eq_true rfl)) dX10_layRanks_90 ⟨Nat.le_of_ble_eq_true rfl, Nat.le_of_ble_eq_true rfl⟩)) (fun r_645 e_645 => ?_)
                subst e_645
                refine lv_if_eq (tgt := 100) hx hb dX10_layRanks_93 (by decide) (fun c_647 => ?_) (fun c_647 => ?_)
                · replace h := op c_647 h
                  refine lv_iconst (v := 0) hx hb dX10_layRanks_100 (by decide) ?_
                  refine lv_iadd hx hb dX10_layRanks_101 ?_
                  obtain ⟨hi_648, h⟩ := og h
                  refine va_iast hx hb hK hP hD hS 3 0 rfl rfl hi_648 dX10_layRanks_102 (fun H locs hP hD hS => ?_)
                  replace hP : va_P (dC, dI) vwCl [(h0, .inr (8, [.ref q_now, .ref q_text, .int v_typed, .ref q_row, .int v_rowMany, .int v_thrown, .int v_length, .int v_at, .int v_wrong, .ref q_read, .ref q_ranks, .ref q_distinct, .ref q_proper, .int (v_properMany_7 + (1 : Int32)), .ref q_line, .ref q_order, .int v_orderMany, .ref q_then, .ref q_bestOrder, .ref q_lineThen, .ref q_undos, .ref q_was, .int v_undoMany, .int v_drawn, .ref q_kept, .ref q_isKept])), (q_now, .inl (cJ, 120, .inr (.inl v_now))), (q_ranks, .inl (cI, 96, .inl (upd v_ranks_55 ((((16 : Int32) * x1_7) + x2_55)).toNatClampNeg o_641))), (q_distinct, .inl (cI, 6, .inl (upd v_distinct_55 (x1_7).toNatClampNeg ((v_distinct_55 (x1_7).toNatClampNeg) + (0 : Int32))))), (q_proper, .inl (cI, 6, .inl (upd v_proper_7 (v_properMany_7).toNatClampNeg x1_7)))] H := hP
                  replace hD : va_D A [(h0, .inr (8, [.ref q_now, .ref q_text, .int v_typed, .ref q_row, .int v_rowMany, .int v_thrown, .int v_length, .int v_at, .int v_wrong, .ref q_read, .ref q_ranks, .ref q_distinct, .ref q_proper, .int (v_properMany_7 + (1 : Int32)), .ref q_line, .ref q_order, .int v_orderMany, .ref q_then, .ref q_bestOrder, .ref q_lineThen, .ref q_undos, .ref q_was, .int v_undoMany, .int v_drawn, .ref q_kept, .ref q_isKept])), (q_now, .inl (cJ, 120, .inr (.inl v_now))), (q_ranks, .inl (cI, 96, .inl (upd v_ranks_55 ((((16 : Int32) * x1_7) + x2_55)).toNatClampNeg o_641))), (q_distinct, .inl (cI, 6, .inl (upd v_distinct_55 (x1_7).toNatClampNeg ((v_distinct_55 (x1_7).toNatClampNeg) + (0 : Int32))))), (q_proper, .inl (cI, 6, .inl (upd v_proper_7 (v_properMany_7).toNatClampNeg x1_7)))] := hD
                  refine lv_iinc (v := (x2_55 + 1)) (lv' := [(2, .int (x2_55 + 1)), (0, .ref h0), (1, .int x1_7)]) hx hb dX10_layRanks_103 hl (k := 2) rfl (by rfl) (by decide) rfl (fun ls hl => ?_)
                  refine lv_goto (tgt := 55) hx hb dX10_layRanks_106 (by decide) ?_
                  exact ih (x2_55 + 1) (upd v_ranks_55 ((((16 : Int32) * x1_7) + x2_55)).toNatClampNeg o_641) (upd v_distinct_55 (x1_7).toNatClampNeg ((v_distinct_55 (x1_7).toNatClampNeg) + (0 : Int32))) w H _ ls h hP hD hS (lv_sub hl [1, 2, 0] rfl) K
                · replace h := on c_647 h
                  refine lv_iconst (v := 1) hx hb dX10_layRanks_96 (by decide) ?_
                  refine lv_goto (tgt := 101) hx hb dX10_layRanks_97 (by decide) ?_
                  refine lv_iadd hx hb dX10_layRanks_101 ?_
                  obtain ⟨hi_649, h⟩ := og h
                  refine va_iast hx hb hK hP hD hS 3 0 rfl rfl hi_649 dX10_layRanks_102 (fun H locs hP hD hS => ?_)
                  replace hP : va_P (dC, dI) vwCl [(h0, .inr (8, [.ref q_now, .ref q_text, .int v_typed, .ref q_row, .int v_rowMany, .int v_thrown, .int v_length, .int v_at, .int v_wrong, .ref q_read, .ref q_ranks, .ref q_distinct, .ref q_proper, .int (v_properMany_7 + (1 : Int32)), .ref q_line, .ref q_order, .int v_orderMany, .ref q_then, .ref q_bestOrder, .ref q_lineThen, .ref q_undos, .ref q_was, .int v_undoMany, .int v_drawn, .ref q_kept, .ref q_isKept])), (q_now, .inl (cJ, 120, .inr (.inl v_now))), (q_ranks, .inl (cI, 96, .inl (upd v_ranks_55 ((((16 : Int32) * x1_7) + x2_55)).toNatClampNeg o_641))), (q_distinct, .inl (cI, 6, .inl (upd v_distinct_55 (x1_7).toNatClampNeg ((v_distinct_55 (x1_7).toNatClampNeg) + (1 : Int32))))), (q_proper, .inl (cI, 6, .inl (upd v_proper_7 (v_properMany_7).toNatClampNeg x1_7)))] H := hP
                  replace hD : va_D A [(h0, .inr (8, [.ref q_now, .ref q_text, .int v_typed, .ref q_row, .int v_rowMany, .int v_thrown, .int v_length, .int v_at, .int v_wrong, .ref q_read, .ref q_ranks, .ref q_distinct, .ref q_proper, .int (v_properMany_7 + (1 : Int32)), .ref q_line, .ref q_order, .int v_orderMany, .ref q_then, .ref q_bestOrder, .ref q_lineThen, .ref q_undos, .ref q_was, .int v_undoMany, .int v_drawn, .ref q_kept, .ref q_isKept])), (q_now, .inl (cJ, 120, .inr (.inl v_now))), (q_ranks, .inl (cI, 96, .inl (upd v_ranks_55 ((((16 : Int32) * x1_7) + x2_55)).toNatClampNeg o_641))), (q_distinct, .inl (cI, 6, .inl (upd v_distinct_55 (x1_7).toNatClampNeg ((v_distinct_55 (x1_7).toNatClampNeg) + (1 : Int32))))), (q_proper, .inl (cI, 6, .inl (upd v_proper_7 (v_properMany_7).toNatClampNeg x1_7)))] := hD
                  refine lv_iinc (v := (x2_55 + 1)) (lv' := [(2, .int (x2_55 + 1)), (0, .ref h0), (1, .int x1_7)]) hx hb dX10_layRanks_103 hl (k := 2) rfl (by rfl) (by decide) rfl (fun ls hl => ?_)
                  refine lv_goto (tgt := 55) hx hb dX10_layRanks_106 (by decide) ?_
                  exact ih (x2_55 + 1) (upd v_ranks_55 ((((16 : Int32) * x1_7) + x2_55)).toNatClampNeg o_641) (upd v_distinct_55 (x1_7).toNatClampNeg ((v_distinct_55 (x1_7).toNatClampNeg) + (1 : Int32))) w H _ ls h hP hD hS (lv_sub hl [1, 2, 0] rfl) K
          obtain ⟨w_650, hw_650, h⟩ := ob h
          refine LP_650 fu (0 : Int32) v_ranks_7 (upd v_distinct_7 (x1_7).toNatClampNeg (0 : Int32)) w_650 H _ ls hw_650 hP hD hS (lv_sub hl [1, 2, 0] rfl) (fun H locs ls hP hD hS hl => ?_)
          refine lv_iinc (v := (x1_7 + 1)) (lv' := [(1, .int (x1_7 + 1)), (0, .ref h0)]) hx hb dX10_layRanks_109 hl (k := 1) rfl (by rfl) (by decide) rfl (fun ls hl => ?_)
          refine lv_goto (tgt := 7) hx hb dX10_layRanks_112 (by decide) ?_
          exact ih (x1_7 + 1) (v_properMany_7 + (1 : Int32)) w_650.1 w_650.2 (upd v_proper_7 (v_properMany_7).toNatClampNeg x1_7) w H _ ls h hP hD hS (lv_sub hl [1, 0] rfl) K
        · replace h := op c_635 h
          refine lv_goto (tgt := 109) hx hb dX10_layRanks_23 (by decide) ?_
          refine lv_iinc (v := (x1_7 + 1)) (lv' := [(1, .int (x1_7 + 1)), (0, .ref h0)]) hx hb dX10_layRanks_109 hl (k := 1) rfl (by rfl) (by decide) rfl (fun ls hl => ?_)
          refine lv_goto (tgt := 7) hx hb dX10_layRanks_112 (by decide) ?_
          exact ih (x1_7 + 1) v_properMany_7 v_ranks_7 v_distinct_7 v_proper_7 w H _ ls h hP hD hS (lv_sub hl [1, 0] rfl) K
  obtain ⟨w_651, hw_651, h⟩ := ob h
  refine LP_651 fu (0 : Int32) (0 : Int32) v_ranks v_distinct v_proper w_651 H _ ls hw_651 hP hD hS (lv_sub hl [1, 0] rfl) (fun H locs ls hP hD hS hl => ?_)
  rw [hQQ]
  have ho := Option.some.inj h
  subst ho
  exact W.vret hx hb hr (fun t ht hW => ⟨⟨(), rfl, trivial, by rw [ht]; exact hP, va_K.moved hW.alike hK, hD⟩, hS.F ht⟩) hS.2.2 dX10_layRanks_115
