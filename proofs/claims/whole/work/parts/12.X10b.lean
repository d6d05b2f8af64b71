def L_X10_table_39 (v_text : (Nat → Int32)) (o_189 : (Int32 × Int32 × Int32 × Int32)) : Nat → Int32 → Int32 → Int32 → (Nat → Int32) → Option (Int32 × Int32 × Int32 × (Nat → Int32))
  | 0, _, _, _, _ => none
  | n+1, x2_39, v_at_39, v_wrong_39, v_read_39 => ((f_X10_fine v_wrong_39).bind (fun o_212 => (if (b2i o_212) = 0 then (some (x2_39, v_at_39, v_wrong_39, v_read_39)) else (if o_189.2.1 ≤ v_at_39 then (some (x2_39, v_at_39, v_wrong_39, v_read_39)) else ((f_X10_letterHere o_189.2.1 v_at_39 v_text).bind (fun o_216 => (if o_216 = (-1 : Int32) then ((f_X10_fault v_wrong_39 v_at_39).bind (fun o_219 => (L_X10_table_39 v_text o_189 n x2_39 v_at_39 o_219 v_read_39))) else (if x2_39 = (6 : Int32) then ((f_X10_fault v_wrong_39 v_at_39).bind (fun o_223 => (L_X10_table_39 v_text o_189 n x2_39 v_at_39 o_223 v_read_39))) else (if x2_39 < 0 ∨ 480 ≤ (x2_39).toNatClampNeg then none else (L_X10_table_39 v_text o_189 n (x2_39 + 1) (v_at_39 + (1 : Int32)) v_wrong_39 (upd v_read_39 (x2_39).toNatClampNeg o_216)))))))))))
def f_X10_table (v_typed : Int32) (v_undoMany : Int32) (v_now : Nat → Int64) (v_text : Nat → Int32) (v_read : Nat → Int32) (v_undos : Nat → Int64) (v_was : Nat → Int64) : Option (Int32 × Int32 × Int32 × Int32 × Int32 × Int32 × Int32 × (Nat → Int64) × (Nat → Int32) × (Nat → Int64) × (Nat → Int64)) :=
  ((f_X10_begin v_typed).bind (fun o_189 => ((f_X10_twoDigits o_189.2.1 o_189.2.2.1 o_189.2.2.2 v_text).bind (fun o_191 => ((f_X10_fine o_191.2.2).bind (fun o_193 => (((if (b2i o_193) = 0 then (some o_191.2.2) else (((if o_191.1 ≤ (16 : Int32) then (some o_191.2.2) else ((f_X10_fault o_191.2.2 (o_191.2.1 - (1 : Int32))).bind (fun o_210 => (some o_210))))).bind (fun v_205 => (some v_205))))).bind (fun v_195 => ((L_X10_table_39 v_text o_189 fu (0 : Int32) o_191.2.1 v_195 v_read).bind (fun w_225 => ((f_X10_wasRight o_189.2.1 w_225.2.1 w_225.2.2.1).bind (fun o_226 => (if (b2i o_226.1) = 0 then (some (((-1 : Int32) - o_226.2), o_189.1, (0 : Int32), o_189.2.1, w_225.2.1, o_226.2, v_undoMany, v_now, w_225.2.2.2, v_undos, v_was)) else ((f_X10_change v_undoMany v_now v_undos v_was).bind (fun o_229 => ((f_X10_layTable v_now w_225.2.2.2 o_191.1 w_225.1).bind (fun o_231 => (some (w_225.1, o_189.1, (0 : Int32), o_189.2.1, w_225.2.1, o_226.2, o_229.1, o_231, w_225.2.2.2, o_229.2.1, o_229.2.2)))))))))))))))))))
abbrev rm_X10_table : Room := { frames := 5, cells := 0, slots := 0, locals := 106 }
set_option maxHeartbeats 4000000 in
set_option maxRecDepth 100000 in
theorem c_X10_table (l : Launch) (dC : Nat → ClassId) (dI : Nat → Nat → Nat) (cB cC cI cJ cZ cT : ClassId) (h0 q_now q_text q_row q_read q_ranks q_distinct q_proper q_line q_order q_then q_bestOrder q_lineThen q_undos q_was q_kept q_isKept : Nat) (sz : Nat) (v_typed : Int32) (v_rowMany : Int32) (v_thrown : Int32) (v_length : Int32) (v_at : Int32) (v_wrong : Int32) (v_properMany : Int32) (v_orderMany : Int32) (v_undoMany : Int32) (v_drawn : Int32) (v_now : Nat → Int64) (v_text : Nat → Int32) (v_read : Nat → Int32) (v_undos : Nat → Int64) (v_was : Nat → Int64) (o : (Int32 × Int32 × Int32 × Int32 × Int32 × Int32 × Int32 × (Nat → Int64) × (Nat → Int32) × (Nat → Int64) × (Nat → Int64))) (hf : f_X10_table v_typed v_undoMany v_now v_text v_read v_undos v_was = some o) : Met l yX10_table wsX10_table rm_X10_table (va_Pc [.ref h0] (fun U => U.heap.size = sz ∧ va_P (dC, dI) vwCl [(h0, .inr (8, [.ref q_now, .ref q_text, .int v_typed, .ref q_row, .int v_rowMany, .int v_thrown, .int v_length, .int v_at, .int v_wrong, .ref q_read, .ref q_ranks, .ref q_distinct, .ref q_proper, .int v_properMany, .ref q_line, .ref q_order, .int v_orderMany, .ref q_then, .ref q_bestOrder, .ref q_lineThen, .ref q_undos, .ref q_was, .int v_undoMany, .int v_drawn, .ref q_kept, .ref q_isKept])), (q_now, .inl (cJ, 120, .inr (.inl v_now))), (q_text, .inl (cB, 80, .inl v_text)), (q_read, .inl (cI, 480, .inl v_read)), (q_undos, .inl (cJ, 960, .inr (.inl v_undos))), (q_was, .inl (cJ, 120, .inr (.inl v_was)))] U.heap ∧ va_K (dC, dI) vwCl (tyA cB cC cI cJ cZ cT) U ∧ va_D (fun _ => True) [(h0, .inr (8, [.ref q_now, .ref q_text, .int v_typed, .ref q_row, .int v_rowMany, .int v_thrown, .int v_length, .int v_at, .int v_wrong, .ref q_read, .ref q_ranks, .ref q_distinct, .ref q_proper, .int v_properMany, .ref q_line, .ref q_order, .int v_orderMany, .ref q_then, .ref q_bestOrder, .ref q_lineThen, .ref q_undos, .ref q_was, .int v_undoMany, .int v_drawn, .ref q_kept, .ref q_isKept])), (q_now, .inl (cJ, 120, .inr (.inl v_now))), (q_text, .inl (cB, 80, .inl v_text)), (q_read, .inl (cI, 480, .inl v_read)), (q_undos, .inl (cJ, 960, .inr (.inl v_undos))), (q_was, .inl (cJ, 120, .inr (.inl v_was)))] ∧ SX (va_A [(h0, .inr (8, [.ref q_now, .ref q_text, .int v_typed, .ref q_row, .int v_rowMany, .int v_thrown, .int v_length, .int v_at, .int v_wrong, .ref q_read, .ref q_ranks, .ref q_distinct, .ref q_proper, .int v_properMany, .ref q_line, .ref q_order, .int v_orderMany, .ref q_then, .ref q_bestOrder, .ref q_lineThen, .ref q_undos, .ref q_was, .int v_undoMany, .int v_drawn, .ref q_kept, .ref q_isKept])), (q_now, .inl (cJ, 120, .inr (.inl v_now))), (q_text, .inl (cB, 80, .inl v_text)), (q_read, .inl (cI, 480, .inl v_read)), (q_undos, .inl (cJ, 960, .inr (.inl v_undos))), (q_was, .inl (cJ, 120, .inr (.inl v_was)))] sz) U U.heap)) (va_Qi (fun (r : Int32) (_ : Unit) => o.1 = r) (fun _ t => va_P (dC, dI) vwCl [(h0, .inr (8, [.ref q_now, .ref q_text, .int o.2.1, .ref q_row, .int v_rowMany, .int o.2.2.1, .int o.2.2.2.1, .int o.2.2.2.2.1, .int o.2.2.2.2.2.1, .ref q_read, .ref q_ranks, .ref q_distinct, .ref q_proper, .int v_properMany, .ref q_line, .ref q_order, .int v_orderMany, .ref q_then, .ref q_bestOrder, .ref q_lineThen, .ref q_undos, .ref q_was, .int o.2.2.2.2.2.2.1, .int v_drawn, .ref q_kept, .ref q_isKept])), (q_now, .inl (cJ, 120, .inr (.inl o.2.2.2.2.2.2.2.1))), (q_text, .inl (cB, 80, .inl v_text)), (q_read, .inl (cI, 480, .inl o.2.2.2.2.2.2.2.2.1)), (q_undos, .inl (cJ, 960, .inr (.inl o.2.2.2.2.2.2.2.2.2.1))), (q_was, .inl (cJ, 120, .inr (.inl o.2.2.2.2.2.2.2.2.2.2)))] t.heap ∧ va_K (dC, dI) vwCl (tyA cB cC cI cJ cZ cT) t ∧ va_D (va_A [(h0, .inr (8, [.ref q_now, .ref q_text, .int v_typed, .ref q_row, .int v_rowMany, .int v_thrown, .int v_length, .int v_at, .int v_wrong, .ref q_read, .ref q_ranks, .ref q_distinct, .ref q_proper, .int v_properMany, .ref q_line, .ref q_order, .int v_orderMany, .ref q_then, .ref q_bestOrder, .ref q_lineThen, .ref q_undos, .ref q_was, .int v_undoMany, .int v_drawn, .ref q_kept, .ref q_isKept])), (q_now, .inl (cJ, 120, .inr (.inl v_now))), (q_text, .inl (cB, 80, .inl v_text)), (q_read, .inl (cI, 480, .inl v_read)), (q_undos, .inl (cJ, 960, .inr (.inl v_undos))), (q_was, .inl (cJ, 120, .inr (.inl v_was)))] sz) [(h0, .inr (8, [.ref q_now, .ref q_text, .int o.2.1, .ref q_row, .int v_rowMany, .int o.2.2.1, .int o.2.2.2.1, .int o.2.2.2.2.1, .int o.2.2.2.2.2.1, .ref q_read, .ref q_ranks, .ref q_distinct, .ref q_proper, .int v_properMany, .ref q_line, .ref q_order, .int v_orderMany, .ref q_then, .ref q_bestOrder, .ref q_lineThen, .ref q_undos, .ref q_was, .int o.2.2.2.2.2.2.1, .int v_drawn, .ref q_kept, .ref q_isKept])), (q_now, .inl (cJ, 120, .inr (.inl o.2.2.2.2.2.2.2.1))), (q_text, .inl (cB, 80, .inl v_text)), (q_read, .inl (cI, 480, .inl o.2.2.2.2.2.2.2.2.1)), (q_undos, .inl (cJ, 960, .inr (.inl o.2.2.2.2.2.2.2.2.2.1))), (q_was, .inl (cJ, 120, .inr (.inl o.2.2.2.2.2.2.2.2.2.2)))]) (va_A [(h0, .inr (8, [.ref q_now, .ref q_text, .int v_typed, .ref q_row, .int v_rowMany, .int v_thrown, .int v_length, .int v_at, .int v_wrong, .ref q_read, .ref q_ranks, .ref q_distinct, .ref q_proper, .int v_properMany, .ref q_line, .ref q_order, .int v_orderMany, .ref q_then, .ref q_bestOrder, .ref q_lineThen, .ref q_undos, .ref q_was, .int v_undoMany, .int v_drawn, .ref q_kept, .ref q_isKept])), (q_now, .inl (cJ, 120, .inr (.inl v_now))), (q_text, .inl (cB, 80, .inl v_text)), (q_read, .inl (cI, 480, .inl v_read)), (q_undos, .inl (cJ, 960, .inr (.inl v_undos))), (q_was, .inl (cJ, 120, .inr (.inl v_was)))] sz)) 0 0 (va_A [(h0, .inr (8, [.ref q_now, .ref q_text, .int v_typed, .ref q_row, .int v_rowMany, .int v_thrown, .int v_length, .int v_at, .int v_wrong, .ref q_read, .ref q_ranks, .ref q_distinct, .ref q_proper, .int v_properMany, .ref q_line, .ref q_order, .int v_orderMany, .ref q_then, .ref q_bestOrder, .ref q_lineThen, .ref q_undos, .ref q_was, .int v_undoMany, .int v_drawn, .ref q_kept, .ref q_isKept])), (q_now, .inl (cJ, 120, .inr (.inl v_now))), (q_text, .inl (cB, 80, .inl v_text)), (q_read, .inl (cI, 480, .inl v_read)), (q_undos, .inl (cJ, 960, .inr (.inl v_undos))), (q_was, .inl (cJ, 120, .inr (.inl v_was)))] sz) := by
  refine Met.ofW (cc := cX10_table) (maxL := 4) (ret := (some .int)) (by decide +kernel) rfl ?_
  intro p e s m args below meth c s₁ B hml hv
  obtain ⟨hav, hsz, hP, hK, hD0, hX⟩ := hv
  have hx := B.exec
  have hb := B.bytes
  have hr := B.returns
  have hts := atoms_spec (ws := wsX10_table) B.pre
  have hown : s.vm.findClass RX10 = some m.cls := findClass_of_methodNamed B.named
  have hlocks := B.notSynchronized
  subst hsz
  have hD := hD0.self (sz := s.heap.size)
  generalize hAe : va_A [(h0, .inr (8, [.ref q_now, .ref q_text, .int v_typed, .ref q_row, .int v_rowMany, .int v_thrown, .int v_length, .int v_at, .int v_wrong, .ref q_read, .ref q_ranks, .ref q_distinct, .ref q_proper, .int v_properMany, .ref q_line, .ref q_order, .int v_orderMany, .ref q_then, .ref q_bestOrder, .ref q_lineThen, .ref q_undos, .ref q_was, .int v_undoMany, .int v_drawn, .ref q_kept, .ref q_isKept])), (q_now, .inl (cJ, 120, .inr (.inl v_now))), (q_text, .inl (cB, 80, .inl v_text)), (q_read, .inl (cI, 480, .inl v_read)), (q_undos, .inl (cJ, 960, .inr (.inl v_undos))), (q_was, .inl (cJ, 120, .inr (.inl v_was)))] s.heap.size = A at hD hX ⊢
  have hA : ∀ q : Nat, s.heap.size ≤ q → A q := fun q h => by rw [← hAe]; exact Or.inr h
  have hS : va_S A s.heap s.heap [] := va_S.rf
  refine wstart (rm := rm_X10_table) hav (Nat.le_of_ble_eq_true rfl) (fun QQ ls hQQ hl => ?_)
  have hl : lv_has ls 4 [(0, .ref h0)] := hl
  have hi_X10 : ∀ w ∈ u_ws RX10 TX10 26, w ∈ wsX10_table := by decide +kernel
  have h := hf
  unfold f_X10_table at h
  refine lv_aload_n hx hb dX10_table_0 rfl (lv_at hl 0 rfl) ?_
  refine lv_iconst (v := 0) hx hb dX10_table_1 (by decide) ?_
  refine va_put (D := (dC, dI)) (ci := 8) (v := .int (0 : Int32)) (ty := .int) (C := RX10) (T := TX10) (N := 26) hx hb hts hi_X10 tyX10 tyX10_ok nmX10 hown hK hP hD hS 0 rfl rfl 5 (by decide) (hts _ (List.mem_of_getElem? (i := 1) rfl)) (fun _ h9 => h9) rfl (by decide +kernel) rfl rfl (Nat.le_of_ble_eq_true rfl) dX10_table_2 (fun H locs hP hD hS => ?_)
  replace hP : va_P (dC, dI) vwCl [(h0, .inr (8, [.ref q_now, .ref q_text, .int v_typed, .ref q_row, .int v_rowMany, .int (0 : Int32), .int v_length, .int v_at, .int v_wrong, .ref q_read, .ref q_ranks, .ref q_distinct, .ref q_proper, .int v_properMany, .ref q_line, .ref q_order, .int v_orderMany, .ref q_then, .ref q_bestOrder, .ref q_lineThen, .ref q_undos, .ref q_was, .int v_undoMany, .int v_drawn, .ref q_kept, .ref q_isKept])), (q_now, .inl (cJ, 120, .inr (.inl v_now))), (q_text, .inl (cB, 80, .inl v_text)), (q_read, .inl (cI, 480, .inl v_read)), (q_undos, .inl (cJ, 960, .inr (.inl v_undos))), (q_was, .inl (cJ, 120, .inr (.inl v_was)))] H := hP
  replace hD : va_D A [(h0, .inr (8, [.ref q_now, .ref q_text, .int v_typed, .ref q_row, .int v_rowMany, .int (0 : Int32), .int v_length, .int v_at, .int v_wrong, .ref q_read, .ref q_ranks, .ref q_distinct, .ref q_proper, .int v_properMany, .ref q_line, .ref q_order, .int v_orderMany, .ref q_then, .ref q_bestOrder, .ref q_lineThen, .ref q_undos, .ref q_was, .int v_undoMany, .int v_drawn, .ref q_kept, .ref q_isKept])), (q_now, .inl (cJ, 120, .inr (.inl v_now))), (q_text, .inl (cB, 80, .inl v_text)), (q_read, .inl (cI, 480, .inl v_read)), (q_undos, .inl (cJ, 960, .inr (.inl v_undos))), (q_was, .inl (cJ, 120, .inr (.inl v_was)))] := hD
  refine lv_aload_n hx hb dX10_table_5 rfl (lv_at hl 0 rfl) ?_
  obtain ⟨o_189, hr_189, h⟩ := ob h
  have hPc := hP.sub (ws' := [(h0, .inr (8, [.ref q_now, .ref q_text, .int v_typed, .ref q_row, .int v_rowMany, .int (0 : Int32), .int v_length, .int v_at, .int v_wrong, .ref q_read, .ref q_ranks, .ref q_distinct, .ref q_proper, .int v_properMany, .ref q_line, .ref q_order, .int v_orderMany, .ref q_then, .ref q_bestOrder, .ref q_lineThen, .ref q_undos, .ref q_was, .int v_undoMany, .int v_drawn, .ref q_kept, .ref q_isKept]))]) [0] rfl
  have hDc := hD.sub (ws' := [(h0, .inr (8, [.ref q_now, .ref q_text, .int v_typed, .ref q_row, .int v_rowMany, .int (0 : Int32), .int v_length, .int v_at, .int v_wrong, .ref q_read, .ref q_ranks, .ref q_distinct, .ref q_proper, .int v_properMany, .ref q_line, .ref q_order, .int v_orderMany, .ref q_then, .ref q_bestOrder, .ref q_lineThen, .ref q_undos, .ref q_was, .int v_undoMany, .int v_drawn, .ref q_kept, .ref q_isKept]))]) [0] (by decide) rfl
  have hFc := va_free (wc := [(h0, .inr (8, [.ref q_now, .ref q_text, .int v_typed, .ref q_row, .int v_rowMany, .int (0 : Int32), .int v_length, .int v_at, .int v_wrong, .ref q_read, .ref q_ranks, .ref q_distinct, .ref q_proper, .int v_properMany, .ref q_line, .ref q_order, .int v_orderMany, .ref q_then, .ref q_bestOrder, .ref q_lineThen, .ref q_undos, .ref q_was, .int v_undoMany, .int v_drawn, .ref q_kept, .ref q_isKept]))]) hD hS hA [0] rfl
  refine va_callv (va_runV (As := []) (rest := []) ⟨hx, hb, hml, hown, hts⟩ (c_X10_begin l dC dI cB cC cI cJ cZ cT h0 q_now q_text q_row q_read q_ranks q_distinct q_proper q_line q_order q_then q_bestOrder q_lineThen q_undos q_was q_kept q_isKept H.size v_typed v_rowMany (0 : Int32) v_length v_at v_wrong v_properMany v_orderMany v_undoMany v_drawn o_189 hr_189) (cwV 0 hts gX10_table_X10_begin rfl rfl rfl (by decide +kernel) ⟨Nat.le_of_ble_eq_true rfl, Nat.le_of_ble_eq_true rfl⟩) ⟨blW, va_recv hK hP (ci := 8) (q0 := 0) rfl rfl, fun U hU hW => ⟨rfl, by rw [hU], by rw [hU]; exact hPc, va_K.moved hW.alike hK, hDc.weaken (fun _ _ _ _ => trivial)⟩⟩ rfl rfl hl.1 rfl (lv_room (Nat.le_of_ble_eq_true rfl)) dX10_table_6 ⟨Nat.le_of_ble_eq_true rfl, Nat.le_of_ble_eq_true rfl⟩) hS (fun q _ h => hFc q h) hFc (fun u_189 t_189 H locs ht hvm e_189 hB hz1 hk1 hS => ?_)
  obtain ⟨hP1, -, hD1⟩ := hB
  rw [ht] at hP1
  obtain ⟨hP, hD⟩ := va_join (wr := [(q_now, .inl (cJ, 120, .inr (.inl v_now))), (q_text, .inl (cB, 80, .inl v_text)), (q_read, .inl (cI, 480, .inl v_read)), (q_undos, .inl (cJ, 960, .inr (.inl v_undos))), (q_was, .inl (cJ, 120, .inr (.inl v_was)))]) (w1 := [(h0, .inr (8, [.ref q_now, .ref q_text, .int o_189.1, .ref q_row, .int v_rowMany, .int (0 : Int32), .int o_189.2.1, .int o_189.2.2.1, .int o_189.2.2.2, .ref q_read, .ref q_ranks, .ref q_distinct, .ref q_proper, .int v_properMany, .ref q_line, .ref q_order, .int v_orderMany, .ref q_then, .ref q_bestOrder, .ref q_lineThen, .ref q_undos, .ref q_was, .int v_undoMany, .int v_drawn, .ref q_kept, .ref q_isKept]))]) hP hD [0] [1, 2, 3, 4, 5] rfl rfl (by decide) (by decide) hk1 hFc hP1 hD1
  replace hP := hP.sub (ws' := [(h0, .inr (8, [.ref q_now, .ref q_text, .int o_189.1, .ref q_row, .int v_rowMany, .int (0 : Int32), .int o_189.2.1, .int o_189.2.2.1, .int o_189.2.2.2, .ref q_read, .ref q_ranks, .ref q_distinct, .ref q_proper, .int v_properMany, .ref q_line, .ref q_order, .int v_orderMany, .ref q_then, .ref q_bestOrder, .ref q_lineThen, .ref q_undos, .ref q_was, .int v_undoMany, .int v_drawn, .ref q_kept, .ref q_isKept])), (q_now, .inl (cJ, 120, .inr (.inl v_now))), (q_text, .inl (cB, 80, .inl v_text)), (q_read, .inl (cI, 480, .inl v_read)), (q_undos, .inl (cJ, 960, .inr (.inl v_undos))), (q_was, .inl (cJ, 120, .inr (.inl v_was)))]) [5, 0, 1, 2, 3, 4] rfl
  replace hD := hD.sub (ws' := [(h0, .inr (8, [.ref q_now, .ref q_text, .int o_189.1, .ref q_row, .int v_rowMany, .int (0 : Int32), .int o_189.2.1, .int o_189.2.2.1, .int o_189.2.2.2, .ref q_read, .ref q_ranks, .ref q_distinct, .ref q_proper, .int v_properMany, .ref q_line, .ref q_order, .int v_orderMany, .ref q_then, .ref q_bestOrder, .ref q_lineThen, .ref q_undos, .ref q_was, .int v_undoMany, .int v_drawn, .ref q_kept, .ref q_isKept])), (q_now, .inl (cJ, 120, .inr (.inl v_now))), (q_text, .inl (cB, 80, .inl v_text)), (q_read, .inl (cI, 480, .inl v_read)), (q_undos, .inl (cJ, 960, .inr (.inl v_undos))), (q_was, .inl (cJ, 120, .inr (.inl v_was)))]) [5, 0, 1, 2, 3, 4] (by decide) rfl
  refine lv_aload_n hx hb dX10_table_9 rfl (lv_at hl 0 rfl) ?_
  obtain ⟨o_191, hr_191, h⟩ := ob h
  have hPc := hP.sub (ws' := [(h0, .inr (8, [.ref q_now, .ref q_text, .int o_189.1, .ref q_row, .int v_rowMany, .int (0 : Int32), .int o_189.2.1, .int o_189.2.2.1, .int o_189.2.2.2, .ref q_read, .ref q_ranks, .ref q_distinct, .ref q_proper, .int v_properMany, .ref q_line, .ref q_order, .int v_orderMany, .ref q_then, .ref q_bestOrder, .ref q_lineThen, .ref q_undos, .ref q_was, .int v_undoMany, .int v_drawn, .ref q_kept, .ref q_isKept])), (q_text, .inl (cB, 80, .inl v_text))]) [0, 2] rfl
  have hDc := hD.sub (ws' := [(h0, .inr (8, [.ref q_now, .ref q_text, .int o_189.1, .ref q_row, .int v_rowMany, .int (0 : Int32), .int o_189.2.1, .int o_189.2.2.1, .int o_189.2.2.2, .ref q_read, .ref q_ranks, .ref q_distinct, .ref q_proper, .int v_properMany, .ref q_line, .ref q_order, .int v_orderMany, .ref q_then, .ref q_bestOrder, .ref q_lineThen, .ref q_undos, .ref q_was, .int v_undoMany, .int v_drawn, .ref q_kept, .ref q_isKept])), (q_text, .inl (cB, 80, .inl v_text))]) [0, 2] (by decide) rfl
  have hFc := va_free (wc := [(h0, .inr (8, [.ref q_now, .ref q_text, .int o_189.1, .ref q_row, .int v_rowMany, .int (0 : Int32), .int o_189.2.1, .int o_189.2.2.1, .int o_189.2.2.2, .ref q_read, .ref q_ranks, .ref q_distinct, .ref q_proper, .int v_properMany, .ref q_line, .ref q_order, .int v_orderMany, .ref q_then, .ref q_bestOrder, .ref q_lineThen, .ref q_undos, .ref q_was, .int v_undoMany, .int v_drawn, .ref q_kept, .ref q_isKept])), (q_text, .inl (cB, 80, .inl v_text))]) hD hS hA [0, 2] rfl
  refine va_calli (va_runV (As := []) (rest := []) ⟨hx, hb, hml, hown, hts⟩ (c_X10_twoDigits l dC dI cB cC cI cJ cZ cT h0 q_now q_text q_row q_read q_ranks q_distinct q_proper q_line q_order q_then q_bestOrder q_lineThen q_undos q_was q_kept q_isKept H.size o_189.1 v_rowMany (0 : Int32) o_189.2.1 o_189.2.2.1 o_189.2.2.2 v_properMany v_orderMany v_undoMany v_drawn v_text o_191 hr_191) (cwV 0 hts gX10_table_X10_twoDigits rfl rfl rfl (by decide +kernel) ⟨Nat.le_of_ble_eq_true rfl, Nat.le_of_ble_eq_true rfl⟩) ⟨blW, va_recv hK hP (ci := 8) (q0 := 0) rfl rfl, fun U hU hW => ⟨rfl, by rw [hU], by rw [hU]; exact hPc, va_K.moved hW.alike hK, hDc.weaken (fun _ _ _ _ => trivial)⟩⟩ rfl rfl hl.1 rfl (lv_room (Nat.le_of_ble_eq_true rfl)) dX10_table_10 ⟨Nat.le_of_ble_eq_true rfl, Nat.le_of_ble_eq_true rfl⟩) hS (fun q _ h => hFc q h) hFc (fun r_191 u_191 t_191 H locs ht hvm e_191 hB hz1 hk1 hS => ?_)
  obtain ⟨hP1, -, hD1⟩ := hB
  rw [ht] at hP1
  obtain ⟨hP, hD⟩ := va_join (wr := [(q_now, .inl (cJ, 120, .inr (.inl v_now))), (q_read, .inl (cI, 480, .inl v_read)), (q_undos, .inl (cJ, 960, .inr (.inl v_undos))), (q_was, .inl (cJ, 120, .inr (.inl v_was)))]) (w1 := [(h0, .inr (8, [.ref q_now, .ref q_text, .int o_189.1, .ref q_row, .int v_rowMany, .int (0 : Int32), .int o_189.2.1, .int o_191.2.1, .int o_191.2.2, .ref q_read, .ref q_ranks, .ref q_distinct, .ref q_proper, .int v_properMany, .ref q_line, .ref q_order, .int v_orderMany, .ref q_then, .ref q_bestOrder, .ref q_lineThen, .ref q_undos, .ref q_was, .int v_undoMany, .int v_drawn, .ref q_kept, .ref q_isKept])), (q_text, .inl (cB, 80, .inl v_text))]) hP hD [0, 2] [1, 3, 4, 5] rfl rfl (by decide) (by decide) hk1 hFc hP1 hD1
  replace hP := hP.sub (ws' := [(h0, .inr (8, [.ref q_now, .ref q_text, .int o_189.1, .ref q_row, .int v_rowMany, .int (0 : Int32), .int o_189.2.1, .int o_191.2.1, .int o_191.2.2, .ref q_read, .ref q_ranks, .ref q_distinct, .ref q_proper, .int v_properMany, .ref q_line, .ref q_order, .int v_orderMany, .ref q_then, .ref q_bestOrder, .ref q_lineThen, .ref q_undos, .ref q_was, .int v_undoMany, .int v_drawn, .ref q_kept, .ref q_isKept])), (q_now, .inl (cJ, 120, .inr (.inl v_now))), (q_text, .inl (cB, 80, .inl v_text)), (q_read, .inl (cI, 480, .inl v_read)), (q_undos, .inl (cJ, 960, .inr (.inl v_undos))), (q_was, .inl (cJ, 120, .inr (.inl v_was)))]) [4, 0, 5, 1, 2, 3] rfl
  replace hD := hD.sub (ws' := [(h0, .inr (8, [.ref q_now, .ref q_text, .int o_189.1, .ref q_row, .int v_rowMany, .int (0 : Int32), .int o_189.2.1, .int o_191.2.1, .int o_191.2.2, .ref q_read, .ref q_ranks, .ref q_distinct, .ref q_proper, .int v_properMany, .ref q_line, .ref q_order, .int v_orderMany, .ref q_then, .ref q_bestOrder, .ref q_lineThen, .ref q_undos, .ref q_was, .int v_undoMany, .int v_drawn, .ref q_kept, .ref q_isKept])), (q_now, .inl (cJ, 120, .inr (.inl v_now))), (q_text, .inl (cB, 80, .inl v_text)), (q_read, .inl (cI, 480, .inl v_read)), (q_undos, .inl (cJ, 960, .inr (.inl v_undos))), (q_was, .inl (cJ, 120, .inr (.inl v_was)))]) [4, 0, 5, 1, 2, 3] (by decide) rfl
  subst e_191
  refine lv_istore_n (lv' := [(1, .int o_191.1), (0, .ref h0)]) hx hb dX10_table_13 rfl hl (by decide) rfl (fun ls hl => ?_)
  refine lv_aload_n hx hb dX10_table_14 rfl (lv_at hl 1 rfl) ?_
  obtain ⟨o_193, hr_193, h⟩ := ob h
  refine vp_callSi (va_Run.run (va_runV (As := []) (rest := []) ⟨hx, hb, hml, hown, hts⟩ (c_X10_fine l dC dI cB cC cI cJ cZ cT h0 q_now q_text q_row q_read q_ranks q_distinct q_proper q_line q_order q_then q_bestOrder q_lineThen q_undos q_was q_kept q_isKept o_189.1 v_rowMany (0 : Int32) o_189.2.1 o_191.2.1 o_191.2.2 v_properMany v_orderMany v_undoMany v_drawn o_193 hr_193) (cwV 0 hts gX10_table_X10_fine rfl rfl rfl (by decide +kernel) ⟨Nat.le_of_ble_eq_true rfl, Nat.le_of_ble_eq_true rfl⟩) ⟨blR, va_recv hK hP (ci := 8) (q0 := 0) rfl rfl, fun U hU hW => ⟨rfl, by rw [hU]; exact hP.sub [0] rfl, va_K.moved hW.alike hK⟩⟩ rfl rfl hl.1 rfl (lv_room (Nat.le_of_ble_eq_true rfl)) dX10_table_15 ⟨Nat.le_of_ble_eq_true rfl, Nat.le_of_ble_eq_true rfl⟩)) (fun r_193 e_193 => ?_)
  subst e_193
  obtain ⟨v_195, hv_195, h⟩ := ob h
  have J_195 : ∀ (H : Heap) (locs : List Loc) (ls : Array Slot), va_P (dC, dI) vwCl [(h0, .inr (8, [.ref q_now, .ref q_text, .int o_189.1, .ref q_row, .int v_rowMany, .int (0 : Int32), .int o_189.2.1, .int o_191.2.1, .int v_195, .ref q_read, .ref q_ranks, .ref q_distinct, .ref q_proper, .int v_properMany, .ref q_line, .ref q_order, .int v_orderMany, .ref q_then, .ref q_bestOrder, .ref q_lineThen, .ref q_undos, .ref q_was, .int v_undoMany, .int v_drawn, .ref q_kept, .ref q_isKept])), (q_now, .inl (cJ, 120, .inr (.inl v_now))), (q_text, .inl (cB, 80, .inl v_text)), (q_read, .inl (cI, 480, .inl v_read)), (q_undos, .inl (cJ, 960, .inr (.inl v_undos))), (q_was, .inl (cJ, 120, .inr (.inl v_was)))] H → va_D A [(h0, .inr (8, [.ref q_now, .ref q_text, .int o_189.1, .ref q_row, .int v_rowMany, .int (0 : Int32), .int o_189.2.1, .int o_191.2.1, .int v_195, .ref q_read, .ref q_ranks, .ref q_distinct, .ref q_proper, .int v_properMany, .ref q_line, .ref q_order, .int v_orderMany, .ref q_then, .ref q_bestOrder, .ref q_lineThen, .ref q_undos, .ref q_was, .int v_undoMany, .int v_drawn, .ref q_kept, .ref q_isKept])), (q_now, .inl (cJ, 120, .inr (.inl v_now))), (q_text, .inl (cB, 80, .inl v_text)), (q_read, .inl (cI, 480, .inl v_read)), (q_undos, .inl (cJ, 960, .inr (.inl v_undos))), (q_was, .inl (cJ, 120, .inr (.inl v_was)))] → va_S A s.heap H locs → lv_has ls 4 [(0, .ref h0), (1, .int o_191.1)] → W p l e rm_X10_table s m args below meth c H locs 0 0 QQ (F0 m 37 ls []) := by
    intro H locs ls hP hD hS hl
    refine lv_iconst (v := 0) hx hb dX10_table_37 (by decide) ?_
    refine lv_istore_n (lv' := [(2, .int (0 : Int32)), (0, .ref h0), (1, .int o_191.1)]) hx hb dX10_table_38 rfl hl (by decide) rfl (fun ls hl => ?_)
    have LP_225 : ∀ (n : Nat) (x2_39 : Int32) (v_at_39 : Int32) (v_wrong_39 : Int32) (v_read_39 : (Nat → Int32)) (w : (Int32 × Int32 × Int32 × (Nat → Int32))) (H : Heap) (locs : List Loc) (ls : Array Slot), L_X10_table_39 v_text o_189 n x2_39 v_at_39 v_wrong_39 v_read_39 = some w → va_P (dC, dI) vwCl [(h0, .inr (8, [.ref q_now, .ref q_text, .int o_189.1, .ref q_row, .int v_rowMany, .int (0 : Int32), .int o_189.2.1, .int v_at_39, .int v_wrong_39, .ref q_read, .ref q_ranks, .ref q_distinct, .ref q_proper, .int v_properMany, .ref q_line, .ref q_order, .int v_orderMany, .ref q_then, .ref q_bestOrder, .ref q_lineThen, .ref q_undos, .ref q_was, .int v_undoMany, .int v_drawn, .ref q_kept, .ref q_isKept])), (q_now, .inl (cJ, 120, .inr (.inl v_now))), (q_text, .inl (cB, 80, .inl v_text)), (q_read, .inl (cI, 480, .inl v_read_39)), (q_undos, .inl (cJ, 960, .inr (.inl v_undos))), (q_was, .inl (cJ, 120, .inr (.inl v_was)))] H → va_D A [(h0, .inr (8, [.ref q_now, .ref q_text, .int o_189.1, .ref q_row, .int v_rowMany, .int (0 : Int32), .int o_189.2.1, .int v_at_39, .int v_wrong_39, .ref q_read, .ref q_ranks, .ref q_distinct, .ref q_proper, .int v_properMany, .ref q_line, .ref q_order, .int v_orderMany, .ref q_then, .ref q_bestOrder, .ref q_lineThen, .ref q_undos, .ref q_was, .int v_undoMany, .int v_drawn, .ref q_kept, .ref q_isKept])), (q_now, .inl (cJ, 120, .inr (.inl v_now))), (q_text, .inl (cB, 80, .inl v_text)), (q_read, .inl (cI, 480, .inl v_read_39)), (q_undos, .inl (cJ, 960, .inr (.inl v_undos))), (q_was, .inl (cJ, 120, .inr (.inl v_was)))] → va_S A s.heap H locs → lv_has ls 4 [(0, .ref h0), (1, .int o_191.1), (2, .int x2_39)] → (∀ (H : Heap) (locs : List Loc) (ls : Array Slot), va_P (dC, dI) vwCl [(h0, .inr (8, [.ref q_now, .ref q_text, .int o_189.1, .ref q_row, .int v_rowMany, .int (0 : Int32), .int o_189.2.1, .int w.2.1, .int w.2.2.1, .ref q_read, .ref q_ranks, .ref q_distinct, .ref q_proper, .int v_properMany, .ref q_line, .ref q_order, .int v_orderMany, .ref q_then, .ref q_bestOrder, .ref q_lineThen, .ref q_undos, .ref q_was, .int v_undoMany, .int v_drawn, .ref q_kept, .ref q_isKept])), (q_now, .inl (cJ, 120, .inr (.inl v_now))), (q_text, .inl (cB, 80, .inl v_text)), (q_read, .inl (cI, 480, .inl w.2.2.2)), (q_undos, .inl (cJ, 960, .inr (.inl v_undos))), (q_was, .inl (cJ, 120, .inr (.inl v_was)))] H → va_D A [(h0, .inr (8, [.ref q_now, .ref q_text, .int o_189.1, .ref q_row, .int v_rowMany, .int (0 : Int32), .int o_189.2.1, .int w.2.1, .int w.2.2.1, .ref q_read, .ref q_ranks, .ref q_distinct, .ref q_proper, .int v_properMany, .ref q_line, .ref q_order, .int v_orderMany, .ref q_then, .ref q_bestOrder, .ref q_lineThen, .ref q_undos, .ref q_was, .int v_undoMany, .int v_drawn, .ref q_kept, .ref q_isKept])), (q_now, .inl (cJ, 120, .inr (.inl v_now))), (q_text, .inl (cB, 80, .inl v_text)), (q_read, .inl (cI, 480, .inl w.2.2.2)), (q_undos, .inl (cJ, 960, .inr (.inl v_undos))), (q_was, .inl (cJ, 120, .inr (.inl v_was)))] → va_S A s.heap H locs → lv_has ls 4 [(0, .ref h0), (1, .int o_191.1), (2, .int w.1)] → W p l e rm_X10_table s m args below meth c H locs 0 0 QQ (F0 m 107 ls [])) → W p l e rm_X10_table s m args below meth c H locs 0 0 QQ (F0 m 39 ls []) := by
      intro n
      induction n with
      | zero => intro x2_39 v_at_39 v_wrong_39 v_read_39 w H locs ls h; exact absurd (show none = some w from h) nofun
      | succ n ih =>
        intro x2_39 v_at_39 v_wrong_39 v_read_39 w H locs ls h hP hD hS hl K
        rw [L_X10_table_39] at h
        refine lv_aload_n hx hb dX10_table_39 rfl (lv_at hl 0 rfl) ?_
        obtain ⟨o_212, hr_212, h⟩ := ob h
        refine vp_callSi (va_Run.run (va_runV (As := []) (rest := []) ⟨hx, hb, hml, hown, hts⟩ (c_X10_fine l dC dI cB cC cI cJ cZ cT h0 q_now q_text q_row q_read q_ranks q_distinct q_proper q_line q_order q_then q_bestOrder q_lineThen q_undos q_was q_kept q_isKept o_189.1 v_rowMany (0 : Int32) o_189.2.1 v_at_39 v_wrong_39 v_properMany v_orderMany v_undoMany v_drawn o_212 hr_212) (cwV 0 hts gX10_table_X10_fine rfl rfl rfl (by decide +kernel) ⟨Nat.le_of_ble_eq_true rfl, Nat.le_of_ble_eq_true rfl⟩) ⟨blR, va_recv hK hP (ci := 8) (q0 := 0) rfl rfl, fun U hU hW => ⟨rfl, by rw [hU]; exact hP.sub [0] rfl, va_K.moved hW.alike hK⟩⟩ rfl rfl hl.1 rfl (lv_room (Nat.le_of_ble_eq_true rfl)) dX10_table_40 ⟨Nat.le_of_ble_eq_true rfl, Nat.le_of_ble_eq_true rfl⟩)) (fun r_212 e_212 => ?_)
        subst e_212
        refine lv_if_eq (tgt := 107) hx hb dX10_table_43 (by decide) (fun c_214 => ?_) (fun c_214 => ?_)
        · replace h := op c_214 h
          have ho := Option.some.inj h
          subst ho
          exact K H _ ls hP hD hS (lv_sub hl [0, 1, 2] rfl)
        · replace h := on c_214 h
          refine lv_aload_n hx hb dX10_table_46 rfl (lv_at hl 0 rfl) ?_
          refine va_get (D := (dC, dI)) (ci := 8) (v := .int v_at_39) (C := RX10) (T := TX10) (N := 26) hx hb hts hi_X10 hown hK hP 0 rfl rfl 7 (by decide) (hts _ (List.mem_of_getElem? (i := 2) rfl)) (fun _ h9 => h9) rfl dX10_table_47 ?_
          refine lv_aload_n hx hb dX10_table_50 rfl (lv_at hl 0 rfl) ?_
          refine va_get (D := (dC, dI)) (ci := 8) (v := .int o_189.2.1) (C := RX10) (T := TX10) (N := 26) hx hb hts hi_X10 hown hK hP 0 rfl rfl 6 (by decide) (hts _ (List.mem_of_getElem? (i := 3) rfl)) (fun _ h9 => h9) rfl dX10_table_51 ?_
          refine lv_icmp_ge (tgt := 107) hx hb dX10_table_54 (by decide) (fun c_215 => ?_) (fun c_215 => ?_)
          · replace h := op c_215 h
            have ho := Option.some.inj h
            subst ho
            exact K H _ ls hP hD hS (lv_sub hl [0, 1, 2] rfl)
          · replace h := on c_215 h
            refine lv_aload_n hx hb dX10_table_57 rfl (lv_at hl 0 rfl) ?_
            obtain ⟨o_216, hr_216, h⟩ := ob h
            refine vp_callSi (va_Run.run (va_runV (As := []) (rest := []) ⟨hx, hb, hml, hown, hts⟩ (c_X10_letterHere l dC dI cB cC cI cJ cZ cT h0 q_now q_text q_row q_read q_ranks q_distinct q_proper q_line q_order q_then q_bestOrder q_lineThen q_undos q_was q_kept q_isKept o_189.1 v_rowMany (0 : Int32) o_189.2.1 v_at_39 v_wrong_39 v_properMany v_orderMany v_undoMany v_drawn v_text o_216 hr_216) (cwV 0 hts gX10_table_X10_letterHere rfl rfl rfl (by decide +kernel) ⟨Nat.le_of_ble_eq_true rfl, Nat.le_of_ble_eq_true rfl⟩) ⟨blRX, va_recv hK hP (ci := 8) (q0 := 0) rfl rfl, fun U hU hW => ⟨rfl, by rw [hU]; exact hP.sub [0, 2] rfl, va_K.moved hW.alike hK, by rw [hU]; exact SX.use hW hS hX⟩⟩ rfl rfl hl.1 rfl (lv_room (Nat.le_of_ble_eq_true rfl)) dX10_table_58 ⟨Nat.le_of_ble_eq_true rfl, Nat.le_of_ble_eq_true rfl⟩)) (fun r_216 e_216 => ?_)
            subst e_216
            refine lv_istore_n (lv' := [(3, .int o_216), (0, .ref h0), (1, .int o_191.1), (2, .int x2_39)]) hx hb dX10_table_61 rfl hl (by decide) rfl (fun ls hl => ?_)
            refine lv_iload_n hx hb dX10_table_62 rfl (lv_at hl 0 rfl) ?_
            refine lv_iconst (v := -1) hx hb dX10_table_63 (by decide) ?_
            refine lv_icmp_eq (tgt := 73) hx hb dX10_table_64 (by decide) (fun c_218 => ?_) (fun c_218 => ?_)
            · replace h := op c_218 h
              refine lv_aload_n hx hb dX10_table_73 rfl (lv_at hl 1 rfl) ?_
              refine lv_aload_n hx hb dX10_table_74 rfl (lv_at hl 1 rfl) ?_
              refine va_get (D := (dC, dI)) (ci := 8) (v := .int v_at_39) (C := RX10) (T := TX10) (N := 26) hx hb hts hi_X10 hown hK hP 0 rfl rfl 7 (by decide) (hts _ (List.mem_of_getElem? (i := 2) rfl)) (fun _ h9 => h9) rfl dX10_table_75 ?_
              obtain ⟨o_219, hr_219, h⟩ := ob h
              have hPc := hP.sub (ws' := [(h0, .inr (8, [.ref q_now, .ref q_text, .int o_189.1, .ref q_row, .int v_rowMany, .int (0 : Int32), .int o_189.2.1, .int v_at_39, .int v_wrong_39, .ref q_read, .ref q_ranks, .ref q_distinct, .ref q_proper, .int v_properMany, .ref q_line, .ref q_order, .int v_orderMany, .ref q_then, .ref q_bestOrder, .ref q_lineThen, .ref q_undos, .ref q_was, .int v_undoMany, .int v_drawn, .ref q_kept, .ref q_isKept]))]) [0] rfl
              have hDc := hD.sub (ws' := [(h0, .inr (8, [.ref q_now, .ref q_text, .int o_189.1, .ref q_row, .int v_rowMany, .int (0 : Int32), .int o_189.2.1, .int v_at_39, .int v_wrong_39, .ref q_read, .ref q_ranks, .ref q_distinct, .ref q_proper, .int v_properMany, .ref q_line, .ref q_order, .int v_orderMany, .ref q_then, .ref q_bestOrder, .ref q_lineThen, .ref q_undos, .ref q_was, .int v_undoMany, .int v_drawn, .ref q_kept, .ref q_isKept]))]) [0] (by decide) rfl
              have hFc := va_free (wc := [(h0, .inr (8, [.ref q_now, .ref q_text, .int o_189.1, .ref q_row, .int v_rowMany, .int (0 : Int32), .int o_189.2.1, .int v_at_39, .int v_wrong_39, .ref q_read, .ref q_ranks, .ref q_distinct, .ref q_proper, .int v_properMany, .ref q_line, .ref q_order, .int v_orderMany, .ref q_then, .ref q_bestOrder, .ref q_lineThen, .ref q_undos, .ref q_was, .int v_undoMany, .int v_drawn, .ref q_kept, .ref q_isKept]))]) hD hS hA [0] rfl
              refine va_callv (va_runV (As := [.int v_at_39]) (rest := []) ⟨hx, hb, hml, hown, hts⟩ (c_X10_fault l dC dI cB cC cI cJ cZ cT h0 q_now q_text q_row q_read q_ranks q_distinct q_proper q_line q_order q_then q_bestOrder q_lineThen q_undos q_was q_kept q_isKept H.size o_189.1 v_rowMany (0 : Int32) o_189.2.1 v_at_39 v_wrong_39 v_properMany v_orderMany v_undoMany v_drawn v_at_39 o_219 hr_219) (cwV 1 hts gX10_table_X10_fault rfl rfl rfl (by decide +kernel) ⟨Nat.le_of_ble_eq_true rfl, Nat.le_of_ble_eq_true rfl⟩) ⟨blW, va_recv hK hP (ci := 8) (q0 := 0) rfl rfl, fun U hU hW => ⟨rfl, by rw [hU], by rw [hU]; exact hPc, va_K.moved hW.alike hK, hDc.weaken (fun _ _ _ _ => trivial)⟩⟩ rfl rfl hl.1 rfl (lv_room (Nat.le_of_ble_eq_true rfl)) dX10_table_78 ⟨Nat.le_of_ble_eq_true rfl, Nat.le_of_ble_eq_true rfl⟩) hS (fun q _ h => hFc q h) hFc (fun u_219 t_219 H locs ht hvm e_219 hB hz1 hk1 hS => ?_)
              obtain ⟨hP1, -, hD1⟩ := hB
              rw [ht] at hP1
              obtain ⟨hP, hD⟩ := va_join (wr := [(q_now, .inl (cJ, 120, .inr (.inl v_now))), (q_text, .inl (cB, 80, .inl v_text)), (q_read, .inl (cI, 480, .inl v_read_39)), (q_undos, .inl (cJ, 960, .inr (.inl v_undos))), (q_was, .inl (cJ, 120, .inr (.inl v_was)))]) (w1 := [(h0, .inr (8, [.ref q_now, .ref q_text, .int o_189.1, .ref q_row, .int v_rowMany, .int (0 : Int32), .int o_189.2.1, .int v_at_39, .int o_219, .ref q_read, .ref q_ranks, .ref q_distinct, .ref q_proper, .int v_properMany, .ref q_line, .ref q_order, .int v_orderMany, .ref q_then, .ref q_bestOrder, .ref q_lineThen, .ref q_undos, .ref q_was, .int v_undoMany, .int v_drawn, .ref q_kept, .ref q_isKept]))]) hP hD [0] [1, 2, 3, 4, 5] rfl rfl (by decide) (by decide) hk1 hFc hP1 hD1
              replace hP := hP.sub (ws' := [(h0, .inr (8, [.ref q_now, .ref q_text, .int o_189.1, .ref q_row, .int v_rowMany, .int (0 : Int32), .int o_189.2.1, .int v_at_39, .int o_219, .ref q_read, .ref q_ranks, .ref q_distinct, .ref q_proper, .int v_properMany, .ref q_line, .ref q_order, .int v_orderMany, .ref q_then, .ref q_bestOrder, .ref q_lineThen, .ref q_undos, .ref q_was, .int v_undoMany, .int v_drawn, .ref q_kept, .ref q_isKept])), (q_now, .inl (cJ, 120, .inr (.inl v_now))), (q_text, .inl (cB, 80, .inl v_text)), (q_read, .inl (cI, 480, .inl v_read_39)), (q_undos, .inl (cJ, 960, .inr (.inl v_undos))), (q_was, .inl (cJ, 120, .inr (.inl v_was)))]) [5, 0, 1, 2, 3, 4] rfl
              replace hD := hD.sub (ws' := [(h0, .inr (8, [.ref q_now, .ref q_text, .int o_189.1, .ref q_row, .int v_rowMany, .int (0 : Int32), .int o_189.2.1, .int v_at_39, .int o_219, .ref q_read, .ref q_ranks, .ref q_distinct, .ref q_proper, .int v_properMany, .ref q_line, .ref q_order, .int v_orderMany, .ref q_then, .ref q_bestOrder, .ref q_lineThen, .ref q_undos, .ref q_was, .int v_undoMany, .int v_drawn, .ref q_kept, .ref q_isKept])), (q_now, .inl (cJ, 120, .inr (.inl v_now))), (q_text, .inl (cB, 80, .inl v_text)), (q_read, .inl (cI, 480, .inl v_read_39)), (q_undos, .inl (cJ, 960, .inr (.inl v_undos))), (q_was, .inl (cJ, 120, .inr (.inl v_was)))]) [5, 0, 1, 2, 3, 4] (by decide) rfl
              refine lv_goto (tgt := 39) hx hb dX10_table_81 (by decide) ?_
              exact ih x2_39 v_at_39 o_219 v_read_39 w H _ ls h hP hD hS (lv_sub hl [1, 2, 3] rfl) K
            · replace h := on c_218 h
              refine lv_iload_n hx hb dX10_table_67 rfl (lv_at hl 3 rfl) ?_
              refine lv_bipush (v := 6) hx hb dX10_table_68 (by decide) ?_
              refine lv_icmp_ne (tgt := 84) hx hb dX10_table_70 (by decide) (fun c_221 => ?_) (fun c_221 => ?_)
              · replace h := on c_221 h
                refine lv_aload_n hx hb dX10_table_84 rfl (lv_at hl 1 rfl) ?_
                refine va_get (D := (dC, dI)) (ci := 8) (v := .ref q_read) (C := RX10) (T := TX10) (N := 26) hx hb hts hi_X10 hown hK hP 0 rfl rfl 9 (by decide) (hts _ (List.mem_of_getElem? (i := 4) rfl)) (fun _ h9 => h9) rfl dX10_table_85 ?_
                refine lv_iload_n hx hb dX10_table_88 rfl (lv_at hl 3 rfl) ?_
                refine lv_iload_n hx hb dX10_table_89 rfl (lv_at hl 0 rfl) ?_
                obtain ⟨hi_222, h⟩ := og h
                refine va_iast hx hb hK hP hD hS 3 0 rfl rfl hi_222 dX10_table_90 (fun H locs hP hD hS => ?_)
                replace hP : va_P (dC, dI) vwCl [(h0, .inr (8, [.ref q_now, .ref q_text, .int o_189.1, .ref q_row, .int v_rowMany, .int (0 : Int32), .int o_189.2.1, .int v_at_39, .int v_wrong_39, .ref q_read, .ref q_ranks, .ref q_distinct, .ref q_proper, .int v_properMany, .ref q_line, .ref q_order, .int v_orderMany, .ref q_then, .ref q_bestOrder, .ref q_lineThen, .ref q_undos, .ref q_was, .int v_undoMany, .int v_drawn, .ref q_kept, .ref q_isKept])), (q_now, .inl (cJ, 120, .inr (.inl v_now))), (q_text, .inl (cB, 80, .inl v_text)), (q_read, .inl (cI, 480, .inl (upd v_read_39 (x2_39).toNatClampNeg o_216))), (q_undos, .inl (cJ, 960, .inr (.inl v_undos))), (q_was, .inl (cJ, 120, .inr (.inl v_was)))] H := hP
                replace hD : va_D A [(h0, .inr (8, [.ref q_now, .ref q_text, .int o_189.1, .ref q_row, .int v_rowMany, .int (0 : Int32), .int o_189.2.1, .int v_at_39, .int v_wrong_39, .ref q_read, .ref q_ranks, .ref q_distinct, .ref q_proper, .int v_properMany, .ref q_line, .ref q_order, .int v_orderMany, .ref q_then, .ref q_bestOrder, .ref q_lineThen, .ref q_undos, .ref q_was, .int v_undoMany, .int v_drawn, .ref q_kept, .ref q_isKept])), (q_now, .inl (cJ, 120, .inr (.inl v_now))), (q_text, .inl (cB, 80, .inl v_text)), (q_read, .inl (cI, 480, .inl (upd v_read_39 (x2_39).toNatClampNeg o_216))), (q_undos, .inl (cJ, 960, .inr (.inl v_undos))), (q_was, .inl (cJ, 120, .inr (.inl v_was)))] := hD
                refine lv_iinc (v := (x2_39 + 1)) (lv' := [(2, .int (x2_39 + 1)), (3, .int o_216), (0, .ref h0), (1, .int o_191.1)]) hx hb dX10_table_91 hl (k := 3) rfl (by rfl) (by decide) rfl (fun ls hl => ?_)
                refine lv_aload_n hx hb dX10_table_94 rfl (lv_at hl 2 rfl) ?_
                refine lv_dup hx hb dX10_table_95 rfl ?_
                refine va_get (D := (dC, dI)) (ci := 8) (v := .int v_at_39) (C := RX10) (T := TX10) (N := 26) hx hb hts hi_X10 hown hK hP 0 rfl rfl 7 (by decide) (hts _ (List.mem_of_getElem? (i := 2) rfl)) (fun _ h9 => h9) rfl dX10_table_96 ?_
                refine lv_iconst (v := 1) hx hb dX10_table_99 (by decide) ?_
                refine lv_iadd hx hb dX10_table_100 ?_
                refine va_put (D := (dC, dI)) (ci := 8) (v := .int (v_at_39 + (1 : Int32))) (ty := .int) (C := RX10) (T := TX10) (N := 26) hx hb hts hi_X10 tyX10 tyX10_ok nmX10 hown hK hP hD hS 0 rfl rfl 7 (by decide) (hts _ (List.mem_of_getElem? (i := 2) rfl)) (fun _ h9 => h9) rfl (by decide +kernel) rfl rfl (Nat.le_of_ble_eq_true rfl) dX10_table_101 (fun H locs hP hD hS => ?_)
                replace hP : va_P (dC, dI) vwCl [(h0, .inr (8, [.ref q_now, .ref q_text, .int o_189.1, .ref q_row, .int v_rowMany, .int (0 : Int32), .int o_189.2.1, .int (v_at_39 + (1 : Int32)), .int v_wrong_39, .ref q_read, .ref q_ranks, .ref q_distinct, .ref q_proper, .int v_properMany, .ref q_line, .ref q_order, .int v_orderMany, .ref q_then, .ref q_bestOrder, .ref q_lineThen, .ref q_undos, .ref q_was, .int v_undoMany, .int v_drawn, .ref q_kept, .ref q_isKept])), (q_now, .inl (cJ, 120, .inr (.inl v_now))), (q_text, .inl (cB, 80, .inl v_text)), (q_read, .inl (cI, 480, .inl (upd v_read_39 (x2_39).toNatClampNeg o_216))), (q_undos, .inl (cJ, 960, .inr (.inl v_undos))), (q_was, .inl (cJ, 120, .inr (.inl v_was)))] H := hP
                replace hD : va_D A [(h0, .inr (8, [.ref q_now, .ref q_text, .int o_189.1, .ref q_row, .int v_rowMany, .int (0 : Int32), .int o_189.2.1, .int (v_at_39 + (1 : Int32)), .int v_wrong_39, .ref q_read, .ref q_ranks, .ref q_distinct, .ref q_proper, .int v_properMany, .ref q_line, .ref q_order, .int v_orderMany, .ref q_then, .ref q_bestOrder, .ref q_lineThen, .ref q_undos, .ref q_was, .int v_undoMany, .int v_drawn, .ref q_kept, .ref q_isKept])), (q_now, .inl (cJ, 120, .inr (.inl v_now))), (q_text, .inl (cB, 80, .inl v_text)), (q_read, .inl (cI, 480, .inl (upd v_read_39 (x2_39).toNatClampNeg o_216))), (q_undos, .inl (cJ, 960, .inr (.inl v_undos))), (q_was, .inl (cJ, 120, .inr (.inl v_was)))] := hD
                refine lv_goto (tgt := 39) hx hb dX10_table_104 (by decide) ?_
                exact ih (x2_39 + 1) (v_at_39 + (1 : Int32)) v_wrong_39 (upd v_read_39 (x2_39).toNatClampNeg o_216) w H _ ls h hP hD hS (lv_sub hl [2, 3, 0] rfl) K
              · replace h := op c_221 h
                refine lv_aload_n hx hb dX10_table_73 rfl (lv_at hl 1 rfl) ?_
                refine lv_aload_n hx hb dX10_table_74 rfl (lv_at hl 1 rfl) ?_
                refine va_get (D := (dC, dI)) (ci := 8) (v := .int v_at_39) (C := RX10) (T := TX10) (N := 26) hx hb hts hi_X10 hown hK hP 0 rfl rfl 7 (by decide) (hts _ (List.mem_of_getElem? (i := 2) rfl)) (fun _ h9 => h9) rfl dX10_table_75 ?_
                obtain ⟨o_223, hr_223, h⟩ := ob h
                have hPc := hP.sub (ws' := [(h0, .inr (8, [.ref q_now, .ref q_text, .int o_189.1, .ref q_row, .int v_rowMany, .int (0 : Int32), .int o_189.2.1, .int v_at_39, .int v_wrong_39, .ref q_read, .ref q_ranks, .ref q_distinct, .ref q_proper, .int v_properMany, .ref q_line, .ref q_order, .int v_orderMany, .ref q_then, .ref q_bestOrder, .ref q_lineThen, .ref q_undos, .ref q_was, .int v_undoMany, .int v_drawn, .ref q_kept, .ref q_isKept]))]) [0] rfl
                have hDc := hD.sub (ws' := [(h0, .inr (8, [.ref q_now, .ref q_text, .int o_189.1, .ref q_row, .int v_rowMany, .int (0 : Int32), .int o_189.2.1, .int v_at_39, .int v_wrong_39, .ref q_read, .ref q_ranks, .ref q_distinct, .ref q_proper, .int v_properMany, .ref q_line, .ref q_order, .int v_orderMany, .ref q_then, .ref q_bestOrder, .ref q_lineThen, .ref q_undos, .ref q_was, .int v_undoMany, .int v_drawn, .ref q_kept, .ref q_isKept]))]) [0] (by decide) rfl
                have hFc := va_free (wc := [(h0, .inr (8, [.ref q_now, .ref q_text, .int o_189.1, .ref q_row, .int v_rowMany, .int (0 : Int32), .int o_189.2.1, .int v_at_39, .int v_wrong_39, .ref q_read, .ref q_ranks, .ref q_distinct, .ref q_proper, .int v_properMany, .ref q_line, .ref q_order, .int v_orderMany, .ref q_then, .ref q_bestOrder, .ref q_lineThen, .ref q_undos, .ref q_was, .int v_undoMany, .int v_drawn, .ref q_kept, .ref q_isKept]))]) hD hS hA [0] rfl
                refine va_callv (va_runV (As := [.int v_at_39]) (rest := []) ⟨hx, hb, hml, hown, hts⟩ (c_X10_fault l dC dI cB cC cI cJ cZ cT h0 q_now q_text q_row q_read q_ranks q_distinct q_proper q_line q_order q_then q_bestOrder q_lineThen q_undos q_was q_kept q_isKept H.size o_189.1 v_rowMany (0 : Int32) o_189.2.1 v_at_39 v_wrong_39 v_properMany v_orderMany v_undoMany v_drawn v_at_39 o_223 hr_223) (cwV 1 hts gX10_table_X10_fault rfl rfl rfl (by decide +kernel) ⟨Nat.le_of_ble_eq_true rfl, Nat.le_of_ble_eq_true rfl⟩) ⟨blW, va_recv hK hP (ci := 8) (q0 := 0) rfl rfl, fun U hU hW => ⟨rfl, by rw [hU], by rw [hU]; exact hPc, va_K.moved hW.alike hK, hDc.weaken (fun _ _ _ _ => trivial)⟩⟩ rfl rfl hl.1 rfl (lv_room (Nat.le_of_ble_eq_true rfl)) dX10_table_78 ⟨Nat.le_of_ble_eq_true rfl, Nat.le_of_ble_eq_true rfl⟩) hS (fun q _ h => hFc q h) hFc (fun u_223 t_223 H locs ht hvm e_223 hB hz1 hk1 hS => ?_)
                obtain ⟨hP1, -, hD1⟩ := hB
                rw [ht] at hP1
                obtain ⟨hP, hD⟩ := va_join (wr := [(q_now, .inl (cJ, 120, .inr (.inl v_now))), (q_text, .inl (cB, 80, .inl v_text)), (q_read, .inl (cI, 480, .inl v_read_39)), (q_undos, .inl (cJ, 960, .inr (.inl v_undos))), (q_was, .inl (cJ, 120, .inr (.inl v_was)))]) (w1 := [(h0, .inr (8, [.ref q_now, .ref q_text, .int o_189.1, .ref q_row, .int v_rowMany, .int (0 : Int32), .int o_189.2.1, .int v_at_39, .int o_223, .ref q_read, .ref q_ranks, .ref q_distinct, .ref q_proper, .int v_properMany, .ref q_line, .ref q_order, .int v_orderMany, .ref q_then, .ref q_bestOrder, .ref q_lineThen, .ref q_undos, .ref q_was, .int v_undoMany, .int v_drawn, .ref q_kept, .ref q_isKept]))]) hP hD [0] [1, 2, 3, 4, 5] rfl rfl (by decide) (by decide) hk1 hFc hP1 hD1
                replace hP := hP.sub (ws' := [(h0, .inr (8, [.ref q_now, .ref q_text, .int o_189.1, .ref q_row, .int v_rowMany, .int (0 : Int32), .int o_189.2.1, .int v_at_39, .int o_223, .ref q_read, .ref q_ranks, .ref q_distinct, .ref q_proper, .int v_properMany, .ref q_line, .ref q_order, .int v_orderMany, .ref q_then, .ref q_bestOrder, .ref q_lineThen, .ref q_undos, .ref q_was, .int v_undoMany, .int v_drawn, .ref q_kept, .ref q_isKept])), (q_now, .inl (cJ, 120, .inr (.inl v_now))), (q_text, .inl (cB, 80, .inl v_text)), (q_read, .inl (cI, 480, .inl v_read_39)), (q_undos, .inl (cJ, 960, .inr (.inl v_undos))), (q_was, .inl (cJ, 120, .inr (.inl v_was)))]) [5, 0, 1, 2, 3, 4] rfl
                replace hD := hD.sub (ws' := [(h0, .inr (8, [.ref q_now, .ref q_text, .int o_189.1, .ref q_row, .int v_rowMany, .int (0 : Int32), .int o_189.2.1, .int v_at_39, .int o_223, .ref q_read, .ref q_ranks, .ref q_distinct, .ref q_proper, .int v_properMany, .ref q_line, .ref q_order, .int v_orderMany, .ref q_then, .ref q_bestOrder, .ref q_lineThen, .ref q_undos, .ref q_was, .int v_undoMany, .int v_drawn, .ref q_kept, .ref q_isKept])), (q_now, .inl (cJ, 120, .inr (.inl v_now))), (q_text, .inl (cB, 80, .inl v_text)), (q_read, .inl (cI, 480, .inl v_read_39)), (q_undos, .inl (cJ, 960, .inr (.inl v_undos))), (q_was, .inl (cJ, 120, .inr (.inl v_was)))]) [5, 0, 1, 2, 3, 4] (by decide) rfl
                refine lv_goto (tgt := 39) hx hb dX10_table_81 (by decide) ?_
                exact ih x2_39 v_at_39 o_223 v_read_39 w H _ ls h hP hD hS (lv_sub hl [1, 2, 3] rfl) K
    obtain ⟨w_225, hw_225, h⟩ := ob h
    refine LP_225 fu (0 : Int32) o_191.2.1 v_195 v_read w_225 H _ ls hw_225 hP hD hS (lv_sub hl [1, 2, 0] rfl) (fun H locs ls hP hD hS hl => ?_)
    refine lv_aload_n hx hb dX10_table_107 rfl (lv_at hl 0 rfl) ?_
    obtain ⟨o_226, hr_226, h⟩ := ob h
    have hPc := hP.sub (ws' := [(h0, .inr (8, [.ref q_now, .ref q_text, .int o_189.1, .ref q_row, .int v_rowMany, .int (0 : Int32), .int o_189.2.1, .int w_225.2.1, .int w_225.2.2.1, .ref q_read, .ref q_ranks, .ref q_distinct, .ref q_proper, .int v_properMany, .ref q_line, .ref q_order, .int v_orderMany, .ref q_then, .ref q_bestOrder, .ref q_lineThen, .ref q_undos, .ref q_was, .int v_undoMany, .int v_drawn, .ref q_kept, .ref q_isKept]))]) [0] rfl
    have hDc := hD.sub (ws' := [(h0, .inr (8, [.ref q_now, .ref q_text, .int o_189.1, .ref q_row, .int v_rowMany, .int (0 : Int32), .int o_189.2.1, .int w_225.2.1, .int w_225.2.2.1, .ref q_read, .ref q_ranks, .ref q_distinct, .ref q_proper, .int v_properMany, .ref q_line, .ref q_order, .int v_orderMany, .ref q_then, .ref q_bestOrder, .ref q_lineThen, .ref q_undos, .ref q_was, .int v_undoMany, .int v_drawn, .ref q_kept, .ref q_isKept]))]) [0] (by decide) rfl
    have hFc := va_free (wc := [(h0, .inr (8, [.ref q_now, .ref q_text, .int o_189.1, .ref q_row, .int v_rowMany, .int (0 : Int32), .int o_189.2.1, .int w_225.2.1, .int w_225.2.2.1, .ref q_read, .ref q_ranks, .ref q_distinct, .ref q_proper, .int v_properMany, .ref q_line, .ref q_order, .int v_orderMany, .ref q_then, .ref q_bestOrder, .ref q_lineThen, .ref q_undos, .ref q_was, .int v_undoMany, .int v_drawn, .ref q_kept, .ref q_isKept]))]) hD hS hA [0] rfl
    refine va_calli (va_runV (As := []) (rest := []) ⟨hx, hb, hml, hown, hts⟩ (c_X10_wasRight l dC dI cB cC cI cJ cZ cT h0 q_now q_text q_row q_read q_ranks q_distinct q_proper q_line q_order q_then q_bestOrder q_lineThen q_undos q_was q_kept q_isKept H.size o_189.1 v_rowMany (0 : Int32) o_189.2.1 w_225.2.1 w_225.2.2.1 v_properMany v_orderMany v_undoMany v_drawn o_226 hr_226) (cwV 0 hts gX10_table_X10_wasRight rfl rfl rfl (by decide +kernel) ⟨Nat.le_of_ble_eq_true rfl, Nat.le_of_ble_eq_true rfl⟩) ⟨blW, va_recv hK hP (ci := 8) (q0 := 0) rfl rfl, fun U hU hW => ⟨rfl, by rw [hU], by rw [hU]; exact hPc, va_K.moved hW.alike hK, hDc.weaken (fun _ _ _ _ => trivial)⟩⟩ rfl rfl hl.1 rfl (lv_room (Nat.le_of_ble_eq_true rfl)) dX10_table_108 ⟨Nat.le_of_ble_eq_true rfl, Nat.le_of_ble_eq_true rfl⟩) hS (fun q _ h => hFc q h) hFc (fun r_226 u_226 t_226 H locs ht hvm e_226 hB hz1 hk1 hS => ?_)
    obtain ⟨hP1, -, hD1⟩ := hB
    rw [ht] at hP1
    obtain ⟨hP, hD⟩ := va_join (wr := [(q_now, .inl (cJ, 120, .inr (.inl v_now))), (q_text, .inl (cB, 80, .inl v_text)), (q_read, .inl (cI, 480, .inl w_225.2.2.2)), (q_undos, .inl (cJ, 960, .inr (.inl v_undos))), (q_was, .inl (cJ, 120, .inr (.inl v_was)))]) (w1 := [(h0, .inr (8, [.ref q_now, .ref q_text, .int o_189.1, .ref q_row, .int v_rowMany, .int (0 : Int32), .int o_189.2.1, .int w_225.2.1, .int o_226.2, .ref q_read, .ref q_ranks, .ref q_distinct, .ref q_proper, .int v_properMany, .ref q_line, .ref q_order, .int v_orderMany, .ref q_then, .ref q_bestOrder, .ref q_lineThen, .ref q_undos, .ref q_was, .int v_undoMany, .int v_drawn, .ref q_kept, .ref q_isKept]))]) hP hD [0] [1, 2, 3, 4, 5] rfl rfl (by decide) (by decide) hk1 hFc hP1 hD1
    replace hP := hP.sub (ws' := [(h0, .inr (8, [.ref q_now, .ref q_text, .int o_189.1, .ref q_row, .int v_rowMany, .int (0 : Int32), .int o_189.2.1, .int w_225.2.1, .int o_226.2, .ref q_read, .ref q_ranks, .ref q_distinct, .ref q_proper, .int v_properMany, .ref q_line, .ref q_order, .int v_orderMany, .ref q_then, .ref q_bestOrder, .ref q_lineThen, .ref q_undos, .ref q_was, .int v_undoMany, .int v_drawn, .ref q_kept, .ref q_isKept])), (q_now, .inl (cJ, 120, .inr (.inl v_now))), (q_text, .inl (cB, 80, .inl v_text)), (q_read, .inl (cI, 480, .inl w_225.2.2.2)), (q_undos, .inl (cJ, 960, .inr (.inl v_undos))), (q_was, .inl (cJ, 120, .inr (.inl v_was)))]) [5, 0, 1, 2, 3, 4] rfl
    replace hD := hD.sub (ws' := [(h0, .inr (8, [.ref q_now, .ref q_text, .int o_189.1, .ref q_row, .int v_rowMany, .int (0 : Int32), .int o_189.2.1, .int w_225.2.1, .int o_226.2, .ref q_read, .ref q_ranks, .ref q_distinct, .ref q_proper, .int v_properMany, .ref q_line, .ref q_order, .int v_orderMany, .ref q_then, .ref q_bestOrder, .ref q_lineThen, .ref q_undos, .ref q_was, .int v_undoMany, .int v_drawn, .ref q_kept, .ref q_isKept])), (q_now, .inl (cJ, 120, .inr (.inl v_now))), (q_text, .inl (cB, 80, .inl v_text)), (q_read, .inl (cI, 480, .inl w_225.2.2.2)), (q_undos, .inl (cJ, 960, .inr (.inl v_undos))), (q_was, .inl (cJ, 120, .inr (.inl v_was)))]) [5, 0, 1, 2, 3, 4] (by decide) rfl
    subst e_226
    refine lv_if_ne (tgt := 121) hx hb dX10_table_111 (by decide) (fun c_228 => ?_) (fun c_228 => ?_)
    · replace h := on c_228 h
      refine lv_aload_n hx hb dX10_table_121 rfl (lv_at hl 0 rfl) ?_
      obtain ⟨o_229, hr_229, h⟩ := ob h
      have hPc := hP.sub (ws' := [(h0, .inr (8, [.ref q_now, .ref q_text, .int o_189.1, .ref q_row, .int v_rowMany, .int (0 : Int32), .int o_189.2.1, .int w_225.2.1, .int o_226.2, .ref q_read, .ref q_ranks, .ref q_distinct, .ref q_proper, .int v_properMany, .ref q_line, .ref q_order, .int v_orderMany, .ref q_then, .ref q_bestOrder, .ref q_lineThen, .ref q_undos, .ref q_was, .int v_undoMany, .int v_drawn, .ref q_kept, .ref q_isKept])), (q_now, .inl (cJ, 120, .inr (.inl v_now))), (q_undos, .inl (cJ, 960, .inr (.inl v_undos))), (q_was, .inl (cJ, 120, .inr (.inl v_was)))]) [0, 1, 4, 5] rfl
      have hDc := hD.sub (ws' := [(h0, .inr (8, [.ref q_now, .ref q_text, .int o_189.1, .ref q_row, .int v_rowMany, .int (0 : Int32), .int o_189.2.1, .int w_225.2.1, .int o_226.2, .ref q_read, .ref q_ranks, .ref q_distinct, .ref q_proper, .int v_properMany, .ref q_line, .ref q_order, .int v_orderMany, .ref q_then, .ref q_bestOrder, .ref q_lineThen, .ref q_undos, .ref q_was, .int v_undoMany, .int v_drawn, .ref q_kept, .ref q_isKept])), (q_now, .inl (cJ, 120, .inr (.inl v_now))), (q_undos, .inl (cJ, 960, .inr (.inl v_undos))), (q_was, .inl (cJ, 120, .inr (.inl v_was)))]) [0, 1, 4, 5] (by decide) rfl
      have hFc := va_free (wc := [(h0, .inr (8, [.ref q_now, .ref q_text, .int o_189.1, .ref q_row, .int v_rowMany, .int (0 : Int32), .int o_189.2.1, .int w_225.2.1, .int o_226.2, .ref q_read, .ref q_ranks, .ref q_distinct, .ref q_proper, .int v_properMany, .ref q_line, .ref q_order, .int v_orderMany, .ref q_then, .ref q_bestOrder, .ref q_lineThen, .ref q_undos, .ref q_was, .int v_undoMany, .int v_drawn, .ref q_kept, .ref q_isKept])), (q_now, .inl (cJ, 120, .inr (.inl v_now))), (q_undos, .inl (cJ, 960, .inr (.inl v_undos))), (q_was, .inl (cJ, 120, .inr (.inl v_was)))]) hD hS hA [0, 1, 4, 5] rfl
      refine va_callv (va_runV (As := []) (rest := []) ⟨hx, hb, hml, hown, hts⟩ (c_X10_change l dC dI cB cC cI cJ cZ cT h0 q_now q_text q_row q_read q_ranks q_distinct q_proper q_line q_order q_then q_bestOrder q_lineThen q_undos q_was q_kept q_isKept H.size o_189.1 v_rowMany (0 : Int32) o_189.2.1 w_225.2.1 o_226.2 v_properMany v_orderMany v_undoMany v_drawn v_now v_undos v_was o_229 hr_229) (cwV 0 hts gX10_table_X10_change rfl rfl rfl (by decide +kernel) ⟨Nat.le_of_ble_eq_true rfl, Nat.le_of_ble_eq_true rfl⟩) ⟨blW, va_recv hK hP (ci := 8) (q0 := 0) rfl rfl, fun U hU hW => ⟨rfl, by rw [hU], by rw [hU]; exact hPc, va_K.moved hW.alike hK, hDc.weaken (fun _ _ _ _ => trivial)⟩⟩ rfl rfl hl.1 rfl (lv_room (Nat.le_of_ble_eq_true rfl)) dX10_table_122 ⟨Nat.le_of_ble_eq_true rfl, Nat.le_of_ble_eq_true rfl⟩) hS (fun q _ h => hFc q h) hFc (fun u_229 t_229 H locs ht hvm e_229 hB hz1 hk1 hS => ?_)
      obtain ⟨hP1, -, hD1⟩ := hB
      rw [ht] at hP1
      obtain ⟨hP, hD⟩ := va_join (wr := [(q_text, .inl (cB, 80, .inl v_text)), (q_read, .inl (cI, 480, .inl w_225.2.2.2))]) (w1 := [(h0, .inr (8, [.ref q_now, .ref q_text, .int o_189.1, .ref q_row, .int v_rowMany, .int (0 : Int32), .int o_189.2.1, .int w_225.2.1, .int o_226.2, .ref q_read, .ref q_ranks, .ref q_distinct, .ref q_proper, .int v_properMany, .ref q_line, .ref q_order, .int v_orderMany, .ref q_then, .ref q_bestOrder, .ref q_lineThen, .ref q_undos, .ref q_was, .int o_229.1, .int v_drawn, .ref q_kept, .ref q_isKept])), (q_now, .inl (cJ, 120, .inr (.inl v_now))), (q_undos, .inl (cJ, 960, .inr (.inl o_229.2.1))), (q_was, .inl (cJ, 120, .inr (.inl o_229.2.2)))]) hP hD [0, 1, 4, 5] [2, 3] rfl rfl (by decide) (by decide) hk1 hFc hP1 hD1
      replace hP := hP.sub (ws' := [(h0, .inr (8, [.ref q_now, .ref q_text, .int o_189.1, .ref q_row, .int v_rowMany, .int (0 : Int32), .int o_189.2.1, .int w_225.2.1, .int o_226.2, .ref q_read, .ref q_ranks, .ref q_distinct, .ref q_proper, .int v_properMany, .ref q_line, .ref q_order, .int v_orderMany, .ref q_then, .ref q_bestOrder, .ref q_lineThen, .ref q_undos, .ref q_was, .int o_229.1, .int v_drawn, .ref q_kept, .ref q_isKept])), (q_now, .inl (cJ, 120, .inr (.inl v_now))), (q_text, .inl (cB, 80, .inl v_text)), (q_read, .inl (cI, 480, .inl w_225.2.2.2)), (q_undos, .inl (cJ, 960, .inr (.inl o_229.2.1))), (q_was, .inl (cJ, 120, .inr (.inl o_229.2.2)))]) [2, 3, 0, 1, 4, 5] rfl
      replace hD := hD.sub (ws' := [(h0, .inr (8, [.ref q_now, .ref q_text, .int o_189.1, .ref q_row, .int v_rowMany, .int (0 : Int32), .int o_189.2.1, .int w_225.2.1, .int o_226.2, .ref q_read, .ref q_ranks, .ref q_distinct, .ref q_proper, .int v_properMany, .ref q_line, .ref q_order, .int v_orderMany, .ref q_then, .ref q_bestOrder, .ref q_lineThen, .ref q_undos, .ref q_was, .int o_229.1, .int v_drawn, .ref q_kept, .ref q_isKept])), (q_now, .inl (cJ, 120, .inr (.inl v_now))), (q_text, .inl (cB, 80, .inl v_text)), (q_read, .inl (cI, 480, .inl w_225.2.2.2)), (q_undos, .inl (cJ, 960, .inr (.inl o_229.2.1))), (q_was, .inl (cJ, 120, .inr (.inl o_229.2.2)))]) [2, 3, 0, 1, 4, 5] (by decide) rfl
      refine lv_aload_n hx hb dX10_table_125 rfl (lv_at hl 0 rfl) ?_
      refine lv_iload_n hx hb dX10_table_126 rfl (lv_at hl 1 rfl) ?_
      refine lv_iload_n hx hb dX10_table_127 rfl (lv_at hl 2 rfl) ?_
      obtain ⟨o_231, hr_231, h⟩ := ob h
      have hPc := hP.sub (ws' := [(h0, .inr (8, [.ref q_now, .ref q_text, .int o_189.1, .ref q_row, .int v_rowMany, .int (0 : Int32), .int o_189.2.1, .int w_225.2.1, .int o_226.2, .ref q_read, .ref q_ranks, .ref q_distinct, .ref q_proper, .int v_properMany, .ref q_line, .ref q_order, .int v_orderMany, .ref q_then, .ref q_bestOrder, .ref q_lineThen, .ref q_undos, .ref q_was, .int o_229.1, .int v_drawn, .ref q_kept, .ref q_isKept])), (q_now, .inl (cJ, 120, .inr (.inl v_now))), (q_read, .inl (cI, 480, .inl w_225.2.2.2))]) [0, 1, 3] rfl
      have hDc := hD.sub (ws' := [(h0, .inr (8, [.ref q_now, .ref q_text, .int o_189.1, .ref q_row, .int v_rowMany, .int (0 : Int32), .int o_189.2.1, .int w_225.2.1, .int o_226.2, .ref q_read, .ref q_ranks, .ref q_distinct, .ref q_proper, .int v_properMany, .ref q_line, .ref q_order, .int v_orderMany, .ref q_then, .ref q_bestOrder, .ref q_lineThen, .ref q_undos, .ref q_was, .int o_229.1, .int v_drawn, .ref q_kept, .ref q_isKept])), (q_now, .inl (cJ, 120, .inr (.inl v_now))), (q_read, .inl (cI, 480, .inl w_225.2.2.2))]) [0, 1, 3] (by decide) rfl
      have hFc := va_free (wc := [(h0, .inr (8, [.ref q_now, .ref q_text, .int o_189.1, .ref q_row, .int v_rowMany, .int (0 : Int32), .int o_189.2.1, .int w_225.2.1, .int o_226.2, .ref q_read, .ref q_ranks, .ref q_distinct, .ref q_proper, .int v_properMany, .ref q_line, .ref q_order, .int v_orderMany, .ref q_then, .ref q_bestOrder, .ref q_lineThen, .ref q_undos, .ref q_was, .int o_229.1, .int v_drawn, .ref q_kept, .ref q_isKept])), (q_now, .inl (cJ, 120, .inr (.inl v_now))), (q_read, .inl (cI, 480, .inl w_225.2.2.2))]) hD hS hA [0, 1, 3] rfl
      refine va_callv (va_runV (As := [.int o_191.1, .int w_225.1]) (rest := []) ⟨hx, hb, hml, hown, hts⟩ (c_X10_layTable l dC dI cB cC cI cJ cZ cT h0 q_now q_text q_row q_read q_ranks q_distinct q_proper q_line q_order q_then q_bestOrder q_lineThen q_undos q_was q_kept q_isKept H.size o_189.1 v_rowMany (0 : Int32) o_189.2.1 w_225.2.1 o_226.2 v_properMany v_orderMany o_229.1 v_drawn v_now w_225.2.2.2 o_191.1 w_225.1 o_231 hr_231) (cwV 2 hts gX10_table_X10_layTable rfl rfl rfl (by decide +kernel) ⟨Nat.le_of_ble_eq_true rfl, Nat.le_of_ble_eq_true rfl⟩) ⟨blW, va_recv hK hP (ci := 8) (q0 := 0) rfl rfl, fun U hU hW => ⟨rfl, by rw [hU], by rw [hU]; exact hPc, va_K.moved hW.alike hK, hDc.weaken (fun _ _ _ _ => trivial)⟩⟩ rfl rfl hl.1 rfl (lv_room (Nat.le_of_ble_eq_true rfl)) dX10_table_128 ⟨Nat.le_of_ble_eq_true rfl, Nat.le_of_ble_eq_true rfl⟩) hS (fun q _ h => hFc q h) hFc (fun u_231 t_231 H locs ht hvm e_231 hB hz1 hk1 hS => ?_)
      obtain ⟨hP1, -, hD1⟩ := hB
      rw [ht] at hP1
      obtain ⟨hP, hD⟩ := va_join (wr := [(q_text, .inl (cB, 80, .inl v_text)), (q_undos, .inl (cJ, 960, .inr (.inl o_229.2.1))), (q_was, .inl (cJ, 120, .inr (.inl o_229.2.2)))]) (w1 := [(h0, .inr (8, [.ref q_now, .ref q_text, .int o_189.1, .ref q_row, .int v_rowMany, .int (0 : Int32), .int o_189.2.1, .int w_225.2.1, .int o_226.2, .ref q_read, .ref q_ranks, .ref q_distinct, .ref q_proper, .int v_properMany, .ref q_line, .ref q_order, .int v_orderMany, .ref q_then, .ref q_bestOrder, .ref q_lineThen, .ref q_undos, .ref q_was, .int o_229.1, .int v_drawn, .ref q_kept, .ref q_isKept])), (q_now, .inl (cJ, 120, .inr (.inl o_231))), (q_read, .inl (cI, 480, .inl w_225.2.2.2))]) hP hD [0, 1, 3] [2, 4, 5] rfl rfl (by decide) (by decide) hk1 hFc hP1 hD1
      replace hP := hP.sub (ws' := [(h0, .inr (8, [.ref q_now, .ref q_text, .int o_189.1, .ref q_row, .int v_rowMany, .int (0 : Int32), .int o_189.2.1, .int w_225.2.1, .int o_226.2, .ref q_read, .ref q_ranks, .ref q_distinct, .ref q_proper, .int v_properMany, .ref q_line, .ref q_order, .int v_orderMany, .ref q_then, .ref q_bestOrder, .ref q_lineThen, .ref q_undos, .ref q_was, .int o_229.1, .int v_drawn, .ref q_kept, .ref q_isKept])), (q_now, .inl (cJ, 120, .inr (.inl o_231))), (q_text, .inl (cB, 80, .inl v_text)), (q_read, .inl (cI, 480, .inl w_225.2.2.2)), (q_undos, .inl (cJ, 960, .inr (.inl o_229.2.1))), (q_was, .inl (cJ, 120, .inr (.inl o_229.2.2)))]) [3, 4, 0, 5, 1, 2] rfl
      replace hD := hD.sub (ws' := [(h0, .inr (8, [.ref q_now, .ref q_text, .int o_189.1, .ref q_row, .int v_rowMany, .int (0 : Int32), .int o_189.2.1, .int w_225.2.1, .int o_226.2, .ref q_read, .ref q_ranks, .ref q_distinct, .ref q_proper, .int v_properMany, .ref q_line, .ref q_order, .int v_orderMany, .ref q_then, .ref q_bestOrder, .ref q_lineThen, .ref q_undos, .ref q_was, .int o_229.1, .int v_drawn, .ref q_kept, .ref q_isKept])), (q_now, .inl (cJ, 120, .inr (.inl o_231))), (q_text, .inl (cB, 80, .inl v_text)), (q_read, .inl (cI, 480, .inl w_225.2.2.2)), (q_undos, .inl (cJ, 960, .inr (.inl o_229.2.1))), (q_was, .inl (cJ, 120, .inr (.inl o_229.2.2)))]) [3, 4, 0, 5, 1, 2] (by decide) rfl
      refine lv_iload_n hx hb dX10_table_131 rfl (lv_at hl 2 rfl) ?_
      rw [hQQ]
      have ho := Option.some.inj h
      subst ho
      exact W.iret hx hb hr (fun t ht hW => ⟨⟨_, (), rfl, rfl, by rw [ht]; exact hP, va_K.moved hW.alike hK, hD⟩, hS.F ht⟩) hS.2.2 dX10_table_132
    · replace h := op c_228 h
      refine lv_iconst (v := -1) hx hb dX10_table_114 (by decide) ?_
      refine lv_aload_n hx hb dX10_table_115 rfl (lv_at hl 0 rfl) ?_
      refine va_get (D := (dC, dI)) (ci := 8) (v := .int o_226.2) (C := RX10) (T := TX10) (N := 26) hx hb hts hi_X10 hown hK hP 0 rfl rfl 8 (by decide) (hts _ (List.mem_of_getElem? (i := 5) rfl)) (fun _ h9 => h9) rfl dX10_table_116 ?_
      refine lv_isub hx hb dX10_table_119 ?_
      rw [hQQ]
      have ho := Option.some.inj h
      subst ho
      exact W.iret hx hb hr (fun t ht hW => ⟨⟨_, (), rfl, rfl, by rw [ht]; exact hP, va_K.moved hW.alike hK, hD⟩, hS.F ht⟩) hS.2.2 dX10_table_120
  replace h := hv_195
  refine lv_if_eq (tgt := 37) hx hb dX10_table_18 (by decide) (fun c_204 => ?_) (fun c_204 => ?_)
  · replace h := op c_204 h
    have ho := Option.some.inj h
    subst ho
    exact J_195 H _ ls hP hD hS (lv_sub hl [1, 0] rfl)
  · replace h := on c_204 h
    refine lv_iload_n hx hb dX10_table_21 rfl (lv_at hl 0 rfl) ?_
    refine lv_bipush (v := 16) hx hb dX10_table_22 (by decide) ?_
    obtain ⟨v_205, hv_205, h⟩ := ob h
    have J_205 : ∀ (H : Heap) (locs : List Loc) (ls : Array Slot), va_P (dC, dI) vwCl [(h0, .inr (8, [.ref q_now, .ref q_text, .int o_189.1, .ref q_row, .int v_rowMany, .int (0 : Int32), .int o_189.2.1, .int o_191.2.1, .int v_205, .ref q_read, .ref q_ranks, .ref q_distinct, .ref q_proper, .int v_properMany, .ref q_line, .ref q_order, .int v_orderMany, .ref q_then, .ref q_bestOrder, .ref q_lineThen, .ref q_undos, .ref q_was, .int v_undoMany, .int v_drawn, .ref q_kept, .ref q_isKept])), (q_now, .inl (cJ, 120, .inr (.inl v_now))), (q_text, .inl (cB, 80, .inl v_text)), (q_read, .inl (cI, 480, .inl v_read)), (q_undos, .inl (cJ, 960, .inr (.inl v_undos))), (q_was, .inl (cJ, 120, .inr (.inl v_was)))] H → va_D A [(h0, .inr (8, [.ref q_now, .ref q_text, .int o_189.1, .ref q_row, .int v_rowMany, .int (0 : Int32), .int o_189.2.1, .int o_191.2.1, .int v_205, .ref q_read, .ref q_ranks, .ref q_distinct, .ref q_proper, .int v_properMany, .ref q_line, .ref q_order, .int v_orderMany, .ref q_then, .ref q_bestOrder, .ref q_lineThen, .ref q_undos, .ref q_was, .int v_undoMany, .int v_drawn, .ref q_kept, .ref q_isKept])), (q_now, .inl (cJ, 120, .inr (.inl v_now))), (q_text, .inl (cB, 80, .inl v_text)), (q_read, .inl (cI, 480, .inl v_read)), (q_undos, .inl (cJ, 960, .inr (.inl v_undos))), (q_was, .inl (cJ, 120, .inr (.inl v_was)))] → va_S A s.heap H locs → lv_has ls 4 [(0, .ref h0), (1, .int o_191.1)] → W p l e rm_X10_table s m args below meth c H locs 0 0 QQ (F0 m 37 ls []) := by
      intro H locs ls hP hD hS hl
      have ho := Option.some.inj h
      subst ho
      exact J_195 H _ ls hP hD hS (lv_sub hl [0, 1] rfl)
    replace h := hv_205
    refine lv_icmp_le (tgt := 37) hx hb dX10_table_24 (by decide) (fun c_209 => ?_) (fun c_209 => ?_)
    · replace h := op c_209 h
      have ho := Option.some.inj h
      subst ho
      exact J_205 H _ ls hP hD hS (lv_sub hl [1, 0] rfl)
    · replace h := on c_209 h
      refine lv_aload_n hx hb dX10_table_27 rfl (lv_at hl 1 rfl) ?_
      refine lv_aload_n hx hb dX10_table_28 rfl (lv_at hl 1 rfl) ?_
      refine va_get (D := (dC, dI)) (ci := 8) (v := .int o_191.2.1) (C := RX10) (T := TX10) (N := 26) hx hb hts hi_X10 hown hK hP 0 rfl rfl 7 (by decide) (hts _ (List.mem_of_getElem? (i := 2) rfl)) (fun _ h9 => h9) rfl dX10_table_29 ?_
      refine lv_iconst (v := 1) hx hb dX10_table_32 (by decide) ?_
      refine lv_isub hx hb dX10_table_33 ?_
      obtain ⟨o_210, hr_210, h⟩ := ob h
      have hPc := hP.sub (ws' := [(h0, .inr (8, [.ref q_now, .ref q_text, .int o_189.1, .ref q_row, .int v_rowMany, .int (0 : Int32), .int o_189.2.1, .int o_191.2.1, .int o_191.2.2, .ref q_read, .ref q_ranks, .ref q_distinct, .ref q_proper, .int v_properMany, .ref q_line, .ref q_order, .int v_orderMany, .ref q_then, .ref q_bestOrder, .ref q_lineThen, .ref q_undos, .ref q_was, .int v_undoMany, .int v_drawn, .ref q_kept, .ref q_isKept]))]) [0] rfl
      have hDc := hD.sub (ws' := [(h0, .inr (8, [.ref q_now, .ref q_text, .int o_189.1, .ref q_row, .int v_rowMany, .int (0 : Int32), .int o_189.2.1, .int o_191.2.1, .int o_191.2.2, .ref q_read, .ref q_ranks, .ref q_distinct, .ref q_proper, .int v_properMany, .ref q_line, .ref q_order, .int v_orderMany, .ref q_then, .ref q_bestOrder, .ref q_lineThen, .ref q_undos, .ref q_was, .int v_undoMany, .int v_drawn, .ref q_kept, .ref q_isKept]))]) [0] (by decide) rfl
      have hFc := va_free (wc := [(h0, .inr (8, [.ref q_now, .ref q_text, .int o_189.1, .ref q_row, .int v_rowMany, .int (0 : Int32), .int o_189.2.1, .int o_191.2.1, .int o_191.2.2, .ref q_read, .ref q_ranks, .ref q_distinct, .ref q_proper, .int v_properMany, .ref q_line, .ref q_order, .int v_orderMany, .ref q_then, .ref q_bestOrder, .ref q_lineThen, .ref q_undos, .ref q_was, .int v_undoMany, .int v_drawn, .ref q_kept, .ref q_isKept]))]) hD hS hA [0] rfl
      refine va_callv (va_runV (As := [.int (o_191.2.1 - (1 : Int32))]) (rest := []) ⟨hx, hb, hml, hown, hts⟩ (c_X10_fault l dC dI cB cC cI cJ cZ cT h0 q_now q_text q_row q_read q_ranks q_distinct q_proper q_line q_order q_then q_bestOrder q_lineThen q_undos q_was q_kept q_isKept H.size o_189.1 v_rowMany (0 : Int32) o_189.2.1 o_191.2.1 o_191.2.2 v_properMany v_orderMany v_undoMany v_drawn (o_191.2.1 - (1 : Int32)) o_210 hr_210) (cwV 1 hts gX10_table_X10_fault rfl rfl rfl (by decide +kernel) ⟨Nat.le_of_ble_eq_true rfl, Nat.le_of_ble_eq_true rfl⟩) ⟨blW, va_recv hK hP (ci := 8) (q0 := 0) rfl rfl, fun U hU hW => ⟨rfl, by rw [hU], by rw [hU]; exact hPc, va_K.moved hW.alike hK, hDc.weaken (fun _ _ _ _ => trivial)⟩⟩ rfl rfl hl.1 rfl (lv_room (Nat.le_of_ble_eq_true rfl)) dX10_table_34 ⟨Nat.le_of_ble_eq_true rfl, Nat.le_of_ble_eq_true rfl⟩) hS (fun q _ h => hFc q h) hFc (fun u_210 t_210 H locs ht hvm e_210 hB hz1 hk1 hS => ?_)
      obtain ⟨hP1, -, hD1⟩ := hB
      rw [ht] at hP1
      obtain ⟨hP, hD⟩ := va_join (wr := [(q_now, .inl (cJ, 120, .inr (.inl v_now))), (q_text, .inl (cB, 80, .inl v_text)), (q_read, .inl (cI, 480, .inl v_read)), (q_undos, .inl (cJ, 960, .inr (.inl v_undos))), (q_was, .inl (cJ, 120, .inr (.inl v_was)))]) (w1 := [(h0, .inr (8, [.ref q_now, .ref q_text, .int o_189.1, .ref q_row, .int v_rowMany, .int (0 : Int32), .int o_189.2.1, .int o_191.2.1, .int o_210, .ref q_read, .ref q_ranks, .ref q_distinct, .ref q_proper, .int v_properMany, .ref q_line, .ref q_order, .int v_orderMany, .ref q_then, .ref q_bestOrder, .ref q_lineThen, .ref q_undos, .ref q_was, .int v_undoMany, .int v_drawn, .ref q_kept, .ref q_isKept]))]) hP hD [0] [1, 2, 3, 4, 5] rfl rfl (by decide) (by decide) hk1 hFc hP1 hD1
      replace hP := hP.sub (ws' := [(h0, .inr (8, [.ref q_now, .ref q_text, .int o_189.1, .ref q_row, .int v_rowMany, .int (0 : Int32), .int o_189.2.1, .int o_191.2.1, .int o_210, .ref q_read, .ref q_ranks, .ref q_distinct, .ref q_proper, .int v_properMany, .ref q_line, .ref q_order, .int v_orderMany, .ref q_then, .ref q_bestOrder, .ref q_lineThen, .ref q_undos, .ref q_was, .int v_undoMany, .int v_drawn, .ref q_kept, .ref q_isKept])), (q_now, .inl (cJ, 120, .inr (.inl v_now))), (q_text, .inl (cB, 80, .inl v_text)), (q_read, .inl (cI, 480, .inl v_read)), (q_undos, .inl (cJ, 960, .inr (.inl v_undos))), (q_was, .inl (cJ, 120, .inr (.inl v_was)))]) [5, 0, 1, 2, 3, 4] rfl
      replace hD := hD.sub (ws' := [(h0, .inr (8, [.ref q_now, .ref q_text, .int o_189.1, .ref q_row, .int v_rowMany, .int (0 : Int32), .int o_189.2.1, .int o_191.2.1, .int o_210, .ref q_read, .ref q_ranks, .ref q_distinct, .ref q_proper, .int v_properMany, .ref q_line, .ref q_order, .int v_orderMany, .ref q_then, .ref q_bestOrder, .ref q_lineThen, .ref q_undos, .ref q_was, .int v_undoMany, .int v_drawn, .ref q_kept, .ref q_isKept])), (q_now, .inl (cJ, 120, .inr (.inl v_now))), (q_text, .inl (cB, 80, .inl v_text)), (q_read, .inl (cI, 480, .inl v_read)), (q_undos, .inl (cJ, 960, .inr (.inl v_undos))), (q_was, .inl (cJ, 120, .inr (.inl v_was)))]) [5, 0, 1, 2, 3, 4] (by decide) rfl
      have ho := Option.some.inj h
      subst ho
      exact J_205 H _ ls hP hD hS (lv_sub hl [1, 0] rfl)
def f_X10_kindOfWay (x0 : Int32) : Option Int32 :=
  (if (8 : Int32) ≤ x0 then (if x0 = (18 : Int32) then (some (4 : Int32)) else (if (18 : Int32) ≤ x0 then (some (-1 : Int32)) else (some (x0 - (10 : Int32))))) else (some x0))
abbrev rm_X10_kindOfWay : Room := { frames := 0, cells := 0, slots := 0, locals := 0 }
set_option maxHeartbeats 4000000 in
set_option maxRecDepth 100000 in
theorem c_X10_kindOfWay (l : Launch) (dC : Nat → ClassId) (dI : Nat → Nat → Nat) (cB cC cI cJ cZ cT : ClassId) (x0 : Int32) (o : Int32) (hf : f_X10_kindOfWay x0 = some o) : Met l yX10_kindOfWay wsX10_kindOfWay rm_X10_kindOfWay (va_Pc [.int x0] (fun _ => True)) (vp_Si (fun r => o = r)) 0 0 (fun _ => False) := by
  refine Met.ofW (cc := cX10_kindOfWay) (maxL := 1) (ret := (some .int)) (by decide +kernel) rfl ?_
  intro p e s m args below meth c s₁ B hml hv
  obtain ⟨hav, -⟩ := hv
  have hx := B.exec
  have hb := B.bytes
  have hr := B.returns
  have hts := atoms_spec (ws := wsX10_kindOfWay) B.pre
  have hown : s.vm.findClass RX10 = some m.cls := findClass_of_methodNamed B.named
  have hlocks := B.notSynchronized
  refine wstart (rm := rm_X10_kindOfWay) hav (Nat.le_of_ble_eq_true rfl) (fun QQ ls hQQ hl => ?_)
  have hl : lv_has ls 1 [(0, .int x0)] := hl
  have h := hf
  unfold f_X10_kindOfWay at h
  refine lv_iload_n hx hb dX10_kindOfWay_0 rfl (lv_at hl 0 rfl) ?_
  refine lv_bipush (v := 8) hx hb dX10_kindOfWay_1 (by decide) ?_
  refine lv_icmp_ge (tgt := 10) hx hb dX10_kindOfWay_3 (by decide) (fun c_233 => ?_) (fun c_233 => ?_)
  · replace h := op c_233 h
    refine lv_iload_n hx hb dX10_kindOfWay_10 rfl (lv_at hl 0 rfl) ?_
    refine lv_bipush (v := 18) hx hb dX10_kindOfWay_11 (by decide) ?_
    refine lv_icmp_ne (tgt := 20) hx hb dX10_kindOfWay_13 (by decide) (fun c_234 => ?_) (fun c_234 => ?_)
    · replace h := on c_234 h
      refine lv_iload_n hx hb dX10_kindOfWay_20 rfl (lv_at hl 0 rfl) ?_
      refine lv_bipush (v := 18) hx hb dX10_kindOfWay_21 (by decide) ?_
      refine lv_icmp_ge (tgt := 33) hx hb dX10_kindOfWay_23 (by decide) (fun c_235 => ?_) (fun c_235 => ?_)
      · replace h := op c_235 h
        refine lv_iconst (v := -1) hx hb dX10_kindOfWay_33 (by decide) ?_
        rw [hQQ]
        exact W.iret hx hb hr (fun t ht hW => ⟨_, rfl, (Option.some.inj h).symm, ht⟩) (fun q hq => absurd hq List.not_mem_nil) dX10_kindOfWay_34
      · replace h := on c_235 h
        refine lv_iload_n hx hb dX10_kindOfWay_26 rfl (lv_at hl 0 rfl) ?_
        refine lv_bipush (v := 10) hx hb dX10_kindOfWay_27 (by decide) ?_
        refine lv_isub hx hb dX10_kindOfWay_29 ?_
        refine lv_goto (tgt := 34) hx hb dX10_kindOfWay_30 (by decide) ?_
        rw [hQQ]
        exact W.iret hx hb hr (fun t ht hW => ⟨_, rfl, (Option.some.inj h).symm, ht⟩) (fun q hq => absurd hq List.not_mem_nil) dX10_kindOfWay_34
    · replace h := op c_234 h
      refine lv_iconst (v := 4) hx hb dX10_kindOfWay_16 (by decide) ?_
      refine lv_goto (tgt := 34) hx hb dX10_kindOfWay_17 (by decide) ?_
      rw [hQQ]
      exact W.iret hx hb hr (fun t ht hW => ⟨_, rfl, (Option.some.inj h).symm, ht⟩) (fun q hq => absurd hq List.not_mem_nil) dX10_kindOfWay_34
  · replace h := on c_233 h
    refine lv_iload_n hx hb dX10_kindOfWay_6 rfl (lv_at hl 0 rfl) ?_
    refine lv_goto (tgt := 34) hx hb dX10_kindOfWay_7 (by decide) ?_
    rw [hQQ]
    exact W.iret hx hb hr (fun t ht hW => ⟨_, rfl, (Option.some.inj h).symm, ht⟩) (fun q hq => absurd hq List.not_mem_nil) dX10_kindOfWay_34
def f_X10_widens (x0 : Int32) (x1 : Int32) : Option Bool :=
  (if x0 < 0 ∨ 8 ≤ (x0).toNatClampNeg then none else (if (((wid (x0).toNatClampNeg) >>> (x1 &&& 31)) &&& (1 : Int32)) = (1 : Int32) then (some true) else (some false)))
abbrev rm_X10_widens : Room := { frames := 0, cells := 0, slots := 0, locals := 0 }
set_option maxHeartbeats 4000000 in
set_option maxRecDepth 100000 in
theorem c_X10_widens (l : Launch) (dC : Nat → ClassId) (dI : Nat → Nat → Nat) (cB cC cI cJ cZ cT : ClassId) (x0 : Int32) (x1 : Int32) (o : Bool) (hf : f_X10_widens x0 x1 = some o) : Met l yX10_widens wsX10_widens rm_X10_widens (va_Pc [.int x0, .int x1] (fun U => SX (fun _ => False) U U.heap)) (vp_Si (fun r => b2i o = r)) 0 0 (fun _ => False) := by
  refine Met.ofW (cc := cX10_widens) (maxL := 2) (ret := (some .boolean)) (by decide +kernel) rfl ?_
  intro p e s m args below meth c s₁ B hml hv
  obtain ⟨hav, hX⟩ := hv
  have hx := B.exec
  have hb := B.bytes
  have hr := B.returns
  have hts := atoms_spec (ws := wsX10_widens) B.pre
  have hown : s.vm.findClass RX10 = some m.cls := findClass_of_methodNamed B.named
  have hlocks := B.notSynchronized
  have hS : va_S (fun _ => False) s.heap s.heap [] := va_S.rf
  obtain ⟨⟨tM, hZM, hTM⟩, ⟨tC, hZC, hTC⟩, -, -⟩ := id hX
  refine wstart (rm := rm_X10_widens) hav (Nat.le_of_ble_eq_true rfl) (fun QQ ls hQQ hl => ?_)
  have hl : lv_has ls 2 [(0, .int x0), (1, .int x1)] := hl
  have h := hf
  unfold f_X10_widens at h
  refine va_gets hx hb hZM hS hown (hts _ (List.mem_of_getElem? (i := 1) rfl)) (fun _ h9 => h9) dX10_widens_0 ?_
  refine lv_iload_n hx hb dX10_widens_3 rfl (lv_at hl 0 rfl) ?_
  obtain ⟨hi_236, h⟩ := og h
  refine va_ti (v := .int (wid (x0).toNatClampNeg)) hx hb hTM hS hi_236 rfl dX10_widens_4 ?_
  refine lv_iload_n hx hb dX10_widens_5 rfl (lv_at hl 1 rfl) ?_
  refine lv_ishr hx hb dX10_widens_6 ?_
  refine lv_iconst (v := 1) hx hb dX10_widens_7 (by decide) ?_
  refine lv_iand hx hb dX10_widens_8 ?_
  refine lv_iconst (v := 1) hx hb dX10_widens_9 (by decide) ?_
  refine lv_icmp_ne (tgt := 17) hx hb dX10_widens_10 (by decide) (fun c_237 => ?_) (fun c_237 => ?_)
  · replace h := on c_237 h
    refine lv_iconst (v := 0) hx hb dX10_widens_17 (by decide) ?_
    rw [hQQ]
    exact W.zret hx hb hr rfl (fun t ht hW => ⟨_, rfl, (congrArg b2i (Option.some.inj h).symm), ht⟩) (fun q hq => absurd hq List.not_mem_nil) dX10_widens_18
  · replace h := op c_237 h
    refine lv_iconst (v := 1) hx hb dX10_widens_13 (by decide) ?_
    refine lv_goto (tgt := 18) hx hb dX10_widens_14 (by decide) ?_
    rw [hQQ]
    exact W.zret hx hb hr rfl (fun t ht hW => ⟨_, rfl, (congrArg b2i (Option.some.inj h).symm), ht⟩) (fun q hq => absurd hq List.not_mem_nil) dX10_widens_18
def f_X10_canHold (x1 : Int32) (x2 : Int32) : Option Bool :=
  (if x1 ≤ (10 : Int32) then (if x1 < (8 : Int32) then (if x1 = (9 : Int32) then (if x2 = (19 : Int32) then (some true) else (some false)) else (if x1 = (10 : Int32) then (if x2 = (20 : Int32) then (some true) else (some false)) else ((f_X10_kindOfWay x2).bind (fun o_242 => (if x1 = (8 : Int32) then (if o_242 = (4 : Int32) then (if x2 ≤ (7 : Int32) then (some false) else (some true)) else (some false)) else (if o_242 = (-1 : Int32) then (some false) else ((f_X10_widens o_242 x1).bind (fun o_246 => (if (b2i o_246) = 0 then (some false) else (some true)))))))))) else (if x2 = (21 : Int32) then (some true) else (if x1 = (9 : Int32) then (if x2 = (19 : Int32) then (some true) else (some false)) else (if x1 = (10 : Int32) then (if x2 = (20 : Int32) then (some true) else (some false)) else ((f_X10_kindOfWay x2).bind (fun o_256 => (if x1 = (8 : Int32) then (if o_256 = (4 : Int32) then (if x2 ≤ (7 : Int32) then (some false) else (some true)) else (some false)) else (if o_256 = (-1 : Int32) then (some false) else ((f_X10_widens o_256 x1).bind (fun o_260 => (if (b2i o_260) = 0 then (some false) else (some true)))))))))))) else (some false))
abbrev rm_X10_canHold : Room := { frames := 1, cells := 0, slots := 0, locals := 21 }
set_option maxHeartbeats 4000000 in
set_option maxRecDepth 100000 in
theorem c_X10_canHold (l : Launch) (dC : Nat → ClassId) (dI : Nat → Nat → Nat) (cB cC cI cJ cZ cT : ClassId) (h0 : Nat) (x1 : Int32) (x2 : Int32) (o : Bool) (hf : f_X10_canHold x1 x2 = some o) : Met l yX10_canHold wsX10_canHold rm_X10_canHold (va_Pc [.ref h0, .int x1, .int x2] (fun U => SX (fun _ => False) U U.heap)) (vp_Si (fun r => b2i o = r)) 0 0 (fun _ => False) := by
  refine Met.ofW (cc := cX10_canHold) (maxL := 4) (ret := (some .boolean)) (by decide +kernel) rfl ?_
  intro p e s m args below meth c s₁ B hml hv
  obtain ⟨hav, hX⟩ := hv
  have hx := B.exec
  have hb := B.bytes
  have hr := B.returns
  have hts := atoms_spec (ws := wsX10_canHold) B.pre
  have hown : s.vm.findClass RX10 = some m.cls := findClass_of_methodNamed B.named
  have hlocks := B.notSynchronized
  have hS : va_S (fun _ => False) s.heap s.heap [] := va_S.rf
  refine wstart (rm := rm_X10_canHold) hav (Nat.le_of_ble_eq_true rfl) (fun QQ ls hQQ hl => ?_)
  have hl : lv_has ls 4 [(0, .ref h0), (1, .int x1), (2, .int x2)] := hl
  have h := hf
  unfold f_X10_canHold at h
  refine lv_iload_n hx hb dX10_canHold_0 rfl (lv_at hl 1 rfl) ?_
  refine lv_bipush (v := 10) hx hb dX10_canHold_1 (by decide) ?_
  refine lv_icmp_le (tgt := 8) hx hb dX10_canHold_3 (by decide) (fun c_238 => ?_) (fun c_238 => ?_)
  · replace h := op c_238 h
    refine lv_iload_n hx hb dX10_canHold_8 rfl (lv_at hl 1 rfl) ?_
    refine lv_bipush (v := 8) hx hb dX10_canHold_9 (by decide) ?_
    refine lv_icmp_lt (tgt := 22) hx hb dX10_canHold_11 (by decide) (fun c_239 => ?_) (fun c_239 => ?_)
    · replace h := op c_239 h
      refine lv_iload_n hx hb dX10_canHold_22 rfl (lv_at hl 1 rfl) ?_
      refine lv_bipush (v := 9) hx hb dX10_canHold_23 (by decide) ?_
      refine lv_icmp_ne (tgt := 40) hx hb dX10_canHold_25 (by decide) (fun c_240 => ?_) (fun c_240 => ?_)
      · replace h := on c_240 h
        refine lv_iload_n hx hb dX10_canHold_40 rfl (lv_at hl 1 rfl) ?_
        refine lv_bipush (v := 10) hx hb dX10_canHold_41 (by decide) ?_
        refine lv_icmp_ne (tgt := 58) hx hb dX10_canHold_43 (by decide) (fun c_241 => ?_) (fun c_241 => ?_)
        · replace h := on c_241 h
          refine lv_iload_n hx hb dX10_canHold_58 rfl (lv_at hl 2 rfl) ?_
          obtain ⟨o_242, hr_242, h⟩ := ob h
          refine vp_callSi (va_Run.run (va_runS (As := [.int x2]) (rest := []) ⟨hx, hb, hml, hown, hts⟩ (c_X10_kindOfWay l dC dI cB cC cI cJ cZ cT x2 o_242 hr_242) (va_cwS 1 hts gX10_canHold_X10_kindOfWay rfl rfl rfl (by decide +kernel) ⟨Nat.le_of_ble_eq_true rfl, Nat.le_of_ble_eq_true rfl⟩) ⟨blT, fun U hU hW => ⟨rfl, trivial⟩⟩ rfl rfl hl.1 rfl (lv_room (Nat.le_of_ble_eq_true rfl)) dX10_canHold_59 ⟨Nat.le_of_ble_eq_true rfl, Nat.le_of_ble_eq_true rfl⟩)) (fun r_242 e_242 => ?_)
          subst e_242
          refine lv_istore_n (lv' := [(3, .int o_242), (0, .ref h0), (1, .int x1), (2, .int x2)]) hx hb dX10_canHold_62 rfl hl (by decide) rfl (fun ls hl => ?_)
          refine lv_iload_n hx hb dX10_canHold_63 rfl (lv_at hl 2 rfl) ?_
          refine lv_bipush (v := 8) hx hb dX10_canHold_64 (by decide) ?_
          refine lv_icmp_ne (tgt := 86) hx hb dX10_canHold_66 (by decide) (fun c_244 => ?_) (fun c_244 => ?_)
          · replace h := on c_244 h
            refine lv_iload_n hx hb dX10_canHold_86 rfl (lv_at hl 0 rfl) ?_
            refine lv_iconst (v := -1) hx hb dX10_canHold_87 (by decide) ?_
            refine lv_icmp_eq (tgt := 103) hx hb dX10_canHold_88 (by decide) (fun c_245 => ?_) (fun c_245 => ?_)
            · replace h := op c_245 h
              refine lv_iconst (v := 0) hx hb dX10_canHold_103 (by decide) ?_
              rw [hQQ]
              exact W.zret hx hb hr rfl (fun t ht hW => ⟨_, rfl, (congrArg b2i (Option.some.inj h).symm), ht⟩) (fun q hq => absurd hq List.not_mem_nil) dX10_canHold_104
            · replace h := on c_245 h
              refine lv_iload_n hx hb dX10_canHold_91 rfl (lv_at hl 0 rfl) ?_
              refine lv_iload_n hx hb dX10_canHold_92 rfl (lv_at hl 2 rfl) ?_
              obtain ⟨o_246, hr_246, h⟩ := ob h
              refine vp_callSi (va_Run.run (va_runS (As := [.int o_242, .int x1]) (rest := []) ⟨hx, hb, hml, hown, hts⟩ (c_X10_widens l dC dI cB cC cI cJ cZ cT o_242 x1 o_246 hr_246) (va_cwS 2 hts gX10_canHold_X10_widens rfl rfl rfl (by decide +kernel) ⟨Nat.le_of_ble_eq_true rfl, Nat.le_of_ble_eq_true rfl⟩) ⟨blTX, fun U hU hW => ⟨rfl, by show SX (fun _ => False) U U.heap; rw [hU]; exact SX.use hW hS hX⟩⟩ rfl rfl hl.1 rfl (lv_room (Nat.le_of_ble_eq_true rfl)) dX10_canHold_93 ⟨Nat.le_of_ble_eq_true rfl, Nat.le_of_ble_eq_true rfl⟩)) (fun r_246 e_246 => ?_)
              subst e_246
              refine lv_if_eq (tgt := 103) hx hb dX10_canHold_96 (by decide) (fun c_248 => ?_) (fun c_248 => ?_)
              · replace h := op c_248 h
                refine lv_iconst (v := 0) hx hb dX10_canHold_103 (by decide) ?_
                rw [hQQ]
                exact W.zret hx hb hr rfl (fun t ht hW => ⟨_, rfl, (congrArg b2i (Option.some.inj h).symm), ht⟩) (fun q hq => absurd hq List.not_mem_nil) dX10_canHold_104
              · replace h := on c_248 h
                refine lv_iconst (v := 1) hx hb dX10_canHold_99 (by decide) ?_
                refine lv_goto (tgt := 104) hx hb dX10_canHold_100 (by decide) ?_
                rw [hQQ]
                exact W.zret hx hb hr rfl (fun t ht hW => ⟨_, rfl, (congrArg b2i (Option.some.inj h).symm), ht⟩) (fun q hq => absurd hq List.not_mem_nil) dX10_canHold_104
          · replace h := op c_244 h
            refine lv_iload_n hx hb dX10_canHold_69 rfl (lv_at hl 0 rfl) ?_
            refine lv_iconst (v := 4) hx hb dX10_canHold_70 (by decide) ?_
            refine lv_icmp_ne (tgt := 84) hx hb dX10_canHold_71 (by decide) (fun c_249 => ?_) (fun c_249 => ?_)
            · replace h := on c_249 h
              refine lv_iconst (v := 0) hx hb dX10_canHold_84 (by decide) ?_
              rw [hQQ]
              exact W.zret hx hb hr rfl (fun t ht hW => ⟨_, rfl, (congrArg b2i (Option.some.inj h).symm), ht⟩) (fun q hq => absurd hq List.not_mem_nil) dX10_canHold_85
            · replace h := op c_249 h
              refine lv_iload_n hx hb dX10_canHold_74 rfl (lv_at hl 3 rfl) ?_
              refine lv_bipush (v := 7) hx hb dX10_canHold_75 (by decide) ?_
              refine lv_icmp_le (tgt := 84) hx hb dX10_canHold_77 (by decide) (fun c_250 => ?_) (fun c_250 => ?_)
              · replace h := op c_250 h
                refine lv_iconst (v := 0) hx hb dX10_canHold_84 (by decide) ?_
                rw [hQQ]
                exact W.zret hx hb hr rfl (fun t ht hW => ⟨_, rfl, (congrArg b2i (Option.some.inj h).symm), ht⟩) (fun q hq => absurd hq List.not_mem_nil) dX10_canHold_85
              · replace h := on c_250 h
                refine lv_iconst (v := 1) hx hb dX10_canHold_80 (by decide) ?_
                refine lv_goto (tgt := 85) hx hb dX10_canHold_81 (by decide) ?_
                rw [hQQ]
                exact W.zret hx hb hr rfl (fun t ht hW => ⟨_, rfl, (congrArg b2i (Option.some.inj h).symm), ht⟩) (fun q hq => absurd hq List.not_mem_nil) dX10_canHold_85
        · replace h := op c_241 h
          refine lv_iload_n hx hb dX10_canHold_46 rfl (lv_at hl 2 rfl) ?_
          refine lv_bipush (v := 20) hx hb dX10_canHold_47 (by decide) ?_
          refine lv_icmp_ne (tgt := 56) hx hb dX10_canHold_49 (by decide) (fun c_251 => ?_) (fun c_251 => ?_)
          · replace h := on c_251 h
            refine lv_iconst (v := 0) hx hb dX10_canHold_56 (by decide) ?_
            rw [hQQ]
            exact W.zret hx hb hr rfl (fun t ht hW => ⟨_, rfl, (congrArg b2i (Option.some.inj h).symm), ht⟩) (fun q hq => absurd hq List.not_mem_nil) dX10_canHold_57
          · replace h := op c_251 h
            refine lv_iconst (v := 1) hx hb dX10_canHold_52 (by decide) ?_
            refine lv_goto (tgt := 57) hx hb dX10_canHold_53 (by decide) ?_
            rw [hQQ]
            exact W.zret hx hb hr rfl (fun t ht hW => ⟨_, rfl, (congrArg b2i (Option.some.inj h).symm), ht⟩) (fun q hq => absurd hq List.not_mem_nil) dX10_canHold_57
      · replace h := op c_240 h
        refine lv_iload_n hx hb dX10_canHold_28 rfl (lv_at hl 2 rfl) ?_
        refine lv_bipush (v := 19) hx hb dX10_canHold_29 (by decide) ?_
        refine lv_icmp_ne (tgt := 38) hx hb dX10_canHold_31 (by decide) (fun c_252 => ?_) (fun c_252 => ?_)
        · replace h := on c_252 h
          refine lv_iconst (v := 0) hx hb dX10_canHold_38 (by decide) ?_
          rw [hQQ]
          exact W.zret hx hb hr rfl (fun t ht hW => ⟨_, rfl, (congrArg b2i (Option.some.inj h).symm), ht⟩) (fun q hq => absurd hq List.not_mem_nil) dX10_canHold_39
        · replace h := op c_252 h
          refine lv_iconst (v := 1) hx hb dX10_canHold_34 (by decide) ?_
          refine lv_goto (tgt := 39) hx hb dX10_canHold_35 (by decide) ?_
          rw [hQQ]
          exact W.zret hx hb hr rfl (fun t ht hW => ⟨_, rfl, (congrArg b2i (Option.some.inj h).symm), ht⟩) (fun q hq => absurd hq List.not_mem_nil) dX10_canHold_39
    · replace h := on c_239 h
      refine lv_iload_n hx hb dX10_canHold_14 rfl (lv_at hl 2 rfl) ?_
      refine lv_bipush (v := 21) hx hb dX10_canHold_15 (by decide) ?_
      refine lv_icmp_ne (tgt := 22) hx hb dX10_canHold_17 (by decide) (fun c_253 => ?_) (fun c_253 => ?_)
      · replace h := on c_253 h
        refine lv_iload_n hx hb dX10_canHold_22 rfl (lv_at hl 1 rfl) ?_
        refine lv_bipush (v := 9) hx hb dX10_canHold_23 (by decide) ?_
        refine lv_icmp_ne (tgt := 40) hx hb dX10_canHold_25 (by decide) (fun c_254 => ?_) (fun c_254 => ?_)
        · replace h := on c_254 h
          refine lv_iload_n hx hb dX10_canHold_40 rfl (lv_at hl 1 rfl) ?_
          refine lv_bipush (v := 10) hx hb dX10_canHold_41 (by decide) ?_
          refine lv_icmp_ne (tgt := 58) hx hb dX10_canHold_43 (by decide) (fun c_255 => ?_) (fun c_255 => ?_)
          · replace h := on c_255 h
            refine lv_iload_n hx hb dX10_canHold_58 rfl (lv_at hl 2 rfl) ?_
            obtain ⟨o_256, hr_256, h⟩ := ob h
            refine vp_callSi (va_Run.run (va_runS (As := [.int x2]) (rest := []) ⟨hx, hb, hml, hown, hts⟩ (c_X10_kindOfWay l dC dI cB cC cI cJ cZ cT x2 o_256 hr_256) (va_cwS 1 hts gX10_canHold_X10_kindOfWay rfl rfl rfl (by decide +kernel) ⟨Nat.le_of_ble_eq_true rfl, Nat.le_of_ble_eq_true rfl⟩) ⟨blT, fun U hU hW => ⟨rfl, trivial⟩⟩ rfl rfl hl.1 rfl (lv_room (Nat.le_of_ble_eq_true rfl)) dX10_canHold_59 ⟨Nat.le_of_ble_eq_true rfl, Nat.le_of_ble_eq_true rfl⟩)) (fun r_256 e_256 => ?_)
            subst e_256
            refine lv_istore_n (lv' := [(3, .int o_256), (0, .ref h0), (1, .int x1), (2, .int x2)]) hx hb dX10_canHold_62 rfl hl (by decide) rfl (fun ls hl => ?_)
            refine lv_iload_n hx hb dX10_canHold_63 rfl (lv_at hl 2 rfl) ?_
            refine lv_bipush (v := 8) hx hb dX10_canHold_64 (by decide) ?_
            refine lv_icmp_ne (tgt := 86) hx hb dX10_canHold_66 (by decide) (fun c_258 => ?_) (fun c_258 => ?_)
            · replace h := on c_258 h
              refine lv_iload_n hx hb dX10_canHold_86 rfl (lv_at hl 0 rfl) ?_
              refine lv_iconst (v := -1) hx hb dX10_canHold_87 (by decide) ?_
              refine lv_icmp_eq (tgt := 103) hx hb dX10_canHold_88 (by decide) (fun c_259 => ?_) (fun c_259 => ?_)
              · replace h := op c_259 h
                refine lv_iconst (v := 0) hx hb dX10_canHold_103 (by decide) ?_
                rw [hQQ]
                exact W.zret hx hb hr rfl (fun t ht hW => ⟨_, rfl, (congrArg b2i (Option.some.inj h).symm), ht⟩) (fun q hq => absurd hq List.not_mem_nil) dX10_canHold_104
              · replace h := on c_259 h
                refine lv_iload_n hx hb dX10_canHold_91 rfl (lv_at hl 0 rfl) ?_
                refine lv_iload_n hx hb dX10_canHold_92 rfl (lv_at hl 2 rfl) ?_
                obtain ⟨o_260, hr_260, h⟩ := ob h
                refine vp_callSi (va_Run.run (va_runS (As := [.int o_256, .int x1]) (rest := []) ⟨hx, hb, hml, hown, hts⟩ (c_X10_widens l dC dI cB cC cI cJ cZ cT o_256 x1 o_260 hr_260) (va_cwS 2 hts gX10_canHold_X10_widens rfl rfl rfl (by decide +kernel) ⟨Nat.le_of_ble_eq_true rfl, Nat.le_of_ble_eq_true rfl⟩) ⟨blTX, fun U hU hW => ⟨rfl, by show SX (fun _ => False) U U.heap; rw [hU]; exact SX.use hW hS hX⟩⟩ rfl rfl hl.1 rfl (lv_room (Nat.le_of_ble_eq_true rfl)) dX10_canHold_93 ⟨Nat.le_of_ble_eq_true rfl, Nat.le_of_ble_eq_true rfl⟩)) (fun r_260 e_260 => ?_)
                subst e_260
                refine lv_if_eq (tgt := 103) hx hb dX10_canHold_96 (by decide) (fun c_262 => ?_) (fun c_262 => ?_)
                · replace h := op c_262 h
                  refine lv_iconst (v := 0) hx hb dX10_canHold_103 (by decide) ?_
                  rw [hQQ]
                  exact W.zret hx hb hr rfl (fun t ht hW => ⟨_, rfl, (congrArg b2i (Option.some.inj h).symm), ht⟩) (fun q hq => absurd hq List.not_mem_nil) dX10_canHold_104
                · replace h := on c_262 h
                  refine lv_iconst (v := 1) hx hb dX10_canHold_99 (by decide) ?_
                  refine lv_goto (tgt := 104) hx hb dX10_canHold_100 (by decide) ?_
                  rw [hQQ]
                  exact W.zret hx hb hr rfl (fun t ht hW => ⟨_, rfl, (congrArg b2i (Option.some.inj h).symm), ht⟩) (fun q hq => absurd hq List.not_mem_nil) dX10_canHold_104
            · replace h := op c_258 h
              refine lv_iload_n hx hb dX10_canHold_69 rfl (lv_at hl 0 rfl) ?_
              refine lv_iconst (v := 4) hx hb dX10_canHold_70 (by decide) ?_
              refine lv_icmp_ne (tgt := 84) hx hb dX10_canHold_71 (by decide) (fun c_263 => ?_) (fun c_263 => ?_)
              · replace h := on c_263 h
                refine lv_iconst (v := 0) hx hb dX10_canHold_84 (by decide) ?_
                rw [hQQ]
                exact W.zret hx hb hr rfl (fun t ht hW => ⟨_, rfl, (congrArg b2i (Option.some.inj h).symm), ht⟩) (fun q hq => absurd hq List.not_mem_nil) dX10_canHold_85
              · replace h := op c_263 h
                refine lv_iload_n hx hb dX10_canHold_74 rfl (lv_at hl 3 rfl) ?_
                refine lv_bipush (v := 7) hx hb dX10_canHold_75 (by decide) ?_
                refine lv_icmp_le (tgt := 84) hx hb dX10_canHold_77 (by decide) (fun c_264 => ?_) (fun c_264 => ?_)
                · replace h := op c_264 h
                  refine lv_iconst (v := 0) hx hb dX10_canHold_84 (by decide) ?_
                  rw [hQQ]
                  exact W.zret hx hb hr rfl (fun t ht hW => ⟨_, rfl, (congrArg b2i (Option.some.inj h).symm), ht⟩) (fun q hq => absurd hq List.not_mem_nil) dX10_canHold_85
                · replace h := on c_264 h
                  refine lv_iconst (v := 1) hx hb dX10_canHold_80 (by decide) ?_
                  refine lv_goto (tgt := 85) hx hb dX10_canHold_81 (by decide) ?_
                  rw [hQQ]
                  exact W.zret hx hb hr rfl (fun t ht hW => ⟨_, rfl, (congrArg b2i (Option.some.inj h).symm), ht⟩) (fun q hq => absurd hq List.not_mem_nil) dX10_canHold_85
          · replace h := op c_255 h
            refine lv_iload_n hx hb dX10_canHold_46 rfl (lv_at hl 2 rfl) ?_
            refine lv_bipush (v := 20) hx hb dX10_canHold_47 (by decide) ?_
            refine lv_icmp_ne (tgt := 56) hx hb dX10_canHold_49 (by decide) (fun c_265 => ?_) (fun c_265 => ?_)
            · replace h := on c_265 h
              refine lv_iconst (v := 0) hx hb dX10_canHold_56 (by decide) ?_
              rw [hQQ]
              exact W.zret hx hb hr rfl (fun t ht hW => ⟨_, rfl, (congrArg b2i (Option.some.inj h).symm), ht⟩) (fun q hq => absurd hq List.not_mem_nil) dX10_canHold_57
            · replace h := op c_265 h
              refine lv_iconst (v := 1) hx hb dX10_canHold_52 (by decide) ?_
              refine lv_goto (tgt := 57) hx hb dX10_canHold_53 (by decide) ?_
              rw [hQQ]
              exact W.zret hx hb hr rfl (fun t ht hW => ⟨_, rfl, (congrArg b2i (Option.some.inj h).symm), ht⟩) (fun q hq => absurd hq List.not_mem_nil) dX10_canHold_57
        · replace h := op c_254 h
          refine lv_iload_n hx hb dX10_canHold_28 rfl (lv_at hl 2 rfl) ?_
          refine lv_bipush (v := 19) hx hb dX10_canHold_29 (by decide) ?_
          refine lv_icmp_ne (tgt := 38) hx hb dX10_canHold_31 (by decide) (fun c_266 => ?_) (fun c_266 => ?_)
          · replace h := on c_266 h
            refine lv_iconst (v := 0) hx hb dX10_canHold_38 (by decide) ?_
            rw [hQQ]
            exact W.zret hx hb hr rfl (fun t ht hW => ⟨_, rfl, (congrArg b2i (Option.some.inj h).symm), ht⟩) (fun q hq => absurd hq List.not_mem_nil) dX10_canHold_39
          · replace h := op c_266 h
            refine lv_iconst (v := 1) hx hb dX10_canHold_34 (by decide) ?_
            refine lv_goto (tgt := 39) hx hb dX10_canHold_35 (by decide) ?_
            rw [hQQ]
            exact W.zret hx hb hr rfl (fun t ht hW => ⟨_, rfl, (congrArg b2i (Option.some.inj h).symm), ht⟩) (fun q hq => absurd hq List.not_mem_nil) dX10_canHold_39
      · replace h := op c_253 h
        refine lv_iconst (v := 1) hx hb dX10_canHold_20 (by decide) ?_
        rw [hQQ]
        exact W.zret hx hb hr rfl (fun t ht hW => ⟨_, rfl, (congrArg b2i (Option.some.inj h).symm), ht⟩) (fun q hq => absurd hq List.not_mem_nil) dX10_canHold_21
  · replace h := on c_238 h
    refine lv_iconst (v := 0) hx hb dX10_canHold_6 (by decide) ?_
    rw [hQQ]
    exact W.zret hx hb hr rfl (fun t ht hW => ⟨_, rfl, (congrArg b2i (Option.some.inj h).symm), ht⟩) (fun q hq => absurd hq List.not_mem_nil) dX10_canHold_7
def f_X10_whyNoRow (v_now : Nat → Int64) (x1 : Int32) : Option Int32 :=
  ((f_X10_kindOf v_now x1).bind (fun o_267 => (if o_267 = (11 : Int32) then (some (2 : Int32)) else ((f_X10_kindOf v_now x1).bind (fun o_270 => (if o_270 < (12 : Int32) then (some (0 : Int32)) else (some (3 : Int32))))))))
abbrev rm_X10_whyNoRow : Room := { frames := 1, cells := 0, slots := 0, locals := 21 }
set_option maxHeartbeats 4000000 in
set_option maxRecDepth 100000 in
theorem c_X10_whyNoRow (l : Launch) (dC : Nat → ClassId) (dI : Nat → Nat → Nat) (cB cC cI cJ cZ cT : ClassId) (h0 q_now q_text q_row q_read q_ranks q_distinct q_proper q_line q_order q_then q_bestOrder q_lineThen q_undos q_was q_kept q_isKept : Nat) (v_typed : Int32) (v_rowMany : Int32) (v_thrown : Int32) (v_length : Int32) (v_at : Int32) (v_wrong : Int32) (v_properMany : Int32) (v_orderMany : Int32) (v_undoMany : Int32) (v_drawn : Int32) (v_now : Nat → Int64) (x1 : Int32) (o : Int32) (hf : f_X10_whyNoRow v_now x1 = some o) : Met l yX10_whyNoRow wsX10_whyNoRow rm_X10_whyNoRow (va_Pc [.ref h0, .int x1] (fun U => va_P (dC, dI) vwCl [(h0, .inr (8, [.ref q_now, .ref q_text, .int v_typed, .ref q_row, .int v_rowMany, .int v_thrown, .int v_length, .int v_at, .int v_wrong, .ref q_read, .ref q_ranks, .ref q_distinct, .ref q_proper, .int v_properMany, .ref q_line, .ref q_order, .int v_orderMany, .ref q_then, .ref q_bestOrder, .ref q_lineThen, .ref q_undos, .ref q_was, .int v_undoMany, .int v_drawn, .ref q_kept, .ref q_isKept])), (q_now, .inl (cJ, 120, .inr (.inl v_now)))] U.heap ∧ va_K (dC, dI) vwCl (tyA cB cC cI cJ cZ cT) U)) (vp_Si (fun r => o = r)) 0 0 (fun _ => False) := by
  refine Met.ofW (cc := cX10_whyNoRow) (maxL := 2) (ret := (some .int)) (by decide +kernel) rfl ?_
  intro p e s m args below meth c s₁ B hml hv
  obtain ⟨hav, hP, hK⟩ := hv
  have hx := B.exec
  have hb := B.bytes
  have hr := B.returns
  have hts := atoms_spec (ws := wsX10_whyNoRow) B.pre
  have hown : s.vm.findClass RX10 = some m.cls := findClass_of_methodNamed B.named
  have hlocks := B.notSynchronized
  refine wstart (rm := rm_X10_whyNoRow) hav (Nat.le_of_ble_eq_true rfl) (fun QQ ls hQQ hl => ?_)
  have hl : lv_has ls 2 [(0, .ref h0), (1, .int x1)] := hl
  have h := hf
  unfold f_X10_whyNoRow at h
  refine lv_aload_n hx hb dX10_whyNoRow_0 rfl (lv_at hl 0 rfl) ?_
  refine lv_iload_n hx hb dX10_whyNoRow_1 rfl (lv_at hl 1 rfl) ?_
  obtain ⟨o_267, hr_267, h⟩ := ob h
  refine vp_callSi (va_Run.run (va_runV (As := [.int x1]) (rest := []) ⟨hx, hb, hml, hown, hts⟩ (c_X10_kindOf l dC dI cB cC cI cJ cZ cT h0 q_now q_text q_row q_read q_ranks q_distinct q_proper q_line q_order q_then q_bestOrder q_lineThen q_undos q_was q_kept q_isKept v_typed v_rowMany v_thrown v_length v_at v_wrong v_properMany v_orderMany v_undoMany v_drawn v_now x1 o_267 hr_267) (cwV 1 hts gX10_whyNoRow_X10_kindOf rfl rfl rfl (by decide +kernel) ⟨Nat.le_of_ble_eq_true rfl, Nat.le_of_ble_eq_true rfl⟩) ⟨blR, va_recv hK hP (ci := 8) (q0 := 0) rfl rfl, fun U hU hW => ⟨rfl, by rw [hU]; exact hP.sub [0, 1] rfl, va_K.moved hW.alike hK⟩⟩ rfl rfl hl.1 rfl (lv_room (Nat.le_of_ble_eq_true rfl)) dX10_whyNoRow_2 ⟨Nat.le_of_ble_eq_true rfl, Nat.le_of_ble_eq_true rfl⟩)) (fun r_267 e_267 => ?_)
  subst e_267
  refine lv_bipush (v := 11) hx hb dX10_whyNoRow_5 (by decide) ?_
  refine lv_icmp_ne (tgt := 14) hx hb dX10_whyNoRow_7 (by decide) (fun c_269 => ?_) (fun c_269 => ?_)
  · replace h := on c_269 h
    refine lv_aload_n hx hb dX10_whyNoRow_14 rfl (lv_at hl 0 rfl) ?_
    refine lv_iload_n hx hb dX10_whyNoRow_15 rfl (lv_at hl 1 rfl) ?_
    obtain ⟨o_270, hr_270, h⟩ := ob h
    refine vp_callSi (va_Run.run (va_runV (As := [.int x1]) (rest := []) ⟨hx, hb, hml, hown, hts⟩ (c_X10_kindOf l dC dI cB cC cI cJ cZ cT h0 q_now q_text q_row q_read q_ranks q_distinct q_proper q_line q_order q_then q_bestOrder q_lineThen q_undos q_was q_kept q_isKept v_typed v_rowMany v_thrown v_length v_at v_wrong v_properMany v_orderMany v_undoMany v_drawn v_now x1 o_270 hr_270) (cwV 1 hts gX10_whyNoRow_X10_kindOf rfl rfl rfl (by decide +kernel) ⟨Nat.le_of_ble_eq_true rfl, Nat.le_of_ble_eq_true rfl⟩) ⟨blR, va_recv hK hP (ci := 8) (q0 := 0) rfl rfl, fun U hU hW => ⟨rfl, by rw [hU]; exact hP.sub [0, 1] rfl, va_K.moved hW.alike hK⟩⟩ rfl rfl hl.1 rfl (lv_room (Nat.le_of_ble_eq_true rfl)) dX10_whyNoRow_16 ⟨Nat.le_of_ble_eq_true rfl, Nat.le_of_ble_eq_true rfl⟩)) (fun r_270 e_270 => ?_)
    subst e_270
    refine lv_bipush (v := 12) hx hb dX10_whyNoRow_19 (by decide) ?_
    refine lv_icmp_lt (tgt := 28) hx hb dX10_whyNoRow_21 (by decide) (fun c_272 => ?_) (fun c_272 => ?_)
    · replace h := op c_272 h
      refine lv_iconst (v := 0) hx hb dX10_whyNoRow_28 (by decide) ?_
      rw [hQQ]
      exact W.iret hx hb hr (fun t ht hW => ⟨_, rfl, (Option.some.inj h).symm, ht⟩) (fun q hq => absurd hq List.not_mem_nil) dX10_whyNoRow_29
    · replace h := on c_272 h
      refine lv_iconst (v := 3) hx hb dX10_whyNoRow_24 (by decide) ?_
      refine lv_goto (tgt := 29) hx hb dX10_whyNoRow_25 (by decide) ?_
      rw [hQQ]
      exact W.iret hx hb hr (fun t ht hW => ⟨_, rfl, (Option.some.inj h).symm, ht⟩) (fun q hq => absurd hq List.not_mem_nil) dX10_whyNoRow_29
  · replace h := op c_269 h
    refine lv_iconst (v := 2) hx hb dX10_whyNoRow_10 (by decide) ?_
    refine lv_goto (tgt := 29) hx hb dX10_whyNoRow_11 (by decide) ?_
    rw [hQQ]
    exact W.iret hx hb hr (fun t ht hW => ⟨_, rfl, (Option.some.inj h).symm, ht⟩) (fun q hq => absurd hq List.not_mem_nil) dX10_whyNoRow_29
def f_X10_whyNot (v_now : Nat → Int64) (x1 : Int32) (x2 : Int32) (x3 : Int32) (x4 : Int32) : Option Int32 :=
  ((f_X10_whyNoRow v_now x1).bind (fun o_273 => (if o_273 ≤ 0 then (if (8 : Int32) ≤ x3 then ((f_X10_isRow v_now x2).bind (fun o_277 => (if (b2i o_277) = 0 then (some (5 : Int32)) else (if x4 = 0 then (some (6 : Int32)) else (some (0 : Int32)))))) else ((f_X10_kindOf v_now x1).bind (fun o_281 => (if o_281 < (8 : Int32) then ((f_X10_isRow v_now x2).bind (fun o_284 => (if (b2i o_284) = 0 then (some (5 : Int32)) else (if x4 = 0 then (some (6 : Int32)) else (some (0 : Int32)))))) else (some (4 : Int32)))))) else (some o_273))))
abbrev rm_X10_whyNot : Room := { frames := 2, cells := 0, slots := 0, locals := 43 }
set_option maxHeartbeats 4000000 in
set_option maxRecDepth 100000 in
theorem c_X10_whyNot (l : Launch) (dC : Nat → ClassId) (dI : Nat → Nat → Nat) (cB cC cI cJ cZ cT : ClassId) (h0 q_now q_text q_row q_read q_ranks q_distinct q_proper q_line q_order q_then q_bestOrder q_lineThen q_undos q_was q_kept q_isKept : Nat) (v_typed : Int32) (v_rowMany : Int32) (v_thrown : Int32) (v_length : Int32) (v_at : Int32) (v_wrong : Int32) (v_properMany : Int32) (v_orderMany : Int32) (v_undoMany : Int32) (v_drawn : Int32) (v_now : Nat → Int64) (x1 : Int32) (x2 : Int32) (x3 : Int32) (x4 : Int32) (o : Int32) (hf : f_X10_whyNot v_now x1 x2 x3 x4 = some o) : Met l yX10_whyNot wsX10_whyNot rm_X10_whyNot (va_Pc [.ref h0, .int x1, .int x2, .int x3, .int x4] (fun U => va_P (dC, dI) vwCl [(h0, .inr (8, [.ref q_now, .ref q_text, .int v_typed, .ref q_row, .int v_rowMany, .int v_thrown, .int v_length, .int v_at, .int v_wrong, .ref q_read, .ref q_ranks, .ref q_distinct, .ref q_proper, .int v_properMany, .ref q_line, .ref q_order, .int v_orderMany, .ref q_then, .ref q_bestOrder, .ref q_lineThen, .ref q_undos, .ref q_was, .int v_undoMany, .int v_drawn, .ref q_kept, .ref q_isKept])), (q_now, .inl (cJ, 120, .inr (.inl v_now)))] U.heap ∧ va_K (dC, dI) vwCl (tyA cB cC cI cJ cZ cT) U)) (vp_Si (fun r => o = r)) 0 0 (fun _ => False) := by
  refine Met.ofW (cc := cX10_whyNot) (maxL := 6) (ret := (some .int)) (by decide +kernel) rfl ?_
  intro p e s m args below meth c s₁ B hml hv
  obtain ⟨hav, hP, hK⟩ := hv
  have hx := B.exec
  have hb := B.bytes
  have hr := B.returns
  have hts := atoms_spec (ws := wsX10_whyNot) B.pre
  have hown : s.vm.findClass RX10 = some m.cls := findClass_of_methodNamed B.named
  have hlocks := B.notSynchronized
  refine wstart (rm := rm_X10_whyNot) hav (Nat.le_of_ble_eq_true rfl) (fun QQ ls hQQ hl => ?_)
  have hl : lv_has ls 6 [(0, .ref h0), (1, .int x1), (2, .int x2), (3, .int x3), (4, .int x4)] := hl
  have h := hf
  unfold f_X10_whyNot at h
  refine lv_aload_n hx hb dX10_whyNot_0 rfl (lv_at hl 0 rfl) ?_
  refine lv_iload_n hx hb dX10_whyNot_1 rfl (lv_at hl 1 rfl) ?_
  obtain ⟨o_273, hr_273, h⟩ := ob h
  refine vp_callSi (va_Run.run (va_runV (As := [.int x1]) (rest := []) ⟨hx, hb, hml, hown, hts⟩ (c_X10_whyNoRow l dC dI cB cC cI cJ cZ cT h0 q_now q_text q_row q_read q_ranks q_distinct q_proper q_line q_order q_then q_bestOrder q_lineThen q_undos q_was q_kept q_isKept v_typed v_rowMany v_thrown v_length v_at v_wrong v_properMany v_orderMany v_undoMany v_drawn v_now x1 o_273 hr_273) (cwV 1 hts gX10_whyNot_X10_whyNoRow rfl rfl rfl (by decide +kernel) ⟨Nat.le_of_ble_eq_true rfl, Nat.le_of_ble_eq_true rfl⟩) ⟨blR, va_recv hK hP (ci := 8) (q0 := 0) rfl rfl, fun U hU hW => ⟨rfl, by rw [hU]; exact hP.sub [0, 1] rfl, va_K.moved hW.alike hK⟩⟩ rfl rfl hl.1 rfl (lv_room (Nat.le_of_ble_eq_true rfl)) dX10_whyNot_2 ⟨Nat.le_of_ble_eq_true rfl, Nat.le_of_ble_eq_true rfl⟩)) (fun r_273 e_273 => ?_)
  subst e_273
  refine lv_istore (lv' := [(5, .int o_273), (0, .ref h0), (1, .int x1), (2, .int x2), (3, .int x3), (4, .int x4)]) hx hb dX10_whyNot_5 hl (by decide) rfl (fun ls hl => ?_)
  refine lv_iload hx hb dX10_whyNot_7 (lv_at hl 0 rfl) ?_
  refine lv_if_le (tgt := 15) hx hb dX10_whyNot_9 (by decide) (fun c_275 => ?_) (fun c_275 => ?_)
  · replace h := op c_275 h
    refine lv_iload_n hx hb dX10_whyNot_15 rfl (lv_at hl 4 rfl) ?_
    refine lv_bipush (v := 8) hx hb dX10_whyNot_16 (by decide) ?_
    refine lv_icmp_ge (tgt := 33) hx hb dX10_whyNot_18 (by decide) (fun c_276 => ?_) (fun c_276 => ?_)
    · replace h := op c_276 h
      refine lv_aload_n hx hb dX10_whyNot_33 rfl (lv_at hl 1 rfl) ?_
      refine lv_iload_n hx hb dX10_whyNot_34 rfl (lv_at hl 3 rfl) ?_
      obtain ⟨o_277, hr_277, h⟩ := ob h
      refine vp_callSi (va_Run.run (va_runV (As := [.int x2]) (rest := []) ⟨hx, hb, hml, hown, hts⟩ (c_X10_isRow l dC dI cB cC cI cJ cZ cT h0 q_now q_text q_row q_read q_ranks q_distinct q_proper q_line q_order q_then q_bestOrder q_lineThen q_undos q_was q_kept q_isKept v_typed v_rowMany v_thrown v_length v_at v_wrong v_properMany v_orderMany v_undoMany v_drawn v_now x2 o_277 hr_277) (cwV 1 hts gX10_whyNot_X10_isRow rfl rfl rfl (by decide +kernel) ⟨Nat.le_of_ble_eq_true rfl, Nat.le_of_ble_eq_true rfl⟩) ⟨blR, va_recv hK hP (ci := 8) (q0 := 0) rfl rfl, fun U hU hW => ⟨rfl, by rw [hU]; exact hP.sub [0, 1] rfl, va_K.moved hW.alike hK⟩⟩ rfl rfl hl.1 rfl (lv_room (Nat.le_of_ble_eq_true rfl)) dX10_whyNot_35 ⟨Nat.le_of_ble_eq_true rfl, Nat.le_of_ble_eq_true rfl⟩)) (fun r_277 e_277 => ?_)
      subst e_277
      refine lv_if_ne (tgt := 45) hx hb dX10_whyNot_38 (by decide) (fun c_279 => ?_) (fun c_279 => ?_)
      · replace h := on c_279 h
        refine lv_iload hx hb dX10_whyNot_45 (lv_at hl 5 rfl) ?_
        refine lv_if_eq (tgt := 54) hx hb dX10_whyNot_47 (by decide) (fun c_280 => ?_) (fun c_280 => ?_)
        · replace h := op c_280 h
          refine lv_bipush (v := 6) hx hb dX10_whyNot_54 (by decide) ?_
          rw [hQQ]
          exact W.iret hx hb hr (fun t ht hW => ⟨_, rfl, (Option.some.inj h).symm, ht⟩) (fun q hq => absurd hq List.not_mem_nil) dX10_whyNot_56
        · replace h := on c_280 h
          refine lv_iconst (v := 0) hx hb dX10_whyNot_50 (by decide) ?_
          refine lv_goto (tgt := 56) hx hb dX10_whyNot_51 (by decide) ?_
          rw [hQQ]
          exact W.iret hx hb hr (fun t ht hW => ⟨_, rfl, (Option.some.inj h).symm, ht⟩) (fun q hq => absurd hq List.not_mem_nil) dX10_whyNot_56
      · replace h := op c_279 h
        refine lv_iconst (v := 5) hx hb dX10_whyNot_41 (by decide) ?_
        refine lv_goto (tgt := 56) hx hb dX10_whyNot_42 (by decide) ?_
        rw [hQQ]
        exact W.iret hx hb hr (fun t ht hW => ⟨_, rfl, (Option.some.inj h).symm, ht⟩) (fun q hq => absurd hq List.not_mem_nil) dX10_whyNot_56
    · replace h := on c_276 h
      refine lv_aload_n hx hb dX10_whyNot_21 rfl (lv_at hl 1 rfl) ?_
      refine lv_iload_n hx hb dX10_whyNot_22 rfl (lv_at hl 2 rfl) ?_
      obtain ⟨o_281, hr_281, h⟩ := ob h
      refine vp_callSi (va_Run.run (va_runV (As := [.int x1]) (rest := []) ⟨hx, hb, hml, hown, hts⟩ (c_X10_kindOf l dC dI cB cC cI cJ cZ cT h0 q_now q_text q_row q_read q_ranks q_distinct q_proper q_line q_order q_then q_bestOrder q_lineThen q_undos q_was q_kept q_isKept v_typed v_rowMany v_thrown v_length v_at v_wrong v_properMany v_orderMany v_undoMany v_drawn v_now x1 o_281 hr_281) (cwV 1 hts gX10_whyNot_X10_kindOf rfl rfl rfl (by decide +kernel) ⟨Nat.le_of_ble_eq_true rfl, Nat.le_of_ble_eq_true rfl⟩) ⟨blR, va_recv hK hP (ci := 8) (q0 := 0) rfl rfl, fun U hU hW => ⟨rfl, by rw [hU]; exact hP.sub [0, 1] rfl, va_K.moved hW.alike hK⟩⟩ rfl rfl hl.1 rfl (lv_room (Nat.le_of_ble_eq_true rfl)) dX10_whyNot_23 ⟨Nat.le_of_ble_eq_true rfl, Nat.le_of_ble_eq_true rfl⟩)) (fun r_281 e_281 => ?_)
      subst e_281
      refine lv_bipush (v := 8) hx hb dX10_whyNot_26 (by decide) ?_
      refine lv_icmp_lt (tgt := 33) hx hb dX10_whyNot_28 (by decide) (fun c_283 => ?_) (fun c_283 => ?_)
      · replace h := op c_283 h
        refine lv_aload_n hx hb dX10_whyNot_33 rfl (lv_at hl 1 rfl) ?_
        refine lv_iload_n hx hb dX10_whyNot_34 rfl (lv_at hl 3 rfl) ?_
        obtain ⟨o_284, hr_284, h⟩ := ob h
        refine vp_callSi (va_Run.run (va_runV (As := [.int x2]) (rest := []) ⟨hx, hb, hml, hown, hts⟩ (c_X10_isRow l dC dI cB cC cI cJ cZ cT h0 q_now q_text q_row q_read q_ranks q_distinct q_proper q_line q_order q_then q_bestOrder q_lineThen q_undos q_was q_kept q_isKept v_typed v_rowMany v_thrown v_length v_at v_wrong v_properMany v_orderMany v_undoMany v_drawn v_now x2 o_284 hr_284) (cwV 1 hts gX10_whyNot_X10_isRow rfl rfl rfl (by decide +kernel) ⟨Nat.le_of_ble_eq_true rfl, Nat.le_of_ble_eq_true rfl⟩) ⟨blR, va_recv hK hP (ci := 8) (q0 := 0) rfl rfl, fun U hU hW => ⟨rfl, by rw [hU]; exact hP.sub [0, 1] rfl, va_K.moved hW.alike hK⟩⟩ rfl rfl hl.1 rfl (lv_room (Nat.le_of_ble_eq_true rfl)) dX10_whyNot_35 ⟨Nat.le_of_ble_eq_true rfl, Nat.le_of_ble_eq_true rfl⟩)) (fun r_284 e_284 => ?_)
        subst e_284
        refine lv_if_ne (tgt := 45) hx hb dX10_whyNot_38 (by decide) (fun c_286 => ?_) (fun c_286 => ?_)
        · replace h := on c_286 h
          refine lv_iload hx hb dX10_whyNot_45 (lv_at hl 5 rfl) ?_
          refine lv_if_eq (tgt := 54) hx hb dX10_whyNot_47 (by decide) (fun c_287 => ?_) (fun c_287 => ?_)
          · replace h := op c_287 h
            refine lv_bipush (v := 6) hx hb dX10_whyNot_54 (by decide) ?_
            rw [hQQ]
            exact W.iret hx hb hr (fun t ht hW => ⟨_, rfl, (Option.some.inj h).symm, ht⟩) (fun q hq => absurd hq List.not_mem_nil) dX10_whyNot_56
          · replace h := on c_287 h
            refine lv_iconst (v := 0) hx hb dX10_whyNot_50 (by decide) ?_
            refine lv_goto (tgt := 56) hx hb dX10_whyNot_51 (by decide) ?_
            rw [hQQ]
            exact W.iret hx hb hr (fun t ht hW => ⟨_, rfl, (Option.some.inj h).symm, ht⟩) (fun q hq => absurd hq List.not_mem_nil) dX10_whyNot_56
        · replace h := op c_286 h
          refine lv_iconst (v := 5) hx hb dX10_whyNot_41 (by decide) ?_
          refine lv_goto (tgt := 56) hx hb dX10_whyNot_42 (by decide) ?_
          rw [hQQ]
          exact W.iret hx hb hr (fun t ht hW => ⟨_, rfl, (Option.some.inj h).symm, ht⟩) (fun q hq => absurd hq List.not_mem_nil) dX10_whyNot_56
      · replace h := on c_283 h
        refine lv_iconst (v := 4) hx hb dX10_whyNot_31 (by decide) ?_
        rw [hQQ]
        exact W.iret hx hb hr (fun t ht hW => ⟨_, rfl, (Option.some.inj h).symm, ht⟩) (fun q hq => absurd hq List.not_mem_nil) dX10_whyNot_32
  · replace h := on c_275 h
    refine lv_iload hx hb dX10_whyNot_12 (lv_at hl 0 rfl) ?_
    rw [hQQ]
    exact W.iret hx hb hr (fun t ht hW => ⟨_, rfl, (Option.some.inj h).symm, ht⟩) (fun q hq => absurd hq List.not_mem_nil) dX10_whyNot_14
def f_X10_textOf (x0 : Int32) : Option Int64 :=
  (some (((x0 &&& (2147483647 : Int32)) - (x0 &&& (2147483647 : Int32)) / (26 : Int32) * (26 : Int32)) + ((26 : Int32) * (((x0 &&& (2147483647 : Int32)) / (26 : Int32)) - ((x0 &&& (2147483647 : Int32)) / (26 : Int32)) / (3 : Int32) * (3 : Int32)))).toInt64)
abbrev rm_X10_textOf : Room := { frames := 0, cells := 0, slots := 0, locals := 0 }
set_option maxHeartbeats 4000000 in
set_option maxRecDepth 100000 in
theorem c_X10_textOf (l : Launch) (dC : Nat → ClassId) (dI : Nat → Nat → Nat) (cB cC cI cJ cZ cT : ClassId) (x0 : Int32) (o : Int64) (hf : f_X10_textOf x0 = some o) : Met l yX10_textOf wsX10_textOf rm_X10_textOf (va_Pc [.int x0] (fun _ => True)) (vp_Sl (fun r => o = r)) 0 0 (fun _ => False) := by
  refine Met.ofW (cc := cX10_textOf) (maxL := 2) (ret := (some .long)) (by decide +kernel) rfl ?_
  intro p e s m args below meth c s₁ B hml hv
  obtain ⟨hav, -⟩ := hv
  have hx := B.exec
  have hb := B.bytes
  have hr := B.returns
  have hts := atoms_spec (ws := wsX10_textOf) B.pre
  have hown : s.vm.findClass RX10 = some m.cls := findClass_of_methodNamed B.named
  have hlocks := B.notSynchronized
  refine wstart (rm := rm_X10_textOf) hav (Nat.le_of_ble_eq_true rfl) (fun QQ ls hQQ hl => ?_)
  have hl : lv_has ls 2 [(0, .int x0)] := hl
  have h := hf
  unfold f_X10_textOf at h
  refine lv_iload_n hx hb dX10_textOf_0 rfl (lv_at hl 0 rfl) ?_
  refine lv_ldc (v := 2147483647) hx hb hown (hts _ (List.mem_of_getElem? (i := 1) rfl)) dX10_textOf_1 ?_
  refine lv_iand hx hb dX10_textOf_3 ?_
  refine lv_istore_n (lv' := [(1, .int (x0 &&& (2147483647 : Int32))), (0, .int x0)]) hx hb dX10_textOf_4 rfl hl (by decide) rfl (fun ls hl => ?_)
  refine lv_iload_n hx hb dX10_textOf_5 rfl (lv_at hl 0 rfl) ?_
  refine lv_bipush (v := 26) hx hb dX10_textOf_6 (by decide) ?_
  refine lv_irem hx hb dX10_textOf_8 (by decide) ?_
  refine lv_bipush (v := 26) hx hb dX10_textOf_9 (by decide) ?_
  refine lv_iload_n hx hb dX10_textOf_11 rfl (lv_at hl 0 rfl) ?_
  refine lv_bipush (v := 26) hx hb dX10_textOf_12 (by decide) ?_
  refine lv_idiv hx hb dX10_textOf_14 (by decide) ?_
  refine lv_iconst (v := 3) hx hb dX10_textOf_15 (by decide) ?_
  refine lv_irem hx hb dX10_textOf_16 (by decide) ?_
  refine lv_imul hx hb dX10_textOf_17 ?_
  refine lv_iadd hx hb dX10_textOf_18 ?_
  refine lv_i2l (v := (((x0 &&& (2147483647 : Int32)) - (x0 &&& (2147483647 : Int32)) / (26 : Int32) * (26 : Int32)) + ((26 : Int32) * (((x0 &&& (2147483647 : Int32)) / (26 : Int32)) - ((x0 &&& (2147483647 : Int32)) / (26 : Int32)) / (3 : Int32) * (3 : Int32)))).toInt64) hx hb dX10_textOf_19 rfl ?_
  rw [hQQ]
  exact W.lret hx hb hr (fun t ht hW => ⟨_, rfl, (Option.some.inj h).symm, ht⟩) (fun q hq => absurd hq List.not_mem_nil) dX10_textOf_20
def f_X10_toldBy (x0 : Int32) (x1 : Int32) : Option Int64 :=
  (if x0 = 0 then (some (x1 &&& (1 : Int32)).toInt64) else (if x0 = 1 then (some (to_b x1).toInt64) else (if x0 = 2 then (some (to_c x1).toInt64) else (if x0 = 3 then (some (to_s x1).toInt64) else (if x0 = 4 then (some (x1).toInt64) else (if x0 = 5 then (some ((x1).toInt64 * (1000003 : Int64))) else (if x0 = 6 then (if ¬ ((FP.fdiv (FP.i2f x1) (1082130432 : UInt32)) &&& 0x7fffffff ≤ 0x7f800000) then none else ((f_Jxf58ca_floatToIntBits_5c35a (FP.fdiv (FP.i2f x1) (1082130432 : UInt32))).bind (fun o_296 => (some (o_296).toInt64)))) else (if ¬ ((FP.ddiv (FP.i2d x1) (4620693217682128896 : UInt64)) &&& 0x7fffffffffffffff ≤ 0x7ff0000000000000) then none else ((f_Jxe99ae_doubleToLongBits_ccdee (FP.ddiv (FP.i2d x1) (4620693217682128896 : UInt64))).bind (fun o_299 => (some o_299)))))))))))
abbrev rm_X10_toldBy : Room := { frames := 2, cells := 0, slots := 0, locals := 44 }
set_option maxHeartbeats 4000000 in
set_option maxRecDepth 100000 in
theorem c_X10_toldBy (l : Launch) (dC : Nat → ClassId) (dI : Nat → Nat → Nat) (cB cC cI cJ cZ cT : ClassId) (x0 : Int32) (x1 : Int32) (o : Int64) (hf : f_X10_toldBy x0 x1 = some o) : Met l yX10_toldBy wsX10_toldBy rm_X10_toldBy (va_Pc [.int x0, .int x1] (fun _ => True)) (vp_Sl (fun r => o = r)) 0 0 (fun _ => False) := by
  refine Met.ofW (cc := cX10_toldBy) (maxL := 2) (ret := (some .long)) (by decide +kernel) rfl ?_
  intro p e s m args below meth c s₁ B hml hv
  obtain ⟨hav, -⟩ := hv
  have hx := B.exec
  have hb := B.bytes
  have hr := B.returns
  have hts := atoms_spec (ws := wsX10_toldBy) B.pre
  have hown : s.vm.findClass RX10 = some m.cls := findClass_of_methodNamed B.named
  have hlocks := B.notSynchronized
  refine wstart (rm := rm_X10_toldBy) hav (Nat.le_of_ble_eq_true rfl) (fun QQ ls hQQ hl => ?_)
  have hl : lv_has ls 2 [(0, .int x0), (1, .int x1)] := hl
  have h := hf
  unfold f_X10_toldBy at h
  refine lv_iload_n hx hb dX10_toldBy_0 rfl (lv_at hl 0 rfl) ?_
  by_cases c_288 : x0 = 0
  · replace h := op c_288 h
    refine lv_tableIn (off := 43) (tgt := 44) hx hb dX10_toldBy_1 (by rw [c_288]; decide) (by rw [c_288]; decide) (by rw [c_288]; rfl) (by decide) ?_
    refine lv_iload_n hx hb dX10_toldBy_44 rfl (lv_at hl 1 rfl) ?_
    refine lv_iconst (v := 1) hx hb dX10_toldBy_45 (by decide) ?_
    refine lv_iand hx hb dX10_toldBy_46 ?_
    refine lv_i2l (v := (x1 &&& (1 : Int32)).toInt64) hx hb dX10_toldBy_47 rfl ?_
    rw [hQQ]
    exact W.lret hx hb hr (fun t ht hW => ⟨_, rfl, (Option.some.inj h).symm, ht⟩) (fun q hq => absurd hq List.not_mem_nil) dX10_toldBy_48
  replace h := on c_288 h
  by_cases c_289 : x0 = 1
  · replace h := op c_289 h
    refine lv_tableIn (off := 48) (tgt := 49) hx hb dX10_toldBy_1 (by rw [c_289]; decide) (by rw [c_289]; decide) (by rw [c_289]; rfl) (by decide) ?_
    refine lv_iload_n hx hb dX10_toldBy_49 rfl (lv_at hl 1 rfl) ?_
    refine lv_i2b (v := (to_b x1)) hx hb dX10_toldBy_50 rfl ?_
    refine lv_i2l (v := (to_b x1).toInt64) hx hb dX10_toldBy_51 rfl ?_
    rw [hQQ]
    exact W.lret hx hb hr (fun t ht hW => ⟨_, rfl, (Option.some.inj h).symm, ht⟩) (fun q hq => absurd hq List.not_mem_nil) dX10_toldBy_52
  replace h := on c_289 h
  by_cases c_290 : x0 = 2
  · replace h := op c_290 h
    refine lv_tableIn (off := 52) (tgt := 53) hx hb dX10_toldBy_1 (by rw [c_290]; decide) (by rw [c_290]; decide) (by rw [c_290]; rfl) (by decide) ?_
    refine lv_iload_n hx hb dX10_toldBy_53 rfl (lv_at hl 1 rfl) ?_
    refine lv_i2c (v := (to_c x1)) hx hb dX10_toldBy_54 rfl ?_
    refine lv_i2l (v := (to_c x1).toInt64) hx hb dX10_toldBy_55 rfl ?_
    rw [hQQ]
    exact W.lret hx hb hr (fun t ht hW => ⟨_, rfl, (Option.some.inj h).symm, ht⟩) (fun q hq => absurd hq List.not_mem_nil) dX10_toldBy_56
  replace h := on c_290 h
  by_cases c_291 : x0 = 3
  · replace h := op c_291 h
    refine lv_tableIn (off := 56) (tgt := 57) hx hb dX10_toldBy_1 (by rw [c_291]; decide) (by rw [c_291]; decide) (by rw [c_291]; rfl) (by decide) ?_
    refine lv_iload_n hx hb dX10_toldBy_57 rfl (lv_at hl 1 rfl) ?_
    refine lv_i2s (v := (to_s x1)) hx hb dX10_toldBy_58 rfl ?_
    refine lv_i2l (v := (to_s x1).toInt64) hx hb dX10_toldBy_59 rfl ?_
    rw [hQQ]
    exact W.lret hx hb hr (fun t ht hW => ⟨_, rfl, (Option.some.inj h).symm, ht⟩) (fun q hq => absurd hq List.not_mem_nil) dX10_toldBy_60
  replace h := on c_291 h
  by_cases c_292 : x0 = 4
  · replace h := op c_292 h
    refine lv_tableIn (off := 60) (tgt := 61) hx hb dX10_toldBy_1 (by rw [c_292]; decide) (by rw [c_292]; decide) (by rw [c_292]; rfl) (by decide) ?_
    refine lv_iload_n hx hb dX10_toldBy_61 rfl (lv_at hl 1 rfl) ?_
    refine lv_i2l (v := (x1).toInt64) hx hb dX10_toldBy_62 rfl ?_
    rw [hQQ]
    exact W.lret hx hb hr (fun t ht hW => ⟨_, rfl, (Option.some.inj h).symm, ht⟩) (fun q hq => absurd hq List.not_mem_nil) dX10_toldBy_63
  replace h := on c_292 h
  by_cases c_293 : x0 = 5
  · replace h := op c_293 h
    refine lv_tableIn (off := 63) (tgt := 64) hx hb dX10_toldBy_1 (by rw [c_293]; decide) (by rw [c_293]; decide) (by rw [c_293]; rfl) (by decide) ?_
    refine lv_iload_n hx hb dX10_toldBy_64 rfl (lv_at hl 1 rfl) ?_
    refine lv_i2l (v := (x1).toInt64) hx hb dX10_toldBy_65 rfl ?_
    refine lv_ldc2 (v := 1000003) hx hb hown (hts _ (List.mem_of_getElem? (i := 1) rfl)) dX10_toldBy_66 ?_
    refine lv_lmul hx hb dX10_toldBy_69 ?_
    rw [hQQ]
    exact W.lret hx hb hr (fun t ht hW => ⟨_, rfl, (Option.some.inj h).symm, ht⟩) (fun q hq => absurd hq List.not_mem_nil) dX10_toldBy_70
  replace h := on c_293 h
  by_cases c_294 : x0 = 6
  · replace h := op c_294 h
    refine lv_tableIn (off := 70) (tgt := 71) hx hb dX10_toldBy_1 (by rw [c_294]; decide) (by rw [c_294]; decide) (by rw [c_294]; rfl) (by decide) ?_
    refine lv_iload_n hx hb dX10_toldBy_71 rfl (lv_at hl 1 rfl) ?_
    refine lv_i2f hx hb dX10_toldBy_72 ?_
    refine lv_ldcf (v := 1082130432) hx hb hown (hts _ (List.mem_of_getElem? (i := 2) rfl)) dX10_toldBy_73 ?_
    obtain ⟨hi_295, h⟩ := og h
    refine lv_fdiv hx hb dX10_toldBy_75 (Classical.not_not.mp hi_295) ?_
    obtain ⟨o_296, hr_296, h⟩ := ob h
    refine vp_callSi (va_Run.run (va_runS (As := [.float (FP.fdiv (FP.i2f x1) (1082130432 : UInt32))]) (rest := []) ⟨hx, hb, hml, hown, hts⟩ (c_Jxf58ca_floatToIntBits_5c35a l dC dI cB cC cI cJ cZ cT (FP.fdiv (FP.i2f x1) (1082130432 : UInt32)) o_296 hr_296) (va_cwS 1 hts gX10_toldBy_Jxf58ca_floatToIntBits_5c35a rfl rfl rfl (by decide +kernel) ⟨Nat.le_of_ble_eq_true rfl, Nat.le_of_ble_eq_true rfl⟩) ⟨blT, fun U hU hW => ⟨rfl, trivial⟩⟩ rfl rfl hl.1 rfl (lv_room (Nat.le_of_ble_eq_true rfl)) dX10_toldBy_76 ⟨Nat.le_of_ble_eq_true rfl, Nat.le_of_ble_eq_true rfl⟩)) (fun r_296 e_296 => ?_)
    subst e_296
    refine lv_i2l (v := (o_296).toInt64) hx hb dX10_toldBy_79 rfl ?_
    rw [hQQ]
    exact W.lret hx hb hr (fun t ht hW => ⟨_, rfl, (Option.some.inj h).symm, ht⟩) (fun q hq => absurd hq List.not_mem_nil) dX10_toldBy_80
  replace h := on c_294 h
  have ct_288 : (x0).toInt < 0 ∨ 6 < (x0).toInt := by
    have q_288 := i32_ne c_288
    have q_289 := i32_ne c_289
    have q_290 := i32_ne c_290
    have q_291 := i32_ne c_291
    have q_292 := i32_ne c_292
    have q_293 := i32_ne c_293
    have q_294 := i32_ne c_294
    have z_288 : ((0 : Int32)).toInt = 0 ∧ ((1 : Int32)).toInt = 1 ∧ ((2 : Int32)).toInt = 2 ∧ ((3 : Int32)).toInt = 3 ∧ ((4 : Int32)).toInt = 4 ∧ ((5 : Int32)).toInt = 5 ∧ ((6 : Int32)).toInt = 6 := by decide
    omega
  refine lv_tableOut (tgt := 81) hx hb dX10_toldBy_1 ct_288 (by decide) ?_
  refine lv_iload_n hx hb dX10_toldBy_81 rfl (lv_at hl 1 rfl) ?_
  refine lv_i2d hx hb dX10_toldBy_82 ?_
  refine lv_ldc2d (v := 4620693217682128896) hx hb hown (hts _ (List.mem_of_getElem? (i := 3) rfl)) dX10_toldBy_83 ?_
  obtain ⟨hi_298, h⟩ := og h
  refine lv_ddiv hx hb dX10_toldBy_86 (Classical.not_not.mp hi_298) ?_
  obtain ⟨o_299, hr_299, h⟩ := ob h
  refine vp_callSl (va_Run.run (va_runS (As := [.double (FP.ddiv (FP.i2d x1) (4620693217682128896 : UInt64))]) (rest := []) ⟨hx, hb, hml, hown, hts⟩ (c_Jxe99ae_doubleToLongBits_ccdee l dC dI cB cC cI cJ cZ cT (FP.ddiv (FP.i2d x1) (4620693217682128896 : UInt64)) o_299 hr_299) (va_cwS 1 hts gX10_toldBy_Jxe99ae_doubleToLongBits_ccdee rfl rfl rfl (by decide +kernel) ⟨Nat.le_of_ble_eq_true rfl, Nat.le_of_ble_eq_true rfl⟩) ⟨blT, fun U hU hW => ⟨rfl, trivial⟩⟩ rfl rfl hl.1 rfl (lv_room (Nat.le_of_ble_eq_true rfl)) dX10_toldBy_87 ⟨Nat.le_of_ble_eq_true rfl, Nat.le_of_ble_eq_true rfl⟩)) (fun r_299 e_299 => ?_)
  subst e_299
  rw [hQQ]
  exact W.lret hx hb hr (fun t ht hW => ⟨_, rfl, (Option.some.inj h).symm, ht⟩) (fun q hq => absurd hq List.not_mem_nil) dX10_toldBy_90
def f_X10_thingOf (x0 : Int32) (x1 : Int32) : Option Int64 :=
  (if x0 = (19 : Int32) then ((f_X10_textOf x1).bind (fun o_308 => (some o_308))) else (if x0 = (20 : Int32) then (some (x1).toInt64) else (if x0 = (21 : Int32) then (some (-9223372036854775808 : Int64)) else ((f_X10_kindOfWay x0).bind (fun o_304 => ((f_X10_toldBy o_304 x1).bind (fun o_306 => (some o_306))))))))
abbrev rm_X10_thingOf : Room := { frames := 3, cells := 0, slots := 0, locals := 65 }
set_option maxHeartbeats 4000000 in
set_option maxRecDepth 100000 in
theorem c_X10_thingOf (l : Launch) (dC : Nat → ClassId) (dI : Nat → Nat → Nat) (cB cC cI cJ cZ cT : ClassId) (x0 : Int32) (x1 : Int32) (o : Int64) (hf : f_X10_thingOf x0 x1 = some o) : Met l yX10_thingOf wsX10_thingOf rm_X10_thingOf (va_Pc [.int x0, .int x1] (fun _ => True)) (vp_Sl (fun r => o = r)) 0 0 (fun _ => False) := by
  refine Met.ofW (cc := cX10_thingOf) (maxL := 2) (ret := (some .long)) (by decide +kernel) rfl ?_
  intro p e s m args below meth c s₁ B hml hv
  obtain ⟨hav, -⟩ := hv
  have hx := B.exec
  have hb := B.bytes
  have hr := B.returns
  have hts := atoms_spec (ws := wsX10_thingOf) B.pre
  have hown : s.vm.findClass RX10 = some m.cls := findClass_of_methodNamed B.named
  have hlocks := B.notSynchronized
  refine wstart (rm := rm_X10_thingOf) hav (Nat.le_of_ble_eq_true rfl) (fun QQ ls hQQ hl => ?_)
  have hl : lv_has ls 2 [(0, .int x0), (1, .int x1)] := hl
  have h := hf
  unfold f_X10_thingOf at h
  refine lv_iload_n hx hb dX10_thingOf_0 rfl (lv_at hl 0 rfl) ?_
  refine lv_bipush (v := 19) hx hb dX10_thingOf_1 (by decide) ?_
  refine lv_icmp_ne (tgt := 13) hx hb dX10_thingOf_3 (by decide) (fun c_301 => ?_) (fun c_301 => ?_)
  · replace h := on c_301 h
    refine lv_iload_n hx hb dX10_thingOf_13 rfl (lv_at hl 0 rfl) ?_
    refine lv_bipush (v := 20) hx hb dX10_thingOf_14 (by decide) ?_
    refine lv_icmp_ne (tgt := 24) hx hb dX10_thingOf_16 (by decide) (fun c_302 => ?_) (fun c_302 => ?_)
    · replace h := on c_302 h
      refine lv_iload_n hx hb dX10_thingOf_24 rfl (lv_at hl 0 rfl) ?_
      refine lv_bipush (v := 21) hx hb dX10_thingOf_25 (by decide) ?_
      refine lv_icmp_ne (tgt := 36) hx hb dX10_thingOf_27 (by decide) (fun c_303 => ?_) (fun c_303 => ?_)
      · replace h := on c_303 h
        refine lv_iload_n hx hb dX10_thingOf_36 rfl (lv_at hl 0 rfl) ?_
        obtain ⟨o_304, hr_304, h⟩ := ob h
        refine vp_callSi (va_Run.run (va_runS (As := [.int x0]) (rest := []) ⟨hx, hb, hml, hown, hts⟩ (c_X10_kindOfWay l dC dI cB cC cI cJ cZ cT x0 o_304 hr_304) (va_cwS 1 hts gX10_thingOf_X10_kindOfWay rfl rfl rfl (by decide +kernel) ⟨Nat.le_of_ble_eq_true rfl, Nat.le_of_ble_eq_true rfl⟩) ⟨blT, fun U hU hW => ⟨rfl, trivial⟩⟩ rfl rfl hl.1 rfl (lv_room (Nat.le_of_ble_eq_true rfl)) dX10_thingOf_37 ⟨Nat.le_of_ble_eq_true rfl, Nat.le_of_ble_eq_true rfl⟩)) (fun r_304 e_304 => ?_)
        subst e_304
        refine lv_iload_n hx hb dX10_thingOf_40 rfl (lv_at hl 1 rfl) ?_
        obtain ⟨o_306, hr_306, h⟩ := ob h
        refine vp_callSl (va_Run.run (va_runS (As := [.int o_304, .int x1]) (rest := []) ⟨hx, hb, hml, hown, hts⟩ (c_X10_toldBy l dC dI cB cC cI cJ cZ cT o_304 x1 o_306 hr_306) (va_cwS 2 hts gX10_thingOf_X10_toldBy rfl rfl rfl (by decide +kernel) ⟨Nat.le_of_ble_eq_true rfl, Nat.le_of_ble_eq_true rfl⟩) ⟨blT, fun U hU hW => ⟨rfl, trivial⟩⟩ rfl rfl hl.1 rfl (lv_room (Nat.le_of_ble_eq_true rfl)) dX10_thingOf_41 ⟨Nat.le_of_ble_eq_true rfl, Nat.le_of_ble_eq_true rfl⟩)) (fun r_306 e_306 => ?_)
        subst e_306
        rw [hQQ]
        exact W.lret hx hb hr (fun t ht hW => ⟨_, rfl, (Option.some.inj h).symm, ht⟩) (fun q hq => absurd hq List.not_mem_nil) dX10_thingOf_44
      · replace h := op c_303 h
        refine lv_ldc2 (v := -9223372036854775808) hx hb hown (hts _ (List.mem_of_getElem? (i := 1) rfl)) dX10_thingOf_30 ?_
        refine lv_goto (tgt := 44) hx hb dX10_thingOf_33 (by decide) ?_
        rw [hQQ]
        exact W.lret hx hb hr (fun t ht hW => ⟨_, rfl, (Option.some.inj h).symm, ht⟩) (fun q hq => absurd hq List.not_mem_nil) dX10_thingOf_44
    · replace h := op c_302 h
      refine lv_iload_n hx hb dX10_thingOf_19 rfl (lv_at hl 1 rfl) ?_
      refine lv_i2l (v := (x1).toInt64) hx hb dX10_thingOf_20 rfl ?_
      refine lv_goto (tgt := 44) hx hb dX10_thingOf_21 (by decide) ?_
      rw [hQQ]
      exact W.lret hx hb hr (fun t ht hW => ⟨_, rfl, (Option.some.inj h).symm, ht⟩) (fun q hq => absurd hq List.not_mem_nil) dX10_thingOf_44
  · replace h := op c_301 h
    refine lv_iload_n hx hb dX10_thingOf_6 rfl (lv_at hl 1 rfl) ?_
    obtain ⟨o_308, hr_308, h⟩ := ob h
    refine vp_callSl (va_Run.run (va_runS (As := [.int x1]) (rest := []) ⟨hx, hb, hml, hown, hts⟩ (c_X10_textOf l dC dI cB cC cI cJ cZ cT x1 o_308 hr_308) (va_cwS 1 hts gX10_thingOf_X10_textOf rfl rfl rfl (by decide +kernel) ⟨Nat.le_of_ble_eq_true rfl, Nat.le_of_ble_eq_true rfl⟩) ⟨blT, fun U hU hW => ⟨rfl, trivial⟩⟩ rfl rfl hl.1 rfl (lv_room (Nat.le_of_ble_eq_true rfl)) dX10_thingOf_7 ⟨Nat.le_of_ble_eq_true rfl, Nat.le_of_ble_eq_true rfl⟩)) (fun r_308 e_308 => ?_)
    subst e_308
    refine lv_goto (tgt := 44) hx hb dX10_thingOf_10 (by decide) ?_
    rw [hQQ]
    exact W.lret hx hb hr (fun t ht hW => ⟨_, rfl, (Option.some.inj h).symm, ht⟩) (fun q hq => absurd hq List.not_mem_nil) dX10_thingOf_44
def f_X10_widened (x0 : Int64) (x2 : Int32) (x3 : Int32) : Option Int64 :=
  (if x2 = x3 then (some x0) else (if (6 : Int32) ≤ x3 then (if x3 = (6 : Int32) then ((f_Jxf58ca_floatToIntBits_5c35a (FP.l2f x0)).bind (fun o_322 => (some (o_322).toInt64))) else (((if x2 = (6 : Int32) then (if vn_sni2f (x0).toInt32 = true then none else (if ¬ ((FP.f2d ((x0).toInt32).toUInt32) &&& 0x7fffffffffffffff ≤ 0x7ff0000000000000) then none else (some (FP.f2d ((x0).toInt32).toUInt32)))) else (some (FP.l2d x0)))).bind (fun v_313 => ((f_Jxe99ae_doubleToLongBits_ccdee v_313).bind (fun o_320 => (some o_320)))))) else (some x0)))
abbrev rm_X10_widened : Room := { frames := 2, cells := 0, slots := 0, locals := 44 }
set_option maxHeartbeats 4000000 in
set_option maxRecDepth 100000 in
theorem c_X10_widened (l : Launch) (dC : Nat → ClassId) (dI : Nat → Nat → Nat) (cB cC cI cJ cZ cT : ClassId) (x0 : Int64) (x2 : Int32) (x3 : Int32) (o : Int64) (hf : f_X10_widened x0 x2 x3 = some o) : Met l yX10_widened wsX10_widened rm_X10_widened (va_Pc [.long x0, .int x2, .int x3] (fun _ => True)) (vp_Sl (fun r => o = r)) 0 0 (fun _ => False) := by
  refine Met.ofW (cc := cX10_widened) (maxL := 4) (ret := (some .long)) (by decide +kernel) rfl ?_
  intro p e s m args below meth c s₁ B hml hv
  obtain ⟨hav, -⟩ := hv
  have hx := B.exec
  have hb := B.bytes
  have hr := B.returns
  have hts := atoms_spec (ws := wsX10_widened) B.pre
  have hown : s.vm.findClass RX10 = some m.cls := findClass_of_methodNamed B.named
  have hlocks := B.notSynchronized
  refine wstart (rm := rm_X10_widened) hav (Nat.le_of_ble_eq_true rfl) (fun QQ ls hQQ hl => ?_)
  have hl : lv_has ls 4 [(0, .long x0), (2, .int x2), (3, .int x3)] := hl
  have h := hf
  unfold f_X10_widened at h
  refine lv_iload_n hx hb dX10_widened_0 rfl (lv_at hl 1 rfl) ?_
  refine lv_iload_n hx hb dX10_widened_1 rfl (lv_at hl 2 rfl) ?_
  refine lv_icmp_eq (tgt := 11) hx hb dX10_widened_2 (by decide) (fun c_310 => ?_) (fun c_310 => ?_)
  · replace h := op c_310 h
    refine lv_lload_n hx hb dX10_widened_11 rfl (lv_at hl 0 rfl) ?_
    rw [hQQ]
    exact W.lret hx hb hr (fun t ht hW => ⟨_, rfl, (Option.some.inj h).symm, ht⟩) (fun q hq => absurd hq List.not_mem_nil) dX10_widened_12
  · replace h := on c_310 h
    refine lv_iload_n hx hb dX10_widened_5 rfl (lv_at hl 2 rfl) ?_
    refine lv_bipush (v := 6) hx hb dX10_widened_6 (by decide) ?_
    refine lv_icmp_ge (tgt := 13) hx hb dX10_widened_8 (by decide) (fun c_311 => ?_) (fun c_311 => ?_)
    · replace h := op c_311 h
      refine lv_iload_n hx hb dX10_widened_13 rfl (lv_at hl 2 rfl) ?_
      refine lv_bipush (v := 6) hx hb dX10_widened_14 (by decide) ?_
      refine lv_icmp_ne (tgt := 26) hx hb dX10_widened_16 (by decide) (fun c_312 => ?_) (fun c_312 => ?_)
      · replace h := on c_312 h
        refine lv_iload_n hx hb dX10_widened_26 rfl (lv_at hl 1 rfl) ?_
        refine lv_bipush (v := 6) hx hb dX10_widened_27 (by decide) ?_
        obtain ⟨v_313, hv_313, h⟩ := ob h
        have J_313 : ∀ (ls : Array Slot), lv_has ls 4 [] → W p l e rm_X10_widened s m args below meth c s.heap [] 0 0 QQ (F0 m 43 ls [.double v_313]) := by
          intro ls hl
          obtain ⟨o_320, hr_320, h⟩ := ob h
          refine vp_callSl (va_Run.run (va_runS (As := [.double v_313]) (rest := []) ⟨hx, hb, hml, hown, hts⟩ (c_Jxe99ae_doubleToLongBits_ccdee l dC dI cB cC cI cJ cZ cT v_313 o_320 hr_320) (va_cwS 1 hts gX10_widened_Jxe99ae_doubleToLongBits_ccdee rfl rfl rfl (by decide +kernel) ⟨Nat.le_of_ble_eq_true rfl, Nat.le_of_ble_eq_true rfl⟩) ⟨blT, fun U hU hW => ⟨rfl, trivial⟩⟩ rfl rfl hl.1 rfl (lv_room (Nat.le_of_ble_eq_true rfl)) dX10_widened_43 ⟨Nat.le_of_ble_eq_true rfl, Nat.le_of_ble_eq_true rfl⟩)) (fun r_320 e_320 => ?_)
          subst e_320
          rw [hQQ]
          exact W.lret hx hb hr (fun t ht hW => ⟨_, rfl, (Option.some.inj h).symm, ht⟩) (fun q hq => absurd hq List.not_mem_nil) dX10_widened_46
        replace h := hv_313
        refine lv_icmp_ne (tgt := 41) hx hb dX10_widened_29 (by decide) (fun c_317 => ?_) (fun c_317 => ?_)
        · replace h := on c_317 h
          refine lv_lload_n hx hb dX10_widened_41 rfl (lv_at hl 0 rfl) ?_
          refine lv_l2d hx hb dX10_widened_42 ?_
          have ho := Option.some.inj h
          subst ho
          exact J_313 ls (lv_sub hl [] rfl)
        · replace h := op c_317 h
          refine lv_lload_n hx hb dX10_widened_32 rfl (lv_at hl 0 rfl) ?_
          refine lv_l2i (v := (x0).toInt32) hx hb dX10_widened_33 rfl ?_
          obtain ⟨hi_318, h⟩ := og h
          refine vn_i2f hx hb (hml.trans hl.1.symm) hown (hts _ (List.mem_of_getElem? (i := 1) rfl)) (hts _ (List.mem_of_getElem? (i := 2) rfl)) (hts _ (List.mem_of_getElem? (i := 3) rfl)) (hts _ (List.mem_of_getElem? (i := 4) rfl)) (Bool.eq_false_iff.mpr hi_318) (Nat.le_of_ble_eq_true rfl) (Nat.le_of_ble_eq_true rfl) dX10_widened_34 ?_
          obtain ⟨hi_319, h⟩ := og h
          refine lv_f2d hx hb dX10_widened_37 (Classical.not_not.mp hi_319) ?_
          refine lv_goto (tgt := 43) hx hb dX10_widened_38 (by decide) ?_
          have ho := Option.some.inj h
          subst ho
          exact J_313 ls (lv_sub hl [] rfl)
      · replace h := op c_312 h
        refine lv_lload_n hx hb dX10_widened_19 rfl (lv_at hl 0 rfl) ?_
        refine lv_l2f hx hb dX10_widened_20 ?_
        obtain ⟨o_322, hr_322, h⟩ := ob h
        refine vp_callSi (va_Run.run (va_runS (As := [.float (FP.l2f x0)]) (rest := []) ⟨hx, hb, hml, hown, hts⟩ (c_Jxf58ca_floatToIntBits_5c35a l dC dI cB cC cI cJ cZ cT (FP.l2f x0) o_322 hr_322) (va_cwS 1 hts gX10_widened_Jxf58ca_floatToIntBits_5c35a rfl rfl rfl (by decide +kernel) ⟨Nat.le_of_ble_eq_true rfl, Nat.le_of_ble_eq_true rfl⟩) ⟨blT, fun U hU hW => ⟨rfl, trivial⟩⟩ rfl rfl hl.1 rfl (lv_room (Nat.le_of_ble_eq_true rfl)) dX10_widened_21 ⟨Nat.le_of_ble_eq_true rfl, Nat.le_of_ble_eq_true rfl⟩)) (fun r_322 e_322 => ?_)
        subst e_322
        refine lv_i2l (v := (o_322).toInt64) hx hb dX10_widened_24 rfl ?_
        rw [hQQ]
        exact W.lret hx hb hr (fun t ht hW => ⟨_, rfl, (Option.some.inj h).symm, ht⟩) (fun q hq => absurd hq List.not_mem_nil) dX10_widened_25
    · replace h := on c_311 h
      refine lv_lload_n hx hb dX10_widened_11 rfl (lv_at hl 0 rfl) ?_
      rw [hQQ]
      exact W.lret hx hb hr (fun t ht hW => ⟨_, rfl, (Option.some.inj h).symm, ht⟩) (fun q hq => absurd hq List.not_mem_nil) dX10_widened_12
def f_X10_store (v_now : Nat → Int64) (x1 : Int32) (x2 : Int32) (x3 : Int32) (x4 : Int64) : Option (Nat → Int64) :=
  ((f_X10_kindOfWay x3).bind (fun o_324 => ((f_X10_cellAt x1 x2).bind (fun o_326 => (if o_324 = (-1 : Int32) then (if o_326 < 0 ∨ 120 ≤ (o_326).toNatClampNeg then none else (some (vp_updL v_now (o_326).toNatClampNeg x4))) else ((f_X10_kindOf v_now x1).bind (fun o_330 => (if o_330 < (8 : Int32) then ((f_X10_kindOf v_now x1).bind (fun o_333 => ((f_X10_widened x4 o_324 o_333).bind (fun o_335 => (if o_326 < 0 ∨ 120 ≤ (o_326).toNatClampNeg then none else (some (vp_updL v_now (o_326).toNatClampNeg o_335))))))) else (if o_326 < 0 ∨ 120 ≤ (o_326).toNatClampNeg then none else (some (vp_updL v_now (o_326).toNatClampNeg x4)))))))))))
abbrev rm_X10_store : Room := { frames := 3, cells := 0, slots := 0, locals := 67 }
set_option maxHeartbeats 4000000 in
set_option maxRecDepth 100000 in
theorem c_X10_store (l : Launch) (dC : Nat → ClassId) (dI : Nat → Nat → Nat) (cB cC cI cJ cZ cT : ClassId) (h0 q_now q_text q_row q_read q_ranks q_distinct q_proper q_line q_order q_then q_bestOrder q_lineThen q_undos q_was q_kept q_isKept : Nat) (sz : Nat) (v_typed : Int32) (v_rowMany : Int32) (v_thrown : Int32) (v_length : Int32) (v_at : Int32) (v_wrong : Int32) (v_properMany : Int32) (v_orderMany : Int32) (v_undoMany : Int32) (v_drawn : Int32) (v_now : Nat → Int64) (x1 : Int32) (x2 : Int32) (x3 : Int32) (x4 : Int64) (o : (Nat → Int64)) (hf : f_X10_store v_now x1 x2 x3 x4 = some o) : Met l yX10_store wsX10_store rm_X10_store (va_Pc [.ref h0, .int x1, .int x2, .int x3, .long x4] (fun U => U.heap.size = sz ∧ va_P (dC, dI) vwCl [(h0, .inr (8, [.ref q_now, .ref q_text, .int v_typed, .ref q_row, .int v_rowMany, .int v_thrown, .int v_length, .int v_at, .int v_wrong, .ref q_read, .ref q_ranks, .ref q_distinct, .ref q_proper, .int v_properMany, .ref q_line, .ref q_order, .int v_orderMany, .ref q_then, .ref q_bestOrder, .ref q_lineThen, .ref q_undos, .ref q_was, .int v_undoMany, .int v_drawn, .ref q_kept, .ref q_isKept])), (q_now, .inl (cJ, 120, .inr (.inl v_now)))] U.heap ∧ va_K (dC, dI) vwCl (tyA cB cC cI cJ cZ cT) U ∧ va_D (fun _ => True) [(h0, .inr (8, [.ref q_now, .ref q_text, .int v_typed, .ref q_row, .int v_rowMany, .int v_thrown, .int v_length, .int v_at, .int v_wrong, .ref q_read, .ref q_ranks, .ref q_distinct, .ref q_proper, .int v_properMany, .ref q_line, .ref q_order, .int v_orderMany, .ref q_then, .ref q_bestOrder, .ref q_lineThen, .ref q_undos, .ref q_was, .int v_undoMany, .int v_drawn, .ref q_kept, .ref q_isKept])), (q_now, .inl (cJ, 120, .inr (.inl v_now)))])) (va_Qv (fun _ : Unit => True) (fun _ t => va_P (dC, dI) vwCl [(h0, .inr (8, [.ref q_now, .ref q_text, .int v_typed, .ref q_row, .int v_rowMany, .int v_thrown, .int v_length, .int v_at, .int v_wrong, .ref q_read, .ref q_ranks, .ref q_distinct, .ref q_proper, .int v_properMany, .ref q_line, .ref q_order, .int v_orderMany, .ref q_then, .ref q_bestOrder, .ref q_lineThen, .ref q_undos, .ref q_was, .int v_undoMany, .int v_drawn, .ref q_kept, .ref q_isKept])), (q_now, .inl (cJ, 120, .inr (.inl o)))] t.heap ∧ va_K (dC, dI) vwCl (tyA cB cC cI cJ cZ cT) t ∧ va_D (va_A [(h0, .inr (8, [.ref q_now, .ref q_text, .int v_typed, .ref q_row, .int v_rowMany, .int v_thrown, .int v_length, .int v_at, .int v_wrong, .ref q_read, .ref q_ranks, .ref q_distinct, .ref q_proper, .int v_properMany, .ref q_line, .ref q_order, .int v_orderMany, .ref q_then, .ref q_bestOrder, .ref q_lineThen, .ref q_undos, .ref q_was, .int v_undoMany, .int v_drawn, .ref q_kept, .ref q_isKept])), (q_now, .inl (cJ, 120, .inr (.inl v_now)))] sz) [(h0, .inr (8, [.ref q_now, .ref q_text, .int v_typed, .ref q_row, .int v_rowMany, .int v_thrown, .int v_length, .int v_at, .int v_wrong, .ref q_read, .ref q_ranks, .ref q_distinct, .ref q_proper, .int v_properMany, .ref q_line, .ref q_order, .int v_orderMany, .ref q_then, .ref q_bestOrder, .ref q_lineThen, .ref q_undos, .ref q_was, .int v_undoMany, .int v_drawn, .ref q_kept, .ref q_isKept])), (q_now, .inl (cJ, 120, .inr (.inl o)))]) (va_A [(h0, .inr (8, [.ref q_now, .ref q_text, .int v_typed, .ref q_row, .int v_rowMany, .int v_thrown, .int v_length, .int v_at, .int v_wrong, .ref q_read, .ref q_ranks, .ref q_distinct, .ref q_proper, .int v_properMany, .ref q_line, .ref q_order, .int v_orderMany, .ref q_then, .ref q_bestOrder, .ref q_lineThen, .ref q_undos, .ref q_was, .int v_undoMany, .int v_drawn, .ref q_kept, .ref q_isKept])), (q_now, .inl (cJ, 120, .inr (.inl v_now)))] sz)) 0 0 (va_A [(h0, .inr (8, [.ref q_now, .ref q_text, .int v_typed, .ref q_row, .int v_rowMany, .int v_thrown, .int v_length, .int v_at, .int v_wrong, .ref q_read, .ref q_ranks, .ref q_distinct, .ref q_proper, .int v_properMany, .ref q_line, .ref q_order, .int v_orderMany, .ref q_then, .ref q_bestOrder, .ref q_lineThen, .ref q_undos, .ref q_was, .int v_undoMany, .int v_drawn, .ref q_kept, .ref q_isKept])), (q_now, .inl (cJ, 120, .inr (.inl v_now)))] sz) := by
  refine Met.ofW (cc := cX10_store) (maxL := 7) (ret := none) (by decide +kernel) rfl ?_
  intro p e s m args below meth c s₁ B hml hv
  obtain ⟨hav, hsz, hP, hK, hD0⟩ := hv
  have hx := B.exec
  have hb := B.bytes
  have hr := B.returns
  have hts := atoms_spec (ws := wsX10_store) B.pre
  have hown : s.vm.findClass RX10 = some m.cls := findClass_of_methodNamed B.named
  have hlocks := B.notSynchronized
  subst hsz
  have hD := hD0.self (sz := s.heap.size)
  generalize hAe : va_A [(h0, .inr (8, [.ref q_now, .ref q_text, .int v_typed, .ref q_row, .int v_rowMany, .int v_thrown, .int v_length, .int v_at, .int v_wrong, .ref q_read, .ref q_ranks, .ref q_distinct, .ref q_proper, .int v_properMany, .ref q_line, .ref q_order, .int v_orderMany, .ref q_then, .ref q_bestOrder, .ref q_lineThen, .ref q_undos, .ref q_was, .int v_undoMany, .int v_drawn, .ref q_kept, .ref q_isKept])), (q_now, .inl (cJ, 120, .inr (.inl v_now)))] s.heap.size = A at hD ⊢
  have hA : ∀ q : Nat, s.heap.size ≤ q → A q := fun q h => by rw [← hAe]; exact Or.inr h
  have hS : va_S A s.heap s.heap [] := va_S.rf
  refine wstart (rm := rm_X10_store) hav (Nat.le_of_ble_eq_true rfl) (fun QQ ls hQQ hl => ?_)
  have hl : lv_has ls 7 [(0, .ref h0), (1, .int x1), (2, .int x2), (3, .int x3), (4, .long x4)] := hl
  have hi_X10 : ∀ w ∈ u_ws RX10 TX10 26, w ∈ wsX10_store := by decide +kernel
  have h := hf
  unfold f_X10_store at h
  refine lv_iload_n hx hb dX10_store_0 rfl (lv_at hl 3 rfl) ?_
  obtain ⟨o_324, hr_324, h⟩ := ob h
  refine vp_callSi (va_Run.run (va_runS (As := [.int x3]) (rest := []) ⟨hx, hb, hml, hown, hts⟩ (c_X10_kindOfWay l dC dI cB cC cI cJ cZ cT x3 o_324 hr_324) (va_cwS 1 hts gX10_store_X10_kindOfWay rfl rfl rfl (by decide +kernel) ⟨Nat.le_of_ble_eq_true rfl, Nat.le_of_ble_eq_true rfl⟩) ⟨blT, fun U hU hW => ⟨rfl, trivial⟩⟩ rfl rfl hl.1 rfl (lv_room (Nat.le_of_ble_eq_true rfl)) dX10_store_1 ⟨Nat.le_of_ble_eq_true rfl, Nat.le_of_ble_eq_true rfl⟩)) (fun r_324 e_324 => ?_)
  subst e_324
  refine lv_istore (lv' := [(6, .int o_324), (0, .ref h0), (1, .int x1), (2, .int x2), (3, .int x3), (4, .long x4)]) hx hb dX10_store_4 hl (by decide) rfl (fun ls hl => ?_)
  refine lv_aload_n hx hb dX10_store_6 rfl (lv_at hl 1 rfl) ?_
  refine va_get (D := (dC, dI)) (ci := 8) (v := .ref q_now) (C := RX10) (T := TX10) (N := 26) hx hb hts hi_X10 hown hK hP 0 rfl rfl 0 (by decide) (hts _ (List.mem_of_getElem? (i := 1) rfl)) (fun _ h9 => h9) rfl dX10_store_7 ?_
  refine lv_iload_n hx hb dX10_store_10 rfl (lv_at hl 2 rfl) ?_
  refine lv_iload_n hx hb dX10_store_11 rfl (lv_at hl 3 rfl) ?_
  obtain ⟨o_326, hr_326, h⟩ := ob h
  refine vp_callSi (va_Run.run (va_runS (As := [.int x1, .int x2]) (rest := [.ref q_now]) ⟨hx, hb, hml, hown, hts⟩ (c_X10_cellAt l dC dI cB cC cI cJ cZ cT x1 x2 o_326 hr_326) (va_cwS 2 hts gX10_store_X10_cellAt rfl rfl rfl (by decide +kernel) ⟨Nat.le_of_ble_eq_true rfl, Nat.le_of_ble_eq_true rfl⟩) ⟨blT, fun U hU hW => ⟨rfl, trivial⟩⟩ rfl rfl hl.1 rfl (lv_room (Nat.le_of_ble_eq_true rfl)) dX10_store_12 ⟨Nat.le_of_ble_eq_true rfl, Nat.le_of_ble_eq_true rfl⟩)) (fun r_326 e_326 => ?_)
  subst e_326
  refine lv_iload hx hb dX10_store_15 (lv_at hl 0 rfl) ?_
  refine lv_iconst (v := -1) hx hb dX10_store_17 (by decide) ?_
  refine lv_icmp_eq (tgt := 31) hx hb dX10_store_18 (by decide) (fun c_328 => ?_) (fun c_328 => ?_)
  · replace h := op c_328 h
    refine lv_lload hx hb dX10_store_31 (lv_at hl 5 rfl) ?_
    refine lv_goto (tgt := 48) hx hb dX10_store_33 (by decide) ?_
    obtain ⟨hi_329, h⟩ := og h
    refine va_last hx hb hK hP hD hS 1 1 rfl rfl hi_329 dX10_store_48 (fun H locs hP hD hS => ?_)
    replace hP : va_P (dC, dI) vwCl [(h0, .inr (8, [.ref q_now, .ref q_text, .int v_typed, .ref q_row, .int v_rowMany, .int v_thrown, .int v_length, .int v_at, .int v_wrong, .ref q_read, .ref q_ranks, .ref q_distinct, .ref q_proper, .int v_properMany, .ref q_line, .ref q_order, .int v_orderMany, .ref q_then, .ref q_bestOrder, .ref q_lineThen, .ref q_undos, .ref q_was, .int v_undoMany, .int v_drawn, .ref q_kept, .ref q_isKept])), (q_now, .inl (cJ, 120, .inr (.inl (vp_updL v_now (o_326).toNatClampNeg x4))))] H := hP
    replace hD : va_D A [(h0, .inr (8, [.ref q_now, .ref q_text, .int v_typed, .ref q_row, .int v_rowMany, .int v_thrown, .int v_length, .int v_at, .int v_wrong, .ref q_read, .ref q_ranks, .ref q_distinct, .ref q_proper, .int v_properMany, .ref q_line, .ref q_order, .int v_orderMany, .ref q_then, .ref q_bestOrder, .ref q_lineThen, .ref q_undos, .ref q_was, .int v_undoMany, .int v_drawn, .ref q_kept, .ref q_isKept])), (q_now, .inl (cJ, 120, .inr (.inl (vp_updL v_now (o_326).toNatClampNeg x4))))] := hD
    rw [hQQ]
    have ho := Option.some.inj h
    subst ho
    exact W.vret hx hb hr (fun t ht hW => ⟨⟨(), rfl, trivial, by rw [ht]; exact hP, va_K.moved hW.alike hK, hD⟩, hS.F ht⟩) hS.2.2 dX10_store_49
  · replace h := on c_328 h
    refine lv_aload_n hx hb dX10_store_21 rfl (lv_at hl 1 rfl) ?_
    refine lv_iload_n hx hb dX10_store_22 rfl (lv_at hl 2 rfl) ?_
    obtain ⟨o_330, hr_330, h⟩ := ob h
    refine vp_callSi (va_Run.run (va_runV (As := [.int x1]) (rest := [.int o_326, .ref q_now]) ⟨hx, hb, hml, hown, hts⟩ (c_X10_kindOf l dC dI cB cC cI cJ cZ cT h0 q_now q_text q_row q_read q_ranks q_distinct q_proper q_line q_order q_then q_bestOrder q_lineThen q_undos q_was q_kept q_isKept v_typed v_rowMany v_thrown v_length v_at v_wrong v_properMany v_orderMany v_undoMany v_drawn v_now x1 o_330 hr_330) (cwV 1 hts gX10_store_X10_kindOf rfl rfl rfl (by decide +kernel) ⟨Nat.le_of_ble_eq_true rfl, Nat.le_of_ble_eq_true rfl⟩) ⟨blR, va_recv hK hP (ci := 8) (q0 := 0) rfl rfl, fun U hU hW => ⟨rfl, by rw [hU]; exact hP.sub [0, 1] rfl, va_K.moved hW.alike hK⟩⟩ rfl rfl hl.1 rfl (lv_room (Nat.le_of_ble_eq_true rfl)) dX10_store_23 ⟨Nat.le_of_ble_eq_true rfl, Nat.le_of_ble_eq_true rfl⟩)) (fun r_330 e_330 => ?_)
    subst e_330
    refine lv_bipush (v := 8) hx hb dX10_store_26 (by decide) ?_
    refine lv_icmp_lt (tgt := 36) hx hb dX10_store_28 (by decide) (fun c_332 => ?_) (fun c_332 => ?_)
    · replace h := op c_332 h
      refine lv_lload hx hb dX10_store_36 (lv_at hl 5 rfl) ?_
      refine lv_iload hx hb dX10_store_38 (lv_at hl 0 rfl) ?_
      refine lv_aload_n hx hb dX10_store_40 rfl (lv_at hl 1 rfl) ?_
      refine lv_iload_n hx hb dX10_store_41 rfl (lv_at hl 2 rfl) ?_
      obtain ⟨o_333, hr_333, h⟩ := ob h
      refine vp_callSi (va_Run.run (va_runV (As := [.int x1]) (rest := [.int o_324, .long x4, .int o_326, .ref q_now]) ⟨hx, hb, hml, hown, hts⟩ (c_X10_kindOf l dC dI cB cC cI cJ cZ cT h0 q_now q_text q_row q_read q_ranks q_distinct q_proper q_line q_order q_then q_bestOrder q_lineThen q_undos q_was q_kept q_isKept v_typed v_rowMany v_thrown v_length v_at v_wrong v_properMany v_orderMany v_undoMany v_drawn v_now x1 o_333 hr_333) (cwV 1 hts gX10_store_X10_kindOf rfl rfl rfl (by decide +kernel) ⟨Nat.le_of_ble_eq_true rfl, Nat.le_of_ble_eq_true rfl⟩) ⟨blR, va_recv hK hP (ci := 8) (q0 := 0) rfl rfl, fun U hU hW => ⟨rfl, by rw [hU]; exact hP.sub [0, 1] rfl, va_K.moved hW.alike hK⟩⟩ rfl rfl hl.1 rfl (lv_room (Nat.le_of_ble_eq_true rfl)) dX10_store_42 ⟨Nat.le_of_ble_eq_true rfl, Nat.le_of_ble_eq_true rfl⟩)) (fun r_333 e_333 => ?_)
      subst e_333
      obtain ⟨o_335, hr_335, h⟩ := ob h
      refine vp_callSl (va_Run.run (va_runS (As := [.long x4, .int o_324, .int o_333]) (rest := [.int o_326, .ref q_now]) ⟨hx, hb, hml, hown, hts⟩ (c_X10_widened l dC dI cB cC cI cJ cZ cT x4 o_324 o_333 o_335 hr_335) (va_cwS 3 hts gX10_store_X10_widened rfl rfl rfl (by decide +kernel) ⟨Nat.le_of_ble_eq_true rfl, Nat.le_of_ble_eq_true rfl⟩) ⟨blT, fun U hU hW => ⟨rfl, trivial⟩⟩ rfl rfl hl.1 rfl (lv_room (Nat.le_of_ble_eq_true rfl)) dX10_store_45 ⟨Nat.le_of_ble_eq_true rfl, Nat.le_of_ble_eq_true rfl⟩)) (fun r_335 e_335 => ?_)
      subst e_335
      obtain ⟨hi_337, h⟩ := og h
      refine va_last hx hb hK hP hD hS 1 1 rfl rfl hi_337 dX10_store_48 (fun H locs hP hD hS => ?_)
      replace hP : va_P (dC, dI) vwCl [(h0, .inr (8, [.ref q_now, .ref q_text, .int v_typed, .ref q_row, .int v_rowMany, .int v_thrown, .int v_length, .int v_at, .int v_wrong, .ref q_read, .ref q_ranks, .ref q_distinct, .ref q_proper, .int v_properMany, .ref q_line, .ref q_order, .int v_orderMany, .ref q_then, .ref q_bestOrder, .ref q_lineThen, .ref q_undos, .ref q_was, .int v_undoMany, .int v_drawn, .ref q_kept, .ref q_isKept])), (q_now, .inl (cJ, 120, .inr (.inl (vp_updL v_now (o_326).toNatClampNeg o_335))))] H := hP
      replace hD : va_D A [(h0, .inr (8, [.ref q_now, .ref q_text, .int v_typed, .ref q_row, .int v_rowMany, .int v_thrown, .int v_length, .int v_at, .int v_wrong, .ref q_read, .ref q_ranks, .ref q_distinct, .ref q_proper, .int v_properMany, .ref q_line, .ref q_order, .int v_orderMany, .ref q_then, .ref q_bestOrder, .ref q_lineThen, .ref q_undos, .ref q_was, .int v_undoMany, .int v_drawn, .ref q_kept, .ref q_isKept])), (q_now, .inl (cJ, 120, .inr (.inl (vp_updL v_now (o_326).toNatClampNeg o_335))))] := hD
      rw [hQQ]
      have ho := Option.some.inj h
      subst ho
      exact W.vret hx hb hr (fun t ht hW => ⟨⟨(), rfl, trivial, by rw [ht]; exact hP, va_K.moved hW.alike hK, hD⟩, hS.F ht⟩) hS.2.2 dX10_store_49
    · replace h := on c_332 h
      refine lv_lload hx hb dX10_store_31 (lv_at hl 5 rfl) ?_
      refine lv_goto (tgt := 48) hx hb dX10_store_33 (by decide) ?_
      obtain ⟨hi_338, h⟩ := og h
      refine va_last hx hb hK hP hD hS 1 1 rfl rfl hi_338 dX10_store_48 (fun H locs hP hD hS => ?_)
      replace hP : va_P (dC, dI) vwCl [(h0, .inr (8, [.ref q_now, .ref q_text, .int v_typed, .ref q_row, .int v_rowMany, .int v_thrown, .int v_length, .int v_at, .int v_wrong, .ref q_read, .ref q_ranks, .ref q_distinct, .ref q_proper, .int v_properMany, .ref q_line, .ref q_order, .int v_orderMany, .ref q_then, .ref q_bestOrder, .ref q_lineThen, .ref q_undos, .ref q_was, .int v_undoMany, .int v_drawn, .ref q_kept, .ref q_isKept])), (q_now, .inl (cJ, 120, .inr (.inl (vp_updL v_now (o_326).toNatClampNeg x4))))] H := hP
      replace hD : va_D A [(h0, .inr (8, [.ref q_now, .ref q_text, .int v_typed, .ref q_row, .int v_rowMany, .int v_thrown, .int v_length, .int v_at, .int v_wrong, .ref q_read, .ref q_ranks, .ref q_distinct, .ref q_proper, .int v_properMany, .ref q_line, .ref q_order, .int v_orderMany, .ref q_then, .ref q_bestOrder, .ref q_lineThen, .ref q_undos, .ref q_was, .int v_undoMany, .int v_drawn, .ref q_kept, .ref q_isKept])), (q_now, .inl (cJ, 120, .inr (.inl (vp_updL v_now (o_326).toNatClampNeg x4))))] := hD
      rw [hQQ]
      have ho := Option.some.inj h
      subst ho
      exact W.vret hx hb hr (fun t ht hW => ⟨⟨(), rfl, trivial, by rw [ht]; exact hP, va_K.moved hW.alike hK, hD⟩, hS.F ht⟩) hS.2.2 dX10_store_49
def f_X10_puts (v_now : Nat → Int64) (x1 : Int32) (x2 : Int32) (x3 : Int32) (x4 : Int32) : Option (Int32 × (Nat → Int64)) :=
  ((f_X10_kindOf v_now x1).bind (fun o_339 => ((f_X10_canHold o_339 x3).bind (fun o_341 => ((f_X10_whyNot v_now x1 x2 x3 (b2i o_341)).bind (fun o_343 => (if o_343 = 0 then ((f_X10_thingOf x3 x4).bind (fun o_346 => ((f_X10_store v_now x1 x2 x3 o_346).bind (fun o_348 => (some (o_343, o_348)))))) else (some (o_343, v_now)))))))))
abbrev rm_X10_puts : Room := { frames := 4, cells := 0, slots := 0, locals := 93 }
set_option maxHeartbeats 4000000 in
set_option maxRecDepth 100000 in
theorem c_X10_puts (l : Launch) (dC : Nat → ClassId) (dI : Nat → Nat → Nat) (cB cC cI cJ cZ cT : ClassId) (h0 q_now q_text q_row q_read q_ranks q_distinct q_proper q_line q_order q_then q_bestOrder q_lineThen q_undos q_was q_kept q_isKept : Nat) (sz : Nat) (v_typed : Int32) (v_rowMany : Int32) (v_thrown : Int32) (v_length : Int32) (v_at : Int32) (v_wrong : Int32) (v_properMany : Int32) (v_orderMany : Int32) (v_undoMany : Int32) (v_drawn : Int32) (v_now : Nat → Int64) (x1 : Int32) (x2 : Int32) (x3 : Int32) (x4 : Int32) (o : (Int32 × (Nat → Int64))) (hf : f_X10_puts v_now x1 x2 x3 x4 = some o) : Met l yX10_puts wsX10_puts rm_X10_puts (va_Pc [.ref h0, .int x1, .int x2, .int x3, .int x4] (fun U => U.heap.size = sz ∧ va_P (dC, dI) vwCl [(h0, .inr (8, [.ref q_now, .ref q_text, .int v_typed, .ref q_row, .int v_rowMany, .int v_thrown, .int v_length, .int v_at, .int v_wrong, .ref q_read, .ref q_ranks, .ref q_distinct, .ref q_proper, .int v_properMany, .ref q_line, .ref q_order, .int v_orderMany, .ref q_then, .ref q_bestOrder, .ref q_lineThen, .ref q_undos, .ref q_was, .int v_undoMany, .int v_drawn, .ref q_kept, .ref q_isKept])), (q_now, .inl (cJ, 120, .inr (.inl v_now)))] U.heap ∧ va_K (dC, dI) vwCl (tyA cB cC cI cJ cZ cT) U ∧ va_D (fun _ => True) [(h0, .inr (8, [.ref q_now, .ref q_text, .int v_typed, .ref q_row, .int v_rowMany, .int v_thrown, .int v_length, .int v_at, .int v_wrong, .ref q_read, .ref q_ranks, .ref q_distinct, .ref q_proper, .int v_properMany, .ref q_line, .ref q_order, .int v_orderMany, .ref q_then, .ref q_bestOrder, .ref q_lineThen, .ref q_undos, .ref q_was, .int v_undoMany, .int v_drawn, .ref q_kept, .ref q_isKept])), (q_now, .inl (cJ, 120, .inr (.inl v_now)))] ∧ SX (va_A [(h0, .inr (8, [.ref q_now, .ref q_text, .int v_typed, .ref q_row, .int v_rowMany, .int v_thrown, .int v_length, .int v_at, .int v_wrong, .ref q_read, .ref q_ranks, .ref q_distinct, .ref q_proper, .int v_properMany, .ref q_line, .ref q_order, .int v_orderMany, .ref q_then, .ref q_bestOrder, .ref q_lineThen, .ref q_undos, .ref q_was, .int v_undoMany, .int v_drawn, .ref q_kept, .ref q_isKept])), (q_now, .inl (cJ, 120, .inr (.inl v_now)))] sz) U U.heap)) (va_Qi (fun (r : Int32) (_ : Unit) => o.1 = r) (fun _ t => va_P (dC, dI) vwCl [(h0, .inr (8, [.ref q_now, .ref q_text, .int v_typed, .ref q_row, .int v_rowMany, .int v_thrown, .int v_length, .int v_at, .int v_wrong, .ref q_read, .ref q_ranks, .ref q_distinct, .ref q_proper, .int v_properMany, .ref q_line, .ref q_order, .int v_orderMany, .ref q_then, .ref q_bestOrder, .ref q_lineThen, .ref q_undos, .ref q_was, .int v_undoMany, .int v_drawn, .ref q_kept, .ref q_isKept])), (q_now, .inl (cJ, 120, .inr (.inl o.2)))] t.heap ∧ va_K (dC, dI) vwCl (tyA cB cC cI cJ cZ cT) t ∧ va_D (va_A [(h0, .inr (8, [.ref q_now, .ref q_text, .int v_typed, .ref q_row, .int v_rowMany, .int v_thrown, .int v_length, .int v_at, .int v_wrong, .ref q_read, .ref q_ranks, .ref q_distinct, .ref q_proper, .int v_properMany, .ref q_line, .ref q_order, .int v_orderMany, .ref q_then, .ref q_bestOrder, .ref q_lineThen, .ref q_undos, .ref q_was, .int v_undoMany, .int v_drawn, .ref q_kept, .ref q_isKept])), (q_now, .inl (cJ, 120, .inr (.inl v_now)))] sz) [(h0, .inr (8, [.ref q_now, .ref q_text, .int v_typed, .ref q_row, .int v_rowMany, .int v_thrown, .int v_length, .int v_at, .int v_wrong, .ref q_read, .ref q_ranks, .ref q_distinct, .ref q_proper, .int v_properMany, .ref q_line, .ref q_order, .int v_orderMany, .ref q_then, .ref q_bestOrder, .ref q_lineThen, .ref q_undos, .ref q_was, .int v_undoMany, .int v_drawn, .ref q_kept, .ref q_isKept])), (q_now, .inl (cJ, 120, .inr (.inl o.2)))]) (va_A [(h0, .inr (8, [.ref q_now, .ref q_text, .int v_typed, .ref q_row, .int v_rowMany, .int v_thrown, .int v_length, .int v_at, .int v_wrong, .ref q_read, .ref q_ranks, .ref q_distinct, .ref q_proper, .int v_properMany, .ref q_line, .ref q_order, .int v_orderMany, .ref q_then, .ref q_bestOrder, .ref q_lineThen, .ref q_undos, .ref q_was, .int v_undoMany, .int v_drawn, .ref q_kept, .ref q_isKept])), (q_now, .inl (cJ, 120, .inr (.inl v_now)))] sz)) 0 0 (va_A [(h0, .inr (8, [.ref q_now, .ref q_text, .int v_typed, .ref q_row, .int v_rowMany, .int v_thrown, .int v_length, .int v_at, .int v_wrong, .ref q_read, .ref q_ranks, .ref q_distinct, .ref q_proper, .int v_properMany, .ref q_line, .ref q_order, .int v_orderMany, .ref q_then, .ref q_bestOrder, .ref q_lineThen, .ref q_undos, .ref q_was, .int v_undoMany, .int v_drawn, .ref q_kept, .ref q_isKept])), (q_now, .inl (cJ, 120, .inr (.inl v_now)))] sz) := by
  refine Met.ofW (cc := cX10_puts) (maxL := 6) (ret := (some .int)) (by decide +kernel) rfl ?_
  intro p e s m args below meth c s₁ B hml hv
  obtain ⟨hav, hsz, hP, hK, hD0, hX⟩ := hv
  have hx := B.exec
  have hb := B.bytes
  have hr := B.returns
  have hts := atoms_spec (ws := wsX10_puts) B.pre
  have hown : s.vm.findClass RX10 = some m.cls := findClass_of_methodNamed B.named
  have hlocks := B.notSynchronized
  subst hsz
  have hD := hD0.self (sz := s.heap.size)
  generalize hAe : va_A [(h0, .inr (8, [.ref q_now, .ref q_text, .int v_typed, .ref q_row, .int v_rowMany, .int v_thrown, .int v_length, .int v_at, .int v_wrong, .ref q_read, .ref q_ranks, .ref q_distinct, .ref q_proper, .int v_properMany, .ref q_line, .ref q_order, .int v_orderMany, .ref q_then, .ref q_bestOrder, .ref q_lineThen, .ref q_undos, .ref q_was, .int v_undoMany, .int v_drawn, .ref q_kept, .ref q_isKept])), (q_now, .inl (cJ, 120, .inr (.inl v_now)))] s.heap.size = A at hD hX ⊢
  have hA : ∀ q : Nat, s.heap.size ≤ q → A q := fun q h => by rw [← hAe]; exact Or.inr h
  have hS : va_S A s.heap s.heap [] := va_S.rf
  refine wstart (rm := rm_X10_puts) hav (Nat.le_of_ble_eq_true rfl) (fun QQ ls hQQ hl => ?_)
  have hl : lv_has ls 6 [(0, .ref h0), (1, .int x1), (2, .int x2), (3, .int x3), (4, .int x4)] := hl
  have h := hf
  unfold f_X10_puts at h
  refine lv_aload_n hx hb dX10_puts_0 rfl (lv_at hl 0 rfl) ?_
  refine lv_iload_n hx hb dX10_puts_1 rfl (lv_at hl 1 rfl) ?_
  refine lv_iload_n hx hb dX10_puts_2 rfl (lv_at hl 2 rfl) ?_
  refine lv_iload_n hx hb dX10_puts_3 rfl (lv_at hl 3 rfl) ?_
  refine lv_aload_n hx hb dX10_puts_4 rfl (lv_at hl 0 rfl) ?_
  refine lv_aload_n hx hb dX10_puts_5 rfl (lv_at hl 0 rfl) ?_
  refine lv_iload_n hx hb dX10_puts_6 rfl (lv_at hl 1 rfl) ?_
  obtain ⟨o_339, hr_339, h⟩ := ob h
  refine vp_callSi (va_Run.run (va_runV (As := [.int x1]) (rest := [.ref h0, .int x3, .int x2, .int x1, .ref h0]) ⟨hx, hb, hml, hown, hts⟩ (c_X10_kindOf l dC dI cB cC cI cJ cZ cT h0 q_now q_text q_row q_read q_ranks q_distinct q_proper q_line q_order q_then q_bestOrder q_lineThen q_undos q_was q_kept q_isKept v_typed v_rowMany v_thrown v_length v_at v_wrong v_properMany v_orderMany v_undoMany v_drawn v_now x1 o_339 hr_339) (cwV 1 hts gX10_puts_X10_kindOf rfl rfl rfl (by decide +kernel) ⟨Nat.le_of_ble_eq_true rfl, Nat.le_of_ble_eq_true rfl⟩) ⟨blR, va_recv hK hP (ci := 8) (q0 := 0) rfl rfl, fun U hU hW => ⟨rfl, by rw [hU]; exact hP.sub [0, 1] rfl, va_K.moved hW.alike hK⟩⟩ rfl rfl hl.1 rfl (lv_room (Nat.le_of_ble_eq_true rfl)) dX10_puts_7 ⟨Nat.le_of_ble_eq_true rfl, Nat.le_of_ble_eq_true rfl⟩)) (fun r_339 e_339 => ?_)
  subst e_339
  refine lv_iload_n hx hb dX10_puts_10 rfl (lv_at hl 3 rfl) ?_
  obtain ⟨o_341, hr_341, h⟩ := ob h
  refine vp_callSi (va_Run.run (va_runV (As := [.int o_339, .int x3]) (rest := [.int x3, .int x2, .int x1, .ref h0]) ⟨hx, hb, hml, hown, hts⟩ (c_X10_canHold l dC dI cB cC cI cJ cZ cT h0 o_339 x3 o_341 hr_341) (cwV 2 hts gX10_puts_X10_canHold rfl rfl rfl (by decide +kernel) ⟨Nat.le_of_ble_eq_true rfl, Nat.le_of_ble_eq_true rfl⟩) ⟨blTX, va_recv hK hP (ci := 8) (q0 := 0) rfl rfl, fun U hU hW => ⟨rfl, by show SX (fun _ => False) U U.heap; rw [hU]; exact SX.use hW hS hX⟩⟩ rfl rfl hl.1 rfl (lv_room (Nat.le_of_ble_eq_true rfl)) dX10_puts_11 ⟨Nat.le_of_ble_eq_true rfl, Nat.le_of_ble_eq_true rfl⟩)) (fun r_341 e_341 => ?_)
  subst e_341
  obtain ⟨o_343, hr_343, h⟩ := ob h
  refine vp_callSi (va_Run.run (va_runV (As := [.int x1, .int x2, .int x3, .int (b2i o_341)]) (rest := []) ⟨hx, hb, hml, hown, hts⟩ (c_X10_whyNot l dC dI cB cC cI cJ cZ cT h0 q_now q_text q_row q_read q_ranks q_distinct q_proper q_line q_order q_then q_bestOrder q_lineThen q_undos q_was q_kept q_isKept v_typed v_rowMany v_thrown v_length v_at v_wrong v_properMany v_orderMany v_undoMany v_drawn v_now x1 x2 x3 (b2i o_341) o_343 hr_343) (cwV 4 hts gX10_puts_X10_whyNot rfl rfl rfl (by decide +kernel) ⟨Nat.le_of_ble_eq_true rfl, Nat.le_of_ble_eq_true rfl⟩) ⟨blR, va_recv hK hP (ci := 8) (q0 := 0) rfl rfl, fun U hU hW => ⟨rfl, by rw [hU]; exact hP.sub [0, 1] rfl, va_K.moved hW.alike hK⟩⟩ rfl rfl hl.1 rfl (lv_room (Nat.le_of_ble_eq_true rfl)) dX10_puts_14 ⟨Nat.le_of_ble_eq_true rfl, Nat.le_of_ble_eq_true rfl⟩)) (fun r_343 e_343 => ?_)
  subst e_343
  refine lv_istore (lv' := [(5, .int o_343), (0, .ref h0), (1, .int x1), (2, .int x2), (3, .int x3), (4, .int x4)]) hx hb dX10_puts_17 hl (by decide) rfl (fun ls hl => ?_)
  refine lv_iload hx hb dX10_puts_19 (lv_at hl 0 rfl) ?_
  refine lv_if_ne (tgt := 37) hx hb dX10_puts_21 (by decide) (fun c_345 => ?_) (fun c_345 => ?_)
  · replace h := on c_345 h
    refine lv_iload hx hb dX10_puts_37 (lv_at hl 0 rfl) ?_
    rw [hQQ]
    have ho := Option.some.inj h
    subst ho
    exact W.iret hx hb hr (fun t ht hW => ⟨⟨_, (), rfl, rfl, by rw [ht]; exact hP, va_K.moved hW.alike hK, hD⟩, hS.F ht⟩) hS.2.2 dX10_puts_39
  · replace h := op c_345 h
    refine lv_aload_n hx hb dX10_puts_24 rfl (lv_at hl 1 rfl) ?_
    refine lv_iload_n hx hb dX10_puts_25 rfl (lv_at hl 2 rfl) ?_
    refine lv_iload_n hx hb dX10_puts_26 rfl (lv_at hl 3 rfl) ?_
    refine lv_iload_n hx hb dX10_puts_27 rfl (lv_at hl 4 rfl) ?_
    refine lv_iload_n hx hb dX10_puts_28 rfl (lv_at hl 4 rfl) ?_
    refine lv_iload hx hb dX10_puts_29 (lv_at hl 5 rfl) ?_
    obtain ⟨o_346, hr_346, h⟩ := ob h
    refine vp_callSl (va_Run.run (va_runS (As := [.int x3, .int x4]) (rest := [.int x3, .int x2, .int x1, .ref h0]) ⟨hx, hb, hml, hown, hts⟩ (c_X10_thingOf l dC dI cB cC cI cJ cZ cT x3 x4 o_346 hr_346) (va_cwS 2 hts gX10_puts_X10_thingOf rfl rfl rfl (by decide +kernel) ⟨Nat.le_of_ble_eq_true rfl, Nat.le_of_ble_eq_true rfl⟩) ⟨blT, fun U hU hW => ⟨rfl, trivial⟩⟩ rfl rfl hl.1 rfl (lv_room (Nat.le_of_ble_eq_true rfl)) dX10_puts_31 ⟨Nat.le_of_ble_eq_true rfl, Nat.le_of_ble_eq_true rfl⟩)) (fun r_346 e_346 => ?_)
    subst e_346
    obtain ⟨o_348, hr_348, h⟩ := ob h
    have hPc := hP.sub (ws' := [(h0, .inr (8, [.ref q_now, .ref q_text, .int v_typed, .ref q_row, .int v_rowMany, .int v_thrown, .int v_length, .int v_at, .int v_wrong, .ref q_read, .ref q_ranks, .ref q_distinct, .ref q_proper, .int v_properMany, .ref q_line, .ref q_order, .int v_orderMany, .ref q_then, .ref q_bestOrder, .ref q_lineThen, .ref q_undos, .ref q_was, .int v_undoMany, .int v_drawn, .ref q_kept, .ref q_isKept])), (q_now, .inl (cJ, 120, .inr (.inl v_now)))]) [0, 1] rfl
    have hDc := hD.sub (ws' := [(h0, .inr (8, [.ref q_now, .ref q_text, .int v_typed, .ref q_row, .int v_rowMany, .int v_thrown, .int v_length, .int v_at, .int v_wrong, .ref q_read, .ref q_ranks, .ref q_distinct, .ref q_proper, .int v_properMany, .ref q_line, .ref q_order, .int v_orderMany, .ref q_then, .ref q_bestOrder, .ref q_lineThen, .ref q_undos, .ref q_was, .int v_undoMany, .int v_drawn, .ref q_kept, .ref q_isKept])), (q_now, .inl (cJ, 120, .inr (.inl v_now)))]) [0, 1] (by decide) rfl
    have hFc := va_free (wc := [(h0, .inr (8, [.ref q_now, .ref q_text, .int v_typed, .ref q_row, .int v_rowMany, .int v_thrown, .int v_length, .int v_at, .int v_wrong, .ref q_read, .ref q_ranks, .ref q_distinct, .ref q_proper, .int v_properMany, .ref q_line, .ref q_order, .int v_orderMany, .ref q_then, .ref q_bestOrder, .ref q_lineThen, .ref q_undos, .ref q_was, .int v_undoMany, .int v_drawn, .ref q_kept, .ref q_isKept])), (q_now, .inl (cJ, 120, .inr (.inl v_now)))]) hD hS hA [0, 1] rfl
    refine va_callv (va_runV (As := [.int x1, .int x2, .int x3, .long o_346]) (rest := []) ⟨hx, hb, hml, hown, hts⟩ (c_X10_store l dC dI cB cC cI cJ cZ cT h0 q_now q_text q_row q_read q_ranks q_distinct q_proper q_line q_order q_then q_bestOrder q_lineThen q_undos q_was q_kept q_isKept s.heap.size v_typed v_rowMany v_thrown v_length v_at v_wrong v_properMany v_orderMany v_undoMany v_drawn v_now x1 x2 x3 o_346 o_348 hr_348) (cwV 4 hts gX10_puts_X10_store rfl rfl rfl (by decide +kernel) ⟨Nat.le_of_ble_eq_true rfl, Nat.le_of_ble_eq_true rfl⟩) ⟨blW, va_recv hK hP (ci := 8) (q0 := 0) rfl rfl, fun U hU hW => ⟨rfl, by rw [hU], by rw [hU]; exact hPc, va_K.moved hW.alike hK, hDc.weaken (fun _ _ _ _ => trivial)⟩⟩ rfl rfl hl.1 rfl (lv_room (Nat.le_of_ble_eq_true rfl)) dX10_puts_34 ⟨Nat.le_of_ble_eq_true rfl, Nat.le_of_ble_eq_true rfl⟩) hS (fun q _ h => hFc q h) hFc (fun u_348 t_348 H locs ht hvm e_348 hB hz1 hk1 hS => ?_)
    obtain ⟨hP1, -, hD1⟩ := hB
    rw [ht] at hP1
    obtain ⟨hP, hD⟩ := va_join (wr := []) (w1 := [(h0, .inr (8, [.ref q_now, .ref q_text, .int v_typed, .ref q_row, .int v_rowMany, .int v_thrown, .int v_length, .int v_at, .int v_wrong, .ref q_read, .ref q_ranks, .ref q_distinct, .ref q_proper, .int v_properMany, .ref q_line, .ref q_order, .int v_orderMany, .ref q_then, .ref q_bestOrder, .ref q_lineThen, .ref q_undos, .ref q_was, .int v_undoMany, .int v_drawn, .ref q_kept, .ref q_isKept])), (q_now, .inl (cJ, 120, .inr (.inl o_348)))]) hP hD [0, 1] [] rfl rfl (by decide) (by decide) hk1 hFc hP1 hD1
    replace hP := hP.sub (ws' := [(h0, .inr (8, [.ref q_now, .ref q_text, .int v_typed, .ref q_row, .int v_rowMany, .int v_thrown, .int v_length, .int v_at, .int v_wrong, .ref q_read, .ref q_ranks, .ref q_distinct, .ref q_proper, .int v_properMany, .ref q_line, .ref q_order, .int v_orderMany, .ref q_then, .ref q_bestOrder, .ref q_lineThen, .ref q_undos, .ref q_was, .int v_undoMany, .int v_drawn, .ref q_kept, .ref q_isKept])), (q_now, .inl (cJ, 120, .inr (.inl o_348)))]) [0, 1] rfl
    replace hD := hD.sub (ws' := [(h0, .inr (8, [.ref q_now, .ref q_text, .int v_typed, .ref q_row, .int v_rowMany, .int v_thrown, .int v_length, .int v_at, .int v_wrong, .ref q_read, .ref q_ranks, .ref q_distinct, .ref q_proper, .int v_properMany, .ref q_line, .ref q_order, .int v_orderMany, .ref q_then, .ref q_bestOrder, .ref q_lineThen, .ref q_undos, .ref q_was, .int v_undoMany, .int v_drawn, .ref q_kept, .ref q_isKept])), (q_now, .inl (cJ, 120, .inr (.inl o_348)))]) [0, 1] (by decide) rfl
    refine lv_iload hx hb dX10_puts_37 (lv_at hl 0 rfl) ?_
    rw [hQQ]
    have ho := Option.some.inj h
    subst ho
    exact W.iret hx hb hr (fun t ht hW => ⟨⟨_, (), rfl, rfl, by rw [ht]; exact hP, va_K.moved hW.alike hK, hD⟩, hS.F ht⟩) hS.2.2 dX10_puts_39
def L_X10_sheet_64 (x1 : Int32) (x2 : Int32) (x3 : Int32) (x4 : Int32) (x6 : Int32) : Nat → Int32 → Int32 → Int32 → (Nat → Int64) → Option (Int32 × (Nat → Int64))
  | 0, _, _, _, _ => none
  | n+1, x7_64, x8_64, x9_64, v_now_64 => (if x4 ≤ x9_64 then (some (x7_64, v_now_64)) else (((if x3 = 0 then (some (to_b x8_64)) else (((if x3 = (1 : Int32) then (some (to_s x8_64)) else (some x8_64))).bind (fun v_369 => (some v_369))))).bind (fun v_363 => ((f_X10_puts v_now_64 x1 x9_64 x2 v_363).bind (fun o_372 => (if o_372.1 = 0 then (L_X10_sheet_64 x1 x2 x3 x4 x6 n (x7_64 + 1) (x8_64 + x6) (x9_64 + 1) o_372.2) else (L_X10_sheet_64 x1 x2 x3 x4 x6 n x7_64 (x8_64 + x6) (x9_64 + 1) o_372.2)))))))
def f_X10_sheet (v_now : Nat → Int64) (x1 : Int32) (x2 : Int32) (x3 : Int32) (x4 : Int32) (x5 : Int32) (x6 : Int32) : Option (Int32 × Int32 × (Nat → Int64)) :=
  ((f_X10_isColumn v_now x1).bind (fun o_350 => (if (b2i o_350) = 0 then (some ((-1 : Int32), (0 : Int32), v_now)) else ((f_X10_isWay x2).bind (fun o_353 => (if (b2i o_353) = 0 then (some ((-1 : Int32), (0 : Int32), v_now)) else ((f_X10_in x3 (0 : Int32) (3 : Int32)).bind (fun o_356 => (if (b2i o_356) = 0 then (some ((-1 : Int32), (0 : Int32), v_now)) else (if x4 ≤ (16 : Int32) then (if x3 = (3 : Int32) then (some ((-3 : Int32), (0 : Int32), v_now)) else (if 0 ≤ x4 then ((L_X10_sheet_64 x1 x2 x3 x4 x6 fu (0 : Int32) x5 (0 : Int32) v_now).bind (fun w_375 => (some (w_375.1, (0 : Int32), w_375.2)))) else (some ((-2 : Int32), (0 : Int32), v_now)))) else (some ((-1 : Int32), (0 : Int32), v_now))))))))))))
abbrev rm_X10_sheet : Room := { frames := 5, cells := 0, slots := 0, locals := 118 }
set_option maxHeartbeats 4000000 in
set_option maxRecDepth 100000 in
theorem c_X10_sheet (l : Launch) (dC : Nat → ClassId) (dI : Nat → Nat → Nat) (cB cC cI cJ cZ cT : ClassId) (h0 q_now q_text q_row q_read q_ranks q_distinct q_proper q_line q_order q_then q_bestOrder q_lineThen q_undos q_was q_kept q_isKept : Nat) (sz : Nat) (v_typed : Int32) (v_rowMany : Int32) (v_thrown : Int32) (v_length : Int32) (v_at : Int32) (v_wrong : Int32) (v_properMany : Int32) (v_orderMany : Int32) (v_undoMany : Int32) (v_drawn : Int32) (v_now : Nat → Int64) (x1 : Int32) (x2 : Int32) (x3 : Int32) (x4 : Int32) (x5 : Int32) (x6 : Int32) (o : (Int32 × Int32 × (Nat → Int64))) (hf : f_X10_sheet v_now x1 x2 x3 x4 x5 x6 = some o) : Met l yX10_sheet wsX10_sheet rm_X10_sheet (va_Pc [.ref h0, .int x1, .int x2, .int x3, .int x4, .int x5, .int x6] (fun U => U.heap.size = sz ∧ va_P (dC, dI) vwCl [(h0, .inr (8, [.ref q_now, .ref q_text, .int v_typed, .ref q_row, .int v_rowMany, .int v_thrown, .int v_length, .int v_at, .int v_wrong, .ref q_read, .ref q_ranks, .ref q_distinct, .ref q_proper, .int v_properMany, .ref q_line, .ref q_order, .int v_orderMany, .ref q_then, .ref q_bestOrder, .ref q_lineThen, .ref q_undos, .ref q_was, .int v_undoMany, .int v_drawn, .ref q_kept, .ref q_isKept])), (q_now, .inl (cJ, 120, .inr (.inl v_now)))] U.heap ∧ va_K (dC, dI) vwCl (tyA cB cC cI cJ cZ cT) U ∧ va_D (fun _ => True) [(h0, .inr (8, [.ref q_now, .ref q_text, .int v_typed, .ref q_row, .int v_rowMany, .int v_thrown, .int v_length, .int v_at, .int v_wrong, .ref q_read, .ref q_ranks, .ref q_distinct, .ref q_proper, .int v_properMany, .ref q_line, .ref q_order, .int v_orderMany, .ref q_then, .ref q_bestOrder, .ref q_lineThen, .ref q_undos, .ref q_was, .int v_undoMany, .int v_drawn, .ref q_kept, .ref q_isKept])), (q_now, .inl (cJ, 120, .inr (.inl v_now)))] ∧ SX (va_A [(h0, .inr (8, [.ref q_now, .ref q_text, .int v_typed, .ref q_row, .int v_rowMany, .int v_thrown, .int v_length, .int v_at, .int v_wrong, .ref q_read, .ref q_ranks, .ref q_distinct, .ref q_proper, .int v_properMany, .ref q_line, .ref q_order, .int v_orderMany, .ref q_then, .ref q_bestOrder, .ref q_lineThen, .ref q_undos, .ref q_was, .int v_undoMany, .int v_drawn, .ref q_kept, .ref q_isKept])), (q_now, .inl (cJ, 120, .inr (.inl v_now)))] sz) U U.heap)) (va_Qi (fun (r : Int32) (_ : Unit) => o.1 = r) (fun _ t => va_P (dC, dI) vwCl [(h0, .inr (8, [.ref q_now, .ref q_text, .int v_typed, .ref q_row, .int v_rowMany, .int o.2.1, .int v_length, .int v_at, .int v_wrong, .ref q_read, .ref q_ranks, .ref q_distinct, .ref q_proper, .int v_properMany, .ref q_line, .ref q_order, .int v_orderMany, .ref q_then, .ref q_bestOrder, .ref q_lineThen, .ref q_undos, .ref q_was, .int v_undoMany, .int v_drawn, .ref q_kept, .ref q_isKept])), (q_now, .inl (cJ, 120, .inr (.inl o.2.2)))] t.heap ∧ va_K (dC, dI) vwCl (tyA cB cC cI cJ cZ cT) t ∧ va_D (va_A [(h0, .inr (8, [.ref q_now, .ref q_text, .int v_typed, .ref q_row, .int v_rowMany, .int v_thrown, .int v_length, .int v_at, .int v_wrong, .ref q_read, .ref q_ranks, .ref q_distinct, .ref q_proper, .int v_properMany, .ref q_line, .ref q_order, .int v_orderMany, .ref q_then, .ref q_bestOrder, .ref q_lineThen, .ref q_undos, .ref q_was, .int v_undoMany, .int v_drawn, .ref q_kept, .ref q_isKept])), (q_now, .inl (cJ, 120, .inr (.inl v_now)))] sz) [(h0, .inr (8, [.ref q_now, .ref q_text, .int v_typed, .ref q_row, .int v_rowMany, .int o.2.1, .int v_length, .int v_at, .int v_wrong, .ref q_read, .ref q_ranks, .ref q_distinct, .ref q_proper, .int v_properMany, .ref q_line, .ref q_order, .int v_orderMany, .ref q_then, .ref q_bestOrder, .ref q_lineThen, .ref q_undos, .ref q_was, .int v_undoMany, .int v_drawn, .ref q_kept, .ref q_isKept])), (q_now, .inl (cJ, 120, .inr (.inl o.2.2)))]) (va_A [(h0, .inr (8, [.ref q_now, .ref q_text, .int v_typed, .ref q_row, .int v_rowMany, .int v_thrown, .int v_length, .int v_at, .int v_wrong, .ref q_read, .ref q_ranks, .ref q_distinct, .ref q_proper, .int v_properMany, .ref q_line, .ref q_order, .int v_orderMany, .ref q_then, .ref q_bestOrder, .ref q_lineThen, .ref q_undos, .ref q_was, .int v_undoMany, .int v_drawn, .ref q_kept, .ref q_isKept])), (q_now, .inl (cJ, 120, .inr (.inl v_now)))] sz)) 0 0 (va_A [(h0, .inr (8, [.ref q_now, .ref q_text, .int v_typed, .ref q_row, .int v_rowMany, .int v_thrown, .int v_length, .int v_at, .int v_wrong, .ref q_read, .ref q_ranks, .ref q_distinct, .ref q_proper, .int v_properMany, .ref q_line, .ref q_order, .int v_orderMany, .ref q_then, .ref q_bestOrder, .ref q_lineThen, .ref q_undos, .ref q_was, .int v_undoMany, .int v_drawn, .ref q_kept, .ref q_isKept])), (q_now, .inl (cJ, 120, .inr (.inl v_now)))] sz) := by
  refine Met.ofW (cc := cX10_sheet) (maxL := 11) (ret := (some .int)) (by decide +kernel) rfl ?_
  intro p e s m args below meth c s₁ B hml hv
  obtain ⟨hav, hsz, hP, hK, hD0, hX⟩ := hv
  have hx := B.exec
  have hb := B.bytes
  have hr := B.returns
  have hts := atoms_spec (ws := wsX10_sheet) B.pre
  have hown : s.vm.findClass RX10 = some m.cls := findClass_of_methodNamed B.named
  have hlocks := B.notSynchronized
  subst hsz
  have hD := hD0.self (sz := s.heap.size)
  generalize hAe : va_A [(h0, .inr (8, [.ref q_now, .ref q_text, .int v_typed, .ref q_row, .int v_rowMany, .int v_thrown, .int v_length, .int v_at, .int v_wrong, .ref q_read, .ref q_ranks, .ref q_distinct, .ref q_proper, .int v_properMany, .ref q_line, .ref q_order, .int v_orderMany, .ref q_then, .ref q_bestOrder, .ref q_lineThen, .ref q_undos, .ref q_was, .int v_undoMany, .int v_drawn, .ref q_kept, .ref q_isKept])), (q_now, .inl (cJ, 120, .inr (.inl v_now)))] s.heap.size = A at hD hX ⊢
  have hA : ∀ q : Nat, s.heap.size ≤ q → A q := fun q h => by rw [← hAe]; exact Or.inr h
  have hS : va_S A s.heap s.heap [] := va_S.rf
  refine wstart (rm := rm_X10_sheet) hav (Nat.le_of_ble_eq_true rfl) (fun QQ ls hQQ hl => ?_)
  have hl : lv_has ls 11 [(0, .ref h0), (1, .int x1), (2, .int x2), (3, .int x3), (4, .int x4), (5, .int x5), (6, .int x6)] := hl
  have hi_X10 : ∀ w ∈ u_ws RX10 TX10 26, w ∈ wsX10_sheet := by decide +kernel
  have h := hf
  unfold f_X10_sheet at h
  refine lv_aload_n hx hb dX10_sheet_0 rfl (lv_at hl 0 rfl) ?_
  refine lv_iconst (v := 0) hx hb dX10_sheet_1 (by decide) ?_
  refine va_put (D := (dC, dI)) (ci := 8) (v := .int (0 : Int32)) (ty := .int) (C := RX10) (T := TX10) (N := 26) hx hb hts hi_X10 tyX10 tyX10_ok nmX10 hown hK hP hD hS 0 rfl rfl 5 (by decide) (hts _ (List.mem_of_getElem? (i := 1) rfl)) (fun _ h9 => h9) rfl (by decide +kernel) rfl rfl (Nat.le_of_ble_eq_true rfl) dX10_sheet_2 (fun H locs hP hD hS => ?_)
  replace hP : va_P (dC, dI) vwCl [(h0, .inr (8, [.ref q_now, .ref q_text, .int v_typed, .ref q_row, .int v_rowMany, .int (0 : Int32), .int v_length, .int v_at, .int v_wrong, .ref q_read, .ref q_ranks, .ref q_distinct, .ref q_proper, .int v_properMany, .ref q_line, .ref q_order, .int v_orderMany, .ref q_then, .ref q_bestOrder, .ref q_lineThen, .ref q_undos, .ref q_was, .int v_undoMany, .int v_drawn, .ref q_kept, .ref q_isKept])), (q_now, .inl (cJ, 120, .inr (.inl v_now)))] H := hP
  replace hD : va_D A [(h0, .inr (8, [.ref q_now, .ref q_text, .int v_typed, .ref q_row, .int v_rowMany, .int (0 : Int32), .int v_length, .int v_at, .int v_wrong, .ref q_read, .ref q_ranks, .ref q_distinct, .ref q_proper, .int v_properMany, .ref q_line, .ref q_order, .int v_orderMany, .ref q_then, .ref q_bestOrder, .ref q_lineThen, .ref q_undos, .ref q_was, .int v_undoMany, .int v_drawn, .ref q_kept, .ref q_isKept])), (q_now, .inl (cJ, 120, .inr (.inl v_now)))] := hD
  refine lv_aload_n hx hb dX10_sheet_5 rfl (lv_at hl 0 rfl) ?_
  refine lv_iload_n hx hb dX10_sheet_6 rfl (lv_at hl 1 rfl) ?_
  obtain ⟨o_350, hr_350, h⟩ := ob h
  refine vp_callSi (va_Run.run (va_runV (As := [.int x1]) (rest := []) ⟨hx, hb, hml, hown, hts⟩ (c_X10_isColumn l dC dI cB cC cI cJ cZ cT h0 q_now q_text q_row q_read q_ranks q_distinct q_proper q_line q_order q_then q_bestOrder q_lineThen q_undos q_was q_kept q_isKept v_typed v_rowMany (0 : Int32) v_length v_at v_wrong v_properMany v_orderMany v_undoMany v_drawn v_now x1 o_350 hr_350) (cwV 1 hts gX10_sheet_X10_isColumn rfl rfl rfl (by decide +kernel) ⟨Nat.le_of_ble_eq_true rfl, Nat.le_of_ble_eq_true rfl⟩) ⟨blR, va_recv hK hP (ci := 8) (q0 := 0) rfl rfl, fun U hU hW => ⟨rfl, by rw [hU]; exact hP.sub [0, 1] rfl, va_K.moved hW.alike hK⟩⟩ rfl rfl hl.1 rfl (lv_room (Nat.le_of_ble_eq_true rfl)) dX10_sheet_7 ⟨Nat.le_of_ble_eq_true rfl, Nat.le_of_ble_eq_true rfl⟩)) (fun r_350 e_350 => ?_)
  subst e_350
  refine lv_if_eq (tgt := 36) hx hb dX10_sheet_10 (by decide) (fun c_352 => ?_) (fun c_352 => ?_)
  · replace h := op c_352 h
    refine lv_iconst (v := -1) hx hb dX10_sheet_36 (by decide) ?_
    rw [hQQ]
    have ho := Option.some.inj h
    subst ho
    exact W.iret hx hb hr (fun t ht hW => ⟨⟨_, (), rfl, rfl, by rw [ht]; exact hP, va_K.moved hW.alike hK, hD⟩, hS.F ht⟩) hS.2.2 dX10_sheet_37
  · replace h := on c_352 h
    refine lv_iload_n hx hb dX10_sheet_13 rfl (lv_at hl 2 rfl) ?_
    obtain ⟨o_353, hr_353, h⟩ := ob h
    refine vp_callSi (va_Run.run (va_runS (As := [.int x2]) (rest := []) ⟨hx, hb, hml, hown, hts⟩ (c_X10_isWay l dC dI cB cC cI cJ cZ cT x2 o_353 hr_353) (va_cwS 1 hts gX10_sheet_X10_isWay rfl rfl rfl (by decide +kernel) ⟨Nat.le_of_ble_eq_true rfl, Nat.le_of_ble_eq_true rfl⟩) ⟨blT, fun U hU hW => ⟨rfl, trivial⟩⟩ rfl rfl hl.1 rfl (lv_room (Nat.le_of_ble_eq_true rfl)) dX10_sheet_14 ⟨Nat.le_of_ble_eq_true rfl, Nat.le_of_ble_eq_true rfl⟩)) (fun r_353 e_353 => ?_)
    subst e_353
    refine lv_if_eq (tgt := 36) hx hb dX10_sheet_17 (by decide) (fun c_355 => ?_) (fun c_355 => ?_)
    · replace h := op c_355 h
      refine lv_iconst (v := -1) hx hb dX10_sheet_36 (by decide) ?_
      rw [hQQ]
      have ho := Option.some.inj h
      subst ho
      exact W.iret hx hb hr (fun t ht hW => ⟨⟨_, (), rfl, rfl, by rw [ht]; exact hP, va_K.moved hW.alike hK, hD⟩, hS.F ht⟩) hS.2.2 dX10_sheet_37
    · replace h := on c_355 h
      refine lv_iload_n hx hb dX10_sheet_20 rfl (lv_at hl 3 rfl) ?_
      refine lv_iconst (v := 0) hx hb dX10_sheet_21 (by decide) ?_
      refine lv_iconst (v := 3) hx hb dX10_sheet_22 (by decide) ?_
      obtain ⟨o_356, hr_356, h⟩ := ob h
      refine vp_callSi (va_Run.run (va_runS (As := [.int x3, .int (0 : Int32), .int (3 : Int32)]) (rest := []) ⟨hx, hb, hml, hown, hts⟩ (c_X10_in l dC dI cB cC cI cJ cZ cT x3 (0 : Int32) (3 : Int32) o_356 hr_356) (va_cwS 3 hts gX10_sheet_X10_in rfl rfl rfl (by decide +kernel) ⟨Nat.le_of_ble_eq_true rfl, Nat.le_of_ble_eq_true rfl⟩) ⟨blT, fun U hU hW => ⟨rfl, trivial⟩⟩ rfl rfl hl.1 rfl (lv_room (Nat.le_of_ble_eq_true rfl)) dX10_sheet_23 ⟨Nat.le_of_ble_eq_true rfl, Nat.le_of_ble_eq_true rfl⟩)) (fun r_356 e_356 => ?_)
      subst e_356
      refine lv_if_eq (tgt := 36) hx hb dX10_sheet_26 (by decide) (fun c_358 => ?_) (fun c_358 => ?_)
      · replace h := op c_358 h
        refine lv_iconst (v := -1) hx hb dX10_sheet_36 (by decide) ?_
        rw [hQQ]
        have ho := Option.some.inj h
        subst ho
        exact W.iret hx hb hr (fun t ht hW => ⟨⟨_, (), rfl, rfl, by rw [ht]; exact hP, va_K.moved hW.alike hK, hD⟩, hS.F ht⟩) hS.2.2 dX10_sheet_37
      · replace h := on c_358 h
        refine lv_iload hx hb dX10_sheet_29 (lv_at hl 4 rfl) ?_
        refine lv_bipush (v := 16) hx hb dX10_sheet_31 (by decide) ?_
        refine lv_icmp_le (tgt := 38) hx hb dX10_sheet_33 (by decide) (fun c_359 => ?_) (fun c_359 => ?_)
        · replace h := op c_359 h
          refine lv_iload_n hx hb dX10_sheet_38 rfl (lv_at hl 3 rfl) ?_
          refine lv_iconst (v := 3) hx hb dX10_sheet_39 (by decide) ?_
          refine lv_icmp_ne (tgt := 46) hx hb dX10_sheet_40 (by decide) (fun c_360 => ?_) (fun c_360 => ?_)
          · replace h := on c_360 h
            refine lv_iload hx hb dX10_sheet_46 (lv_at hl 4 rfl) ?_
            refine lv_if_ge (tgt := 54) hx hb dX10_sheet_48 (by decide) (fun c_361 => ?_) (fun c_361 => ?_)
            · replace h := op c_361 h
              refine lv_iconst (v := 0) hx hb dX10_sheet_54 (by decide) ?_
              refine lv_istore (lv' := [(7, .int (0 : Int32)), (0, .ref h0), (1, .int x1), (2, .int x2), (3, .int x3), (4, .int x4), (5, .int x5), (6, .int x6)]) hx hb dX10_sheet_55 hl (by decide) rfl (fun ls hl => ?_)
              refine lv_iload hx hb dX10_sheet_57 (lv_at hl 6 rfl) ?_
              refine lv_istore (lv' := [(8, .int x5), (7, .int (0 : Int32)), (0, .ref h0), (1, .int x1), (2, .int x2), (3, .int x3), (4, .int x4), (5, .int x5), (6, .int x6)]) hx hb dX10_sheet_59 hl (by decide) rfl (fun ls hl => ?_)
              refine lv_iconst (v := 0) hx hb dX10_sheet_61 (by decide) ?_
              refine lv_istore (lv' := [(9, .int (0 : Int32)), (8, .int x5), (7, .int (0 : Int32)), (0, .ref h0), (1, .int x1), (2, .int x2), (3, .int x3), (4, .int x4), (5, .int x5), (6, .int x6)]) hx hb dX10_sheet_62 hl (by decide) rfl (fun ls hl => ?_)
              have LP_375 : ∀ (n : Nat) (x7_64 : Int32) (x8_64 : Int32) (x9_64 : Int32) (v_now_64 : (Nat → Int64)) (w : (Int32 × (Nat → Int64))) (H : Heap) (locs : List Loc) (ls : Array Slot), L_X10_sheet_64 x1 x2 x3 x4 x6 n x7_64 x8_64 x9_64 v_now_64 = some w → va_P (dC, dI) vwCl [(h0, .inr (8, [.ref q_now, .ref q_text, .int v_typed, .ref q_row, .int v_rowMany, .int (0 : Int32), .int v_length, .int v_at, .int v_wrong, .ref q_read, .ref q_ranks, .ref q_distinct, .ref q_proper, .int v_properMany, .ref q_line, .ref q_order, .int v_orderMany, .ref q_then, .ref q_bestOrder, .ref q_lineThen, .ref q_undos, .ref q_was, .int v_undoMany, .int v_drawn, .ref q_kept, .ref q_isKept])), (q_now, .inl (cJ, 120, .inr (.inl v_now_64)))] H → va_D A [(h0, .inr (8, [.ref q_now, .ref q_text, .int v_typed, .ref q_row, .int v_rowMany, .int (0 : Int32), .int v_length, .int v_at, .int v_wrong, .ref q_read, .ref q_ranks, .ref q_distinct, .ref q_proper, .int v_properMany, .ref q_line, .ref q_order, .int v_orderMany, .ref q_then, .ref q_bestOrder, .ref q_lineThen, .ref q_undos, .ref q_was, .int v_undoMany, .int v_drawn, .ref q_kept, .ref q_isKept])), (q_now, .inl (cJ, 120, .inr (.inl v_now_64)))] → va_S A s.heap H locs → lv_has ls 11 [(0, .ref h0), (1, .int x1), (2, .int x2), (3, .int x3), (4, .int x4), (6, .int x6), (7, .int x7_64), (8, .int x8_64), (9, .int x9_64)] → (∀ (H : Heap) (locs : List Loc) (ls : Array Slot), va_P (dC, dI) vwCl [(h0, .inr (8, [.ref q_now, .ref q_text, .int v_typed, .ref q_row, .int v_rowMany, .int (0 : Int32), .int v_length, .int v_at, .int v_wrong, .ref q_read, .ref q_ranks, .ref q_distinct, .ref q_proper, .int v_properMany, .ref q_line, .ref q_order, .int v_orderMany, .ref q_then, .ref q_bestOrder, .ref q_lineThen, .ref q_undos, .ref q_was, .int v_undoMany, .int v_drawn, .ref q_kept, .ref q_isKept])), (q_now, .inl (cJ, 120, .inr (.inl w.2)))] H → va_D A [(h0, .inr (8, [.ref q_now, .ref q_text, .int v_typed, .ref q_row, .int v_rowMany, .int (0 : Int32), .int v_length, .int v_at, .int v_wrong, .ref q_read, .ref q_ranks, .ref q_distinct, .ref q_proper, .int v_properMany, .ref q_line, .ref q_order, .int v_orderMany, .ref q_then, .ref q_bestOrder, .ref q_lineThen, .ref q_undos, .ref q_was, .int v_undoMany, .int v_drawn, .ref q_kept, .ref q_isKept])), (q_now, .inl (cJ, 120, .inr (.inl w.2)))] → va_S A s.heap H locs → lv_has ls 11 [(7, .int w.1)] → W p l e rm_X10_sheet s m args below meth c H locs 0 0 QQ (F0 m 125 ls [])) → W p l e rm_X10_sheet s m args below meth c H locs 0 0 QQ (F0 m 64 ls []) := by
                intro n
                induction n with
                | zero => intro x7_64 x8_64 x9_64 v_now_64 w H locs ls h; exact absurd (show none = some w from h) nofun
                | succ n ih =>
                  intro x7_64 x8_64 x9_64 v_now_64 w H locs ls h hP hD hS hl K
                  rw [L_X10_sheet_64] at h
                  refine lv_iload hx hb dX10_sheet_64 (lv_at hl 8 rfl) ?_
                  refine lv_iload hx hb dX10_sheet_66 (lv_at hl 4 rfl) ?_
                  refine lv_icmp_ge (tgt := 125) hx hb dX10_sheet_68 (by decide) (fun c_362 => ?_) (fun c_362 => ?_)
                  · replace h := op c_362 h
                    have ho := Option.some.inj h
                    subst ho
                    exact K H _ ls hP hD hS (lv_sub hl [6] rfl)
                  · replace h := on c_362 h
                    refine lv_iload_n hx hb dX10_sheet_71 rfl (lv_at hl 3 rfl) ?_
                    obtain ⟨v_363, hv_363, h⟩ := ob h
                    have J_363 : ∀ (H : Heap) (locs : List Loc) (ls : Array Slot), va_P (dC, dI) vwCl [(h0, .inr (8, [.ref q_now, .ref q_text, .int v_typed, .ref q_row, .int v_rowMany, .int (0 : Int32), .int v_length, .int v_at, .int v_wrong, .ref q_read, .ref q_ranks, .ref q_distinct, .ref q_proper, .int v_properMany, .ref q_line, .ref q_order, .int v_orderMany, .ref q_then, .ref q_bestOrder, .ref q_lineThen, .ref q_undos, .ref q_was, .int v_undoMany, .int v_drawn, .ref q_kept, .ref q_isKept])), (q_now, .inl (cJ, 120, .inr (.inl v_now_64)))] H → va_D A [(h0, .inr (8, [.ref q_now, .ref q_text, .int v_typed, .ref q_row, .int v_rowMany, .int (0 : Int32), .int v_length, .int v_at, .int v_wrong, .ref q_read, .ref q_ranks, .ref q_distinct, .ref q_proper, .int v_properMany, .ref q_line, .ref q_order, .int v_orderMany, .ref q_then, .ref q_bestOrder, .ref q_lineThen, .ref q_undos, .ref q_was, .int v_undoMany, .int v_drawn, .ref q_kept, .ref q_isKept])), (q_now, .inl (cJ, 120, .inr (.inl v_now_64)))] → va_S A s.heap H locs → lv_has ls 11 [(0, .ref h0), (1, .int x1), (2, .int x2), (3, .int x3), (4, .int x4), (6, .int x6), (7, .int x7_64), (8, .int x8_64), (9, .int x9_64)] → W p l e rm_X10_sheet s m args below meth c H locs 0 0 QQ (F0 m 94 ls [.int v_363]) := by
                      intro H locs ls hP hD hS hl
                      refine lv_istore (lv' := [(10, .int v_363), (0, .ref h0), (1, .int x1), (2, .int x2), (3, .int x3), (4, .int x4), (6, .int x6), (7, .int x7_64), (8, .int x8_64), (9, .int x9_64)]) hx hb dX10_sheet_94 hl (by decide) rfl (fun ls hl => ?_)
                      refine lv_aload_n hx hb dX10_sheet_96 rfl (lv_at hl 1 rfl) ?_
                      refine lv_iload_n hx hb dX10_sheet_97 rfl (lv_at hl 2 rfl) ?_
                      refine lv_iload hx hb dX10_sheet_98 (lv_at hl 9 rfl) ?_
                      refine lv_iload_n hx hb dX10_sheet_100 rfl (lv_at hl 3 rfl) ?_
                      refine lv_iload hx hb dX10_sheet_101 (lv_at hl 0 rfl) ?_
                      obtain ⟨o_372, hr_372, h⟩ := ob h
                      have hPc := hP.sub (ws' := [(h0, .inr (8, [.ref q_now, .ref q_text, .int v_typed, .ref q_row, .int v_rowMany, .int (0 : Int32), .int v_length, .int v_at, .int v_wrong, .ref q_read, .ref q_ranks, .ref q_distinct, .ref q_proper, .int v_properMany, .ref q_line, .ref q_order, .int v_orderMany, .ref q_then, .ref q_bestOrder, .ref q_lineThen, .ref q_undos, .ref q_was, .int v_undoMany, .int v_drawn, .ref q_kept, .ref q_isKept])), (q_now, .inl (cJ, 120, .inr (.inl v_now_64)))]) [0, 1] rfl
                      have hDc := hD.sub (ws' := [(h0, .inr (8, [.ref q_now, .ref q_text, .int v_typed, .ref q_row, .int v_rowMany, .int (0 : Int32), .int v_length, .int v_at, .int v_wrong, .ref q_read, .ref q_ranks, .ref q_distinct, .ref q_proper, .int v_properMany, .ref q_line, .ref q_order, .int v_orderMany, .ref q_then, .ref q_bestOrder, .ref q_lineThen, .ref q_undos, .ref q_was, .int v_undoMany, .int v_drawn, .ref q_kept, .ref q_isKept])), (q_now, .inl (cJ, 120, .inr (.inl v_now_64)))]) [0, 1] (by decide) rfl
                      have hFc := va_free (wc := [(h0, .inr (8, [.ref q_now, .ref q_text, .int v_typed, .ref q_row, .int v_rowMany, .int (0 : Int32), .int v_length, .int v_at, .int v_wrong, .ref q_read, .ref q_ranks, .ref q_distinct, .ref q_proper, .int v_properMany, .ref q_line, .ref q_order, .int v_orderMany, .ref q_then, .ref q_bestOrder, .ref q_lineThen, .ref q_undos, .ref q_was, .int v_undoMany, .int v_drawn, .ref q_kept, .ref q_isKept])), (q_now, .inl (cJ, 120, .inr (.inl v_now_64)))]) hD hS hA [0, 1] rfl
                      refine va_calli (va_runV (As := [.int x1, .int x9_64, .int x2, .int v_363]) (rest := []) ⟨hx, hb, hml, hown, hts⟩ (c_X10_puts l dC dI cB cC cI cJ cZ cT h0 q_now q_text q_row q_read q_ranks q_distinct q_proper q_line q_order q_then q_bestOrder q_lineThen q_undos q_was q_kept q_isKept H.size v_typed v_rowMany (0 : Int32) v_length v_at v_wrong v_properMany v_orderMany v_undoMany v_drawn v_now_64 x1 x9_64 x2 v_363 o_372 hr_372) (cwV 4 hts gX10_sheet_X10_puts rfl rfl rfl (by decide +kernel) ⟨Nat.le_of_ble_eq_true rfl, Nat.le_of_ble_eq_true rfl⟩) ⟨blWX, va_recv hK hP (ci := 8) (q0 := 0) rfl rfl, fun U hU hW => ⟨rfl, by rw [hU], by rw [hU]; exact hPc, va_K.moved hW.alike hK, hDc.weaken (fun _ _ _ _ => trivial), by rw [hU]; exact SX.useW hW hS hFc hX⟩⟩ rfl rfl hl.1 rfl (lv_room (Nat.le_of_ble_eq_true rfl)) dX10_sheet_103 ⟨Nat.le_of_ble_eq_true rfl, Nat.le_of_ble_eq_true rfl⟩) hS (fun q _ h => hFc q h) hFc (fun r_372 u_372 t_372 H locs ht hvm e_372 hB hz1 hk1 hS => ?_)
                      obtain ⟨hP1, -, hD1⟩ := hB
                      rw [ht] at hP1
                      obtain ⟨hP, hD⟩ := va_join (wr := []) (w1 := [(h0, .inr (8, [.ref q_now, .ref q_text, .int v_typed, .ref q_row, .int v_rowMany, .int (0 : Int32), .int v_length, .int v_at, .int v_wrong, .ref q_read, .ref q_ranks, .ref q_distinct, .ref q_proper, .int v_properMany, .ref q_line, .ref q_order, .int v_orderMany, .ref q_then, .ref q_bestOrder, .ref q_lineThen, .ref q_undos, .ref q_was, .int v_undoMany, .int v_drawn, .ref q_kept, .ref q_isKept])), (q_now, .inl (cJ, 120, .inr (.inl o_372.2)))]) hP hD [0, 1] [] rfl rfl (by decide) (by decide) hk1 hFc hP1 hD1
                      replace hP := hP.sub (ws' := [(h0, .inr (8, [.ref q_now, .ref q_text, .int v_typed, .ref q_row, .int v_rowMany, .int (0 : Int32), .int v_length, .int v_at, .int v_wrong, .ref q_read, .ref q_ranks, .ref q_distinct, .ref q_proper, .int v_properMany, .ref q_line, .ref q_order, .int v_orderMany, .ref q_then, .ref q_bestOrder, .ref q_lineThen, .ref q_undos, .ref q_was, .int v_undoMany, .int v_drawn, .ref q_kept, .ref q_isKept])), (q_now, .inl (cJ, 120, .inr (.inl o_372.2)))]) [0, 1] rfl
                      replace hD := hD.sub (ws' := [(h0, .inr (8, [.ref q_now, .ref q_text, .int v_typed, .ref q_row, .int v_rowMany, .int (0 : Int32), .int v_length, .int v_at, .int v_wrong, .ref q_read, .ref q_ranks, .ref q_distinct, .ref q_proper, .int v_properMany, .ref q_line, .ref q_order, .int v_orderMany, .ref q_then, .ref q_bestOrder, .ref q_lineThen, .ref q_undos, .ref q_was, .int v_undoMany, .int v_drawn, .ref q_kept, .ref q_isKept])), (q_now, .inl (cJ, 120, .inr (.inl o_372.2)))]) [0, 1] (by decide) rfl
                      subst e_372
                      refine lv_if_ne (tgt := 112) hx hb dX10_sheet_106 (by decide) (fun c_374 => ?_) (fun c_374 => ?_)
                      · replace h := on c_374 h
                        refine lv_iload hx hb dX10_sheet_112 (lv_at hl 8 rfl) ?_
                        refine lv_iload hx hb dX10_sheet_114 (lv_at hl 6 rfl) ?_
                        refine lv_iadd hx hb dX10_sheet_116 ?_
                        refine lv_istore (lv' := [(8, .int (x8_64 + x6)), (10, .int v_363), (0, .ref h0), (1, .int x1), (2, .int x2), (3, .int x3), (4, .int x4), (6, .int x6), (7, .int x7_64), (9, .int x9_64)]) hx hb dX10_sheet_117 hl (by decide) rfl (fun ls hl => ?_)
                        refine lv_iinc (v := (x9_64 + 1)) (lv' := [(9, .int (x9_64 + 1)), (8, .int (x8_64 + x6)), (10, .int v_363), (0, .ref h0), (1, .int x1), (2, .int x2), (3, .int x3), (4, .int x4), (6, .int x6), (7, .int x7_64)]) hx hb dX10_sheet_119 hl (k := 9) rfl (by rfl) (by decide) rfl (fun ls hl => ?_)
                        refine lv_goto (tgt := 64) hx hb dX10_sheet_122 (by decide) ?_
                        exact ih x7_64 (x8_64 + x6) (x9_64 + 1) o_372.2 w H _ ls h hP hD hS (lv_sub hl [3, 4, 5, 6, 7, 8, 9, 1, 0] rfl) K
                      · replace h := op c_374 h
                        refine lv_iinc (v := (x7_64 + 1)) (lv' := [(7, .int (x7_64 + 1)), (10, .int v_363), (0, .ref h0), (1, .int x1), (2, .int x2), (3, .int x3), (4, .int x4), (6, .int x6), (8, .int x8_64), (9, .int x9_64)]) hx hb dX10_sheet_109 hl (k := 7) rfl (by rfl) (by decide) rfl (fun ls hl => ?_)
                        refine lv_iload hx hb dX10_sheet_112 (lv_at hl 8 rfl) ?_
                        refine lv_iload hx hb dX10_sheet_114 (lv_at hl 7 rfl) ?_
                        refine lv_iadd hx hb dX10_sheet_116 ?_
                        refine lv_istore (lv' := [(8, .int (x8_64 + x6)), (7, .int (x7_64 + 1)), (10, .int v_363), (0, .ref h0), (1, .int x1), (2, .int x2), (3, .int x3), (4, .int x4), (6, .int x6), (9, .int x9_64)]) hx hb dX10_sheet_117 hl (by decide) rfl (fun ls hl => ?_)
                        refine lv_iinc (v := (x9_64 + 1)) (lv' := [(9, .int (x9_64 + 1)), (8, .int (x8_64 + x6)), (7, .int (x7_64 + 1)), (10, .int v_363), (0, .ref h0), (1, .int x1), (2, .int x2), (3, .int x3), (4, .int x4), (6, .int x6)]) hx hb dX10_sheet_119 hl (k := 9) rfl (by rfl) (by decide) rfl (fun ls hl => ?_)
                        refine lv_goto (tgt := 64) hx hb dX10_sheet_122 (by decide) ?_
                        exact ih (x7_64 + 1) (x8_64 + x6) (x9_64 + 1) o_372.2 w H _ ls h hP hD hS (lv_sub hl [4, 5, 6, 7, 8, 9, 2, 1, 0] rfl) K
                    replace h := hv_363
                    refine lv_if_ne (tgt := 81) hx hb dX10_sheet_72 (by decide) (fun c_368 => ?_) (fun c_368 => ?_)
                    · replace h := on c_368 h
                      refine lv_iload_n hx hb dX10_sheet_81 rfl (lv_at hl 3 rfl) ?_
                      refine lv_iconst (v := 1) hx hb dX10_sheet_82 (by decide) ?_
                      obtain ⟨v_369, hv_369, h⟩ := ob h
                      have J_369 : ∀ (H : Heap) (locs : List Loc) (ls : Array Slot), va_P (dC, dI) vwCl [(h0, .inr (8, [.ref q_now, .ref q_text, .int v_typed, .ref q_row, .int v_rowMany, .int (0 : Int32), .int v_length, .int v_at, .int v_wrong, .ref q_read, .ref q_ranks, .ref q_distinct, .ref q_proper, .int v_properMany, .ref q_line, .ref q_order, .int v_orderMany, .ref q_then, .ref q_bestOrder, .ref q_lineThen, .ref q_undos, .ref q_was, .int v_undoMany, .int v_drawn, .ref q_kept, .ref q_isKept])), (q_now, .inl (cJ, 120, .inr (.inl v_now_64)))] H → va_D A [(h0, .inr (8, [.ref q_now, .ref q_text, .int v_typed, .ref q_row, .int v_rowMany, .int (0 : Int32), .int v_length, .int v_at, .int v_wrong, .ref q_read, .ref q_ranks, .ref q_distinct, .ref q_proper, .int v_properMany, .ref q_line, .ref q_order, .int v_orderMany, .ref q_then, .ref q_bestOrder, .ref q_lineThen, .ref q_undos, .ref q_was, .int v_undoMany, .int v_drawn, .ref q_kept, .ref q_isKept])), (q_now, .inl (cJ, 120, .inr (.inl v_now_64)))] → va_S A s.heap H locs → lv_has ls 11 [(0, .ref h0), (1, .int x1), (2, .int x2), (3, .int x3), (4, .int x4), (6, .int x6), (7, .int x7_64), (8, .int x8_64), (9, .int x9_64)] → W p l e rm_X10_sheet s m args below meth c H locs 0 0 QQ (F0 m 94 ls [.int v_369]) := by
                        intro H locs ls hP hD hS hl
                        have ho := Option.some.inj h
                        subst ho
                        exact J_363 H _ ls hP hD hS (lv_sub hl [0, 1, 2, 3, 4, 5, 6, 7, 8] rfl)
                      replace h := hv_369
                      refine lv_icmp_ne (tgt := 92) hx hb dX10_sheet_83 (by decide) (fun c_371 => ?_) (fun c_371 => ?_)
                      · replace h := on c_371 h
                        refine lv_iload hx hb dX10_sheet_92 (lv_at hl 7 rfl) ?_
                        have ho := Option.some.inj h
                        subst ho
                        exact J_369 H _ ls hP hD hS (lv_sub hl [0, 1, 2, 3, 4, 5, 6, 7, 8] rfl)
                      · replace h := op c_371 h
                        refine lv_iload hx hb dX10_sheet_86 (lv_at hl 7 rfl) ?_
                        refine lv_i2s (v := (to_s x8_64)) hx hb dX10_sheet_88 rfl ?_
                        refine lv_goto (tgt := 94) hx hb dX10_sheet_89 (by decide) ?_
                        have ho := Option.some.inj h
                        subst ho
                        exact J_369 H _ ls hP hD hS (lv_sub hl [0, 1, 2, 3, 4, 5, 6, 7, 8] rfl)
                    · replace h := op c_368 h
                      refine lv_iload hx hb dX10_sheet_75 (lv_at hl 7 rfl) ?_
                      refine lv_i2b (v := (to_b x8_64)) hx hb dX10_sheet_77 rfl ?_
                      refine lv_goto (tgt := 94) hx hb dX10_sheet_78 (by decide) ?_
                      have ho := Option.some.inj h
                      subst ho
                      exact J_363 H _ ls hP hD hS (lv_sub hl [0, 1, 2, 3, 4, 5, 6, 7, 8] rfl)
              obtain ⟨w_375, hw_375, h⟩ := ob h
              refine LP_375 fu (0 : Int32) x5 (0 : Int32) v_now w_375 H _ ls hw_375 hP hD hS (lv_sub hl [3, 4, 5, 6, 7, 9, 2, 1, 0] rfl) (fun H locs ls hP hD hS hl => ?_)
              refine lv_iload hx hb dX10_sheet_125 (lv_at hl 0 rfl) ?_
              rw [hQQ]
              have ho := Option.some.inj h
              subst ho
              exact W.iret hx hb hr (fun t ht hW => ⟨⟨_, (), rfl, rfl, by rw [ht]; exact hP, va_K.moved hW.alike hK, hD⟩, hS.F ht⟩) hS.2.2 dX10_sheet_127
            · replace h := on c_361 h
              refine lv_bipush (v := -2) hx hb dX10_sheet_51 (by decide) ?_
              rw [hQQ]
              have ho := Option.some.inj h
              subst ho
              exact W.iret hx hb hr (fun t ht hW => ⟨⟨_, (), rfl, rfl, by rw [ht]; exact hP, va_K.moved hW.alike hK, hD⟩, hS.F ht⟩) hS.2.2 dX10_sheet_53
          · replace h := op c_360 h
            refine lv_bipush (v := -3) hx hb dX10_sheet_43 (by decide) ?_
            rw [hQQ]
            have ho := Option.some.inj h
            subst ho
            exact W.iret hx hb hr (fun t ht hW => ⟨⟨_, (), rfl, rfl, by rw [ht]; exact hP, va_K.moved hW.alike hK, hD⟩, hS.F ht⟩) hS.2.2 dX10_sheet_45
        · replace h := on c_359 h
          refine lv_iconst (v := -1) hx hb dX10_sheet_36 (by decide) ?_
          rw [hQQ]
          have ho := Option.some.inj h
          subst ho
          exact W.iret hx hb hr (fun t ht hW => ⟨⟨_, (), rfl, rfl, by rw [ht]; exact hP, va_K.moved hW.alike hK, hD⟩, hS.F ht⟩) hS.2.2 dX10_sheet_37
def f_X10_put (v_undoMany : Int32) (v_now : Nat → Int64) (v_undos : Nat → Int64) (v_was : Nat → Int64) (x1 : Int32) (x2 : Int32) (x3 : Int32) (x4 : Int32) : Option (Int32 × Int32 × Int32 × (Nat → Int64) × (Nat → Int64) × (Nat → Int64)) :=
  ((f_X10_isColumn v_now x1).bind (fun o_376 => (if (b2i o_376) = 0 then (some ((-1 : Int32), (0 : Int32), v_undoMany, v_now, v_undos, v_was)) else ((f_X10_isWay x3).bind (fun o_379 => (if (b2i o_379) = 0 then (some ((-1 : Int32), (0 : Int32), v_undoMany, v_now, v_undos, v_was)) else ((f_X10_lay v_now v_was).bind (fun o_382 => ((f_X10_puts v_now x1 x2 x3 x4).bind (fun o_384 => (if o_384.1 ≤ 0 then ((f_X10_note v_undoMany v_undos o_382).bind (fun o_387 => (some ((0 : Int32), (0 : Int32), o_387.1, o_384.2, o_387.2, o_382)))) else (some ((-o_384.1), (0 : Int32), v_undoMany, o_384.2, v_undos, o_382)))))))))))))
abbrev rm_X10_put : Room := { frames := 5, cells := 0, slots := 0, locals := 118 }
set_option maxHeartbeats 4000000 in
set_option maxRecDepth 100000 in
theorem c_X10_put (l : Launch) (dC : Nat → ClassId) (dI : Nat → Nat → Nat) (cB cC cI cJ cZ cT : ClassId) (h0 q_now q_text q_row q_read q_ranks q_distinct q_proper q_line q_order q_then q_bestOrder q_lineThen q_undos q_was q_kept q_isKept : Nat) (sz : Nat) (v_typed : Int32) (v_rowMany : Int32) (v_thrown : Int32) (v_length : Int32) (v_at : Int32) (v_wrong : Int32) (v_properMany : Int32) (v_orderMany : Int32) (v_undoMany : Int32) (v_drawn : Int32) (v_now : Nat → Int64) (v_undos : Nat → Int64) (v_was : Nat → Int64) (x1 : Int32) (x2 : Int32) (x3 : Int32) (x4 : Int32) (o : (Int32 × Int32 × Int32 × (Nat → Int64) × (Nat → Int64) × (Nat → Int64))) (hf : f_X10_put v_undoMany v_now v_undos v_was x1 x2 x3 x4 = some o) : Met l yX10_put wsX10_put rm_X10_put (va_Pc [.ref h0, .int x1, .int x2, .int x3, .int x4] (fun U => U.heap.size = sz ∧ va_P (dC, dI) vwCl [(h0, .inr (8, [.ref q_now, .ref q_text, .int v_typed, .ref q_row, .int v_rowMany, .int v_thrown, .int v_length, .int v_at, .int v_wrong, .ref q_read, .ref q_ranks, .ref q_distinct, .ref q_proper, .int v_properMany, .ref q_line, .ref q_order, .int v_orderMany, .ref q_then, .ref q_bestOrder, .ref q_lineThen, .ref q_undos, .ref q_was, .int v_undoMany, .int v_drawn, .ref q_kept, .ref q_isKept])), (q_now, .inl (cJ, 120, .inr (.inl v_now))), (q_undos, .inl (cJ, 960, .inr (.inl v_undos))), (q_was, .inl (cJ, 120, .inr (.inl v_was)))] U.heap ∧ va_K (dC, dI) vwCl (tyA cB cC cI cJ cZ cT) U ∧ va_D (fun _ => True) [(h0, .inr (8, [.ref q_now, .ref q_text, .int v_typed, .ref q_row, .int v_rowMany, .int v_thrown, .int v_length, .int v_at, .int v_wrong, .ref q_read, .ref q_ranks, .ref q_distinct, .ref q_proper, .int v_properMany, .ref q_line, .ref q_order, .int v_orderMany, .ref q_then, .ref q_bestOrder, .ref q_lineThen, .ref q_undos, .ref q_was, .int v_undoMany, .int v_drawn, .ref q_kept, .ref q_isKept])), (q_now, .inl (cJ, 120, .inr (.inl v_now))), (q_undos, .inl (cJ, 960, .inr (.inl v_undos))), (q_was, .inl (cJ, 120, .inr (.inl v_was)))] ∧ SX (va_A [(h0, .inr (8, [.ref q_now, .ref q_text, .int v_typed, .ref q_row, .int v_rowMany, .int v_thrown, .int v_length, .int v_at, .int v_wrong, .ref q_read, .ref q_ranks, .ref q_distinct, .ref q_proper, .int v_properMany, .ref q_line, .ref q_order, .int v_orderMany, .ref q_then, .ref q_bestOrder, .ref q_lineThen, .ref q_undos, .ref q_was, .int v_undoMany, .int v_drawn, .ref q_kept, .ref q_isKept])), (q_now, .inl (cJ, 120, .inr (.inl v_now))), (q_undos, .inl (cJ, 960, .inr (.inl v_undos))), (q_was, .inl (cJ, 120, .inr (.inl v_was)))] sz) U U.heap)) (va_Qi (fun (r : Int32) (_ : Unit) => o.1 = r) (fun _ t => va_P (dC, dI) vwCl [(h0, .inr (8, [.ref q_now, .ref q_text, .int v_typed, .ref q_row, .int v_rowMany, .int o.2.1, .int v_length, .int v_at, .int v_wrong, .ref q_read, .ref q_ranks, .ref q_distinct, .ref q_proper, .int v_properMany, .ref q_line, .ref q_order, .int v_orderMany, .ref q_then, .ref q_bestOrder, .ref q_lineThen, .ref q_undos, .ref q_was, .int o.2.2.1, .int v_drawn, .ref q_kept, .ref q_isKept])), (q_now, .inl (cJ, 120, .inr (.inl o.2.2.2.1))), (q_undos, .inl (cJ, 960, .inr (.inl o.2.2.2.2.1))), (q_was, .inl (cJ, 120, .inr (.inl o.2.2.2.2.2)))] t.heap ∧ va_K (dC, dI) vwCl (tyA cB cC cI cJ cZ cT) t ∧ va_D (va_A [(h0, .inr (8, [.ref q_now, .ref q_text, .int v_typed, .ref q_row, .int v_rowMany, .int v_thrown, .int v_length, .int v_at, .int v_wrong, .ref q_read, .ref q_ranks, .ref q_distinct, .ref q_proper, .int v_properMany, .ref q_line, .ref q_order, .int v_orderMany, .ref q_then, .ref q_bestOrder, .ref q_lineThen, .ref q_undos, .ref q_was, .int v_undoMany, .int v_drawn, .ref q_kept, .ref q_isKept])), (q_now, .inl (cJ, 120, .inr (.inl v_now))), (q_undos, .inl (cJ, 960, .inr (.inl v_undos))), (q_was, .inl (cJ, 120, .inr (.inl v_was)))] sz) [(h0, .inr (8, [.ref q_now, .ref q_text, .int v_typed, .ref q_row, .int v_rowMany, .int o.2.1, .int v_length, .int v_at, .int v_wrong, .ref q_read, .ref q_ranks, .ref q_distinct, .ref q_proper, .int v_properMany, .ref q_line, .ref q_order, .int v_orderMany, .ref q_then, .ref q_bestOrder, .ref q_lineThen, .ref q_undos, .ref q_was, .int o.2.2.1, .int v_drawn, .ref q_kept, .ref q_isKept])), (q_now, .inl (cJ, 120, .inr (.inl o.2.2.2.1))), (q_undos, .inl (cJ, 960, .inr (.inl o.2.2.2.2.1))), (q_was, .inl (cJ, 120, .inr (.inl o.2.2.2.2.2)))]) (va_A [(h0, .inr (8, [.ref q_now, .ref q_text, .int v_typed, .ref q_row, .int v_rowMany, .int v_thrown, .int v_length, .int v_at, .int v_wrong, .ref q_read, .ref q_ranks, .ref q_distinct, .ref q_proper, .int v_properMany, .ref q_line, .ref q_order, .int v_orderMany, .ref q_then, .ref q_bestOrder, .ref q_lineThen, .ref q_undos, .ref q_was, .int v_undoMany, .int v_drawn, .ref q_kept, .ref q_isKept])), (q_now, .inl (cJ, 120, .inr (.inl v_now))), (q_undos, .inl (cJ, 960, .inr (.inl v_undos))), (q_was, .inl (cJ, 120, .inr (.inl v_was)))] sz)) 0 0 (va_A [(h0, .inr (8, [.ref q_now, .ref q_text, .int v_typed, .ref q_row, .int v_rowMany, .int v_thrown, .int v_length, .int v_at, .int v_wrong, .ref q_read, .ref q_ranks, .ref q_distinct, .ref q_proper, .int v_properMany, .ref q_line, .ref q_order, .int v_orderMany, .ref q_then, .ref q_bestOrder, .ref q_lineThen, .ref q_undos, .ref q_was, .int v_undoMany, .int v_drawn, .ref q_kept, .ref q_isKept])), (q_now, .inl (cJ, 120, .inr (.inl v_now))), (q_undos, .inl (cJ, 960, .inr (.inl v_undos))), (q_was, .inl (cJ, 120, .inr (.inl v_was)))] sz) := by
  refine Met.ofW (cc := cX10_put) (maxL := 6) (ret := (some .int)) (by decide +kernel) rfl ?_
  intro p e s m args below meth c s₁ B hml hv
  obtain ⟨hav, hsz, hP, hK, hD0, hX⟩ := hv
  have hx := B.exec
  have hb := B.bytes
  have hr := B.returns
  have hts := atoms_spec (ws := wsX10_put) B.pre
  have hown : s.vm.findClass RX10 = some m.cls := findClass_of_methodNamed B.named
  have hlocks := B.notSynchronized
  subst hsz
  have hD := hD0.self (sz := s.heap.size)
  generalize hAe : va_A [(h0, .inr (8, [.ref q_now, .ref q_text, .int v_typed, .ref q_row, .int v_rowMany, .int v_thrown, .int v_length, .int v_at, .int v_wrong, .ref q_read, .ref q_ranks, .ref q_distinct, .ref q_proper, .int v_properMany, .ref q_line, .ref q_order, .int v_orderMany, .ref q_then, .ref q_bestOrder, .ref q_lineThen, .ref q_undos, .ref q_was, .int v_undoMany, .int v_drawn, .ref q_kept, .ref q_isKept])), (q_now, .inl (cJ, 120, .inr (.inl v_now))), (q_undos, .inl (cJ, 960, .inr (.inl v_undos))), (q_was, .inl (cJ, 120, .inr (.inl v_was)))] s.heap.size = A at hD hX ⊢
  have hA : ∀ q : Nat, s.heap.size ≤ q → A q := fun q h => by rw [← hAe]; exact Or.inr h
  have hS : va_S A s.heap s.heap [] := va_S.rf
  refine wstart (rm := rm_X10_put) hav (Nat.le_of_ble_eq_true rfl) (fun QQ ls hQQ hl => ?_)
  have hl : lv_has ls 6 [(0, .ref h0), (1, .int x1), (2, .int x2), (3, .int x3), (4, .int x4)] := hl
  have hi_X10 : ∀ w ∈ u_ws RX10 TX10 26, w ∈ wsX10_put := by decide +kernel
  have h := hf
  unfold f_X10_put at h
  refine lv_aload_n hx hb dX10_put_0 rfl (lv_at hl 0 rfl) ?_
  refine lv_iconst (v := 0) hx hb dX10_put_1 (by decide) ?_
  refine va_put (D := (dC, dI)) (ci := 8) (v := .int (0 : Int32)) (ty := .int) (C := RX10) (T := TX10) (N := 26) hx hb hts hi_X10 tyX10 tyX10_ok nmX10 hown hK hP hD hS 0 rfl rfl 5 (by decide) (hts _ (List.mem_of_getElem? (i := 1) rfl)) (fun _ h9 => h9) rfl (by decide +kernel) rfl rfl (Nat.le_of_ble_eq_true rfl) dX10_put_2 (fun H locs hP hD hS => ?_)
  replace hP : va_P (dC, dI) vwCl [(h0, .inr (8, [.ref q_now, .ref q_text, .int v_typed, .ref q_row, .int v_rowMany, .int (0 : Int32), .int v_length, .int v_at, .int v_wrong, .ref q_read, .ref q_ranks, .ref q_distinct, .ref q_proper, .int v_properMany, .ref q_line, .ref q_order, .int v_orderMany, .ref q_then, .ref q_bestOrder, .ref q_lineThen, .ref q_undos, .ref q_was, .int v_undoMany, .int v_drawn, .ref q_kept, .ref q_isKept])), (q_now, .inl (cJ, 120, .inr (.inl v_now))), (q_undos, .inl (cJ, 960, .inr (.inl v_undos))), (q_was, .inl (cJ, 120, .inr (.inl v_was)))] H := hP
  replace hD : va_D A [(h0, .inr (8, [.ref q_now, .ref q_text, .int v_typed, .ref q_row, .int v_rowMany, .int (0 : Int32), .int v_length, .int v_at, .int v_wrong, .ref q_read, .ref q_ranks, .ref q_distinct, .ref q_proper, .int v_properMany, .ref q_line, .ref q_order, .int v_orderMany, .ref q_then, .ref q_bestOrder, .ref q_lineThen, .ref q_undos, .ref q_was, .int v_undoMany, .int v_drawn, .ref q_kept, .ref q_isKept])), (q_now, .inl (cJ, 120, .inr (.inl v_now))), (q_undos, .inl (cJ, 960, .inr (.inl v_undos))), (q_was, .inl (cJ, 120, .inr (.inl v_was)))] := hD
  refine lv_aload_n hx hb dX10_put_5 rfl (lv_at hl 0 rfl) ?_
  refine lv_iload_n hx hb dX10_put_6 rfl (lv_at hl 1 rfl) ?_
  obtain ⟨o_376, hr_376, h⟩ := ob h
  refine vp_callSi (va_Run.run (va_runV (As := [.int x1]) (rest := []) ⟨hx, hb, hml, hown, hts⟩ (c_X10_isColumn l dC dI cB cC cI cJ cZ cT h0 q_now q_text q_row q_read q_ranks q_distinct q_proper q_line q_order q_then q_bestOrder q_lineThen q_undos q_was q_kept q_isKept v_typed v_rowMany (0 : Int32) v_length v_at v_wrong v_properMany v_orderMany v_undoMany v_drawn v_now x1 o_376 hr_376) (cwV 1 hts gX10_put_X10_isColumn rfl rfl rfl (by decide +kernel) ⟨Nat.le_of_ble_eq_true rfl, Nat.le_of_ble_eq_true rfl⟩) ⟨blR, va_recv hK hP (ci := 8) (q0 := 0) rfl rfl, fun U hU hW => ⟨rfl, by rw [hU]; exact hP.sub [0, 1] rfl, va_K.moved hW.alike hK⟩⟩ rfl rfl hl.1 rfl (lv_room (Nat.le_of_ble_eq_true rfl)) dX10_put_7 ⟨Nat.le_of_ble_eq_true rfl, Nat.le_of_ble_eq_true rfl⟩)) (fun r_376 e_376 => ?_)
  subst e_376
  refine lv_if_eq (tgt := 20) hx hb dX10_put_10 (by decide) (fun c_378 => ?_) (fun c_378 => ?_)
  · replace h := op c_378 h
    refine lv_iconst (v := -1) hx hb dX10_put_20 (by decide) ?_
    rw [hQQ]
    have ho := Option.some.inj h
    subst ho
    exact W.iret hx hb hr (fun t ht hW => ⟨⟨_, (), rfl, rfl, by rw [ht]; exact hP, va_K.moved hW.alike hK, hD⟩, hS.F ht⟩) hS.2.2 dX10_put_21
  · replace h := on c_378 h
    refine lv_iload_n hx hb dX10_put_13 rfl (lv_at hl 3 rfl) ?_
    obtain ⟨o_379, hr_379, h⟩ := ob h
    refine vp_callSi (va_Run.run (va_runS (As := [.int x3]) (rest := []) ⟨hx, hb, hml, hown, hts⟩ (c_X10_isWay l dC dI cB cC cI cJ cZ cT x3 o_379 hr_379) (va_cwS 1 hts gX10_put_X10_isWay rfl rfl rfl (by decide +kernel) ⟨Nat.le_of_ble_eq_true rfl, Nat.le_of_ble_eq_true rfl⟩) ⟨blT, fun U hU hW => ⟨rfl, trivial⟩⟩ rfl rfl hl.1 rfl (lv_room (Nat.le_of_ble_eq_true rfl)) dX10_put_14 ⟨Nat.le_of_ble_eq_true rfl, Nat.le_of_ble_eq_true rfl⟩)) (fun r_379 e_379 => ?_)
    subst e_379
    refine lv_if_ne (tgt := 22) hx hb dX10_put_17 (by decide) (fun c_381 => ?_) (fun c_381 => ?_)
    · replace h := on c_381 h
      refine lv_aload_n hx hb dX10_put_22 rfl (lv_at hl 0 rfl) ?_
      obtain ⟨o_382, hr_382, h⟩ := ob h
      have hPc := hP.sub (ws' := [(h0, .inr (8, [.ref q_now, .ref q_text, .int v_typed, .ref q_row, .int v_rowMany, .int (0 : Int32), .int v_length, .int v_at, .int v_wrong, .ref q_read, .ref q_ranks, .ref q_distinct, .ref q_proper, .int v_properMany, .ref q_line, .ref q_order, .int v_orderMany, .ref q_then, .ref q_bestOrder, .ref q_lineThen, .ref q_undos, .ref q_was, .int v_undoMany, .int v_drawn, .ref q_kept, .ref q_isKept])), (q_now, .inl (cJ, 120, .inr (.inl v_now))), (q_was, .inl (cJ, 120, .inr (.inl v_was)))]) [0, 1, 3] rfl
      have hDc := hD.sub (ws' := [(h0, .inr (8, [.ref q_now, .ref q_text, .int v_typed, .ref q_row, .int v_rowMany, .int (0 : Int32), .int v_length, .int v_at, .int v_wrong, .ref q_read, .ref q_ranks, .ref q_distinct, .ref q_proper, .int v_properMany, .ref q_line, .ref q_order, .int v_orderMany, .ref q_then, .ref q_bestOrder, .ref q_lineThen, .ref q_undos, .ref q_was, .int v_undoMany, .int v_drawn, .ref q_kept, .ref q_isKept])), (q_now, .inl (cJ, 120, .inr (.inl v_now))), (q_was, .inl (cJ, 120, .inr (.inl v_was)))]) [0, 1, 3] (by decide) rfl
      have hFc := va_free (wc := [(h0, .inr (8, [.ref q_now, .ref q_text, .int v_typed, .ref q_row, .int v_rowMany, .int (0 : Int32), .int v_length, .int v_at, .int v_wrong, .ref q_read, .ref q_ranks, .ref q_distinct, .ref q_proper, .int v_properMany, .ref q_line, .ref q_order, .int v_orderMany, .ref q_then, .ref q_bestOrder, .ref q_lineThen, .ref q_undos, .ref q_was, .int v_undoMany, .int v_drawn, .ref q_kept, .ref q_isKept])), (q_now, .inl (cJ, 120, .inr (.inl v_now))), (q_was, .inl (cJ, 120, .inr (.inl v_was)))]) hD hS hA [0, 1, 3] rfl
      refine va_callv (va_runV (As := []) (rest := []) ⟨hx, hb, hml, hown, hts⟩ (c_X10_lay l dC dI cB cC cI cJ cZ cT h0 q_now q_text q_row q_read q_ranks q_distinct q_proper q_line q_order q_then q_bestOrder q_lineThen q_undos q_was q_kept q_isKept H.size v_typed v_rowMany (0 : Int32) v_length v_at v_wrong v_properMany v_orderMany v_undoMany v_drawn v_now v_was o_382 hr_382) (cwV 0 hts gX10_put_X10_lay rfl rfl rfl (by decide +kernel) ⟨Nat.le_of_ble_eq_true rfl, Nat.le_of_ble_eq_true rfl⟩) ⟨blW, va_recv hK hP (ci := 8) (q0 := 0) rfl rfl, fun U hU hW => ⟨rfl, by rw [hU], by rw [hU]; exact hPc, va_K.moved hW.alike hK, hDc.weaken (fun _ _ _ _ => trivial)⟩⟩ rfl rfl hl.1 rfl (lv_room (Nat.le_of_ble_eq_true rfl)) dX10_put_23 ⟨Nat.le_of_ble_eq_true rfl, Nat.le_of_ble_eq_true rfl⟩) hS (fun q _ h => hFc q h) hFc (fun u_382 t_382 H locs ht hvm e_382 hB hz1 hk1 hS => ?_)
      obtain ⟨hP1, -, hD1⟩ := hB
      rw [ht] at hP1
      obtain ⟨hP, hD⟩ := va_join (wr := [(q_undos, .inl (cJ, 960, .inr (.inl v_undos)))]) (w1 := [(h0, .inr (8, [.ref q_now, .ref q_text, .int v_typed, .ref q_row, .int v_rowMany, .int (0 : Int32), .int v_length, .int v_at, .int v_wrong, .ref q_read, .ref q_ranks, .ref q_distinct, .ref q_proper, .int v_properMany, .ref q_line, .ref q_order, .int v_orderMany, .ref q_then, .ref q_bestOrder, .ref q_lineThen, .ref q_undos, .ref q_was, .int v_undoMany, .int v_drawn, .ref q_kept, .ref q_isKept])), (q_now, .inl (cJ, 120, .inr (.inl v_now))), (q_was, .inl (cJ, 120, .inr (.inl o_382)))]) hP hD [0, 1, 3] [2] rfl rfl (by decide) (by decide) hk1 hFc hP1 hD1
      replace hP := hP.sub (ws' := [(h0, .inr (8, [.ref q_now, .ref q_text, .int v_typed, .ref q_row, .int v_rowMany, .int (0 : Int32), .int v_length, .int v_at, .int v_wrong, .ref q_read, .ref q_ranks, .ref q_distinct, .ref q_proper, .int v_properMany, .ref q_line, .ref q_order, .int v_orderMany, .ref q_then, .ref q_bestOrder, .ref q_lineThen, .ref q_undos, .ref q_was, .int v_undoMany, .int v_drawn, .ref q_kept, .ref q_isKept])), (q_now, .inl (cJ, 120, .inr (.inl v_now))), (q_undos, .inl (cJ, 960, .inr (.inl v_undos))), (q_was, .inl (cJ, 120, .inr (.inl o_382)))]) [1, 2, 0, 3] rfl
      replace hD := hD.sub (ws' := [(h0, .inr (8, [.ref q_now, .ref q_text, .int v_typed, .ref q_row, .int v_rowMany, .int (0 : Int32), .int v_length, .int v_at, .int v_wrong, .ref q_read, .ref q_ranks, .ref q_distinct, .ref q_proper, .int v_properMany, .ref q_line, .ref q_order, .int v_orderMany, .ref q_then, .ref q_bestOrder, .ref q_lineThen, .ref q_undos, .ref q_was, .int v_undoMany, .int v_drawn, .ref q_kept, .ref q_isKept])), (q_now, .inl (cJ, 120, .inr (.inl v_now))), (q_undos, .inl (cJ, 960, .inr (.inl v_undos))), (q_was, .inl (cJ, 120, .inr (.inl o_382)))]) [1, 2, 0, 3] (by decide) rfl
      refine lv_aload_n hx hb dX10_put_26 rfl (lv_at hl 0 rfl) ?_
      refine lv_iload_n hx hb dX10_put_27 rfl (lv_at hl 1 rfl) ?_
      refine lv_iload_n hx hb dX10_put_28 rfl (lv_at hl 2 rfl) ?_
      refine lv_iload_n hx hb dX10_put_29 rfl (lv_at hl 3 rfl) ?_
      refine lv_iload hx hb dX10_put_30 (lv_at hl 4 rfl) ?_
      obtain ⟨o_384, hr_384, h⟩ := ob h
      have hPc := hP.sub (ws' := [(h0, .inr (8, [.ref q_now, .ref q_text, .int v_typed, .ref q_row, .int v_rowMany, .int (0 : Int32), .int v_length, .int v_at, .int v_wrong, .ref q_read, .ref q_ranks, .ref q_distinct, .ref q_proper, .int v_properMany, .ref q_line, .ref q_order, .int v_orderMany, .ref q_then, .ref q_bestOrder, .ref q_lineThen, .ref q_undos, .ref q_was, .int v_undoMany, .int v_drawn, .ref q_kept, .ref q_isKept])), (q_now, .inl (cJ, 120, .inr (.inl v_now)))]) [0, 1] rfl
      have hDc := hD.sub (ws' := [(h0, .inr (8, [.ref q_now, .ref q_text, .int v_typed, .ref q_row, .int v_rowMany, .int (0 : Int32), .int v_length, .int v_at, .int v_wrong, .ref q_read, .ref q_ranks, .ref q_distinct, .ref q_proper, .int v_properMany, .ref q_line, .ref q_order, .int v_orderMany, .ref q_then, .ref q_bestOrder, .ref q_lineThen, .ref q_undos, .ref q_was, .int v_undoMany, .int v_drawn, .ref q_kept, .ref q_isKept])), (q_now, .inl (cJ, 120, .inr (.inl v_now)))]) [0, 1] (by decide) rfl
      have hFc := va_free (wc := [(h0, .inr (8, [.ref q_now, .ref q_text, .int v_typed, .ref q_row, .int v_rowMany, .int (0 : Int32), .int v_length, .int v_at, .int v_wrong, .ref q_read, .ref q_ranks, .ref q_distinct, .ref q_proper, .int v_properMany, .ref q_line, .ref q_order, .int v_orderMany, .ref q_then, .ref q_bestOrder, .ref q_lineThen, .ref q_undos, .ref q_was, .int v_undoMany, .int v_drawn, .ref q_kept, .ref q_isKept])), (q_now, .inl (cJ, 120, .inr (.inl v_now)))]) hD hS hA [0, 1] rfl
      refine va_calli (va_runV (As := [.int x1, .int x2, .int x3, .int x4]) (rest := []) ⟨hx, hb, hml, hown, hts⟩ (c_X10_puts l dC dI cB cC cI cJ cZ cT h0 q_now q_text q_row q_read q_ranks q_distinct q_proper q_line q_order q_then q_bestOrder q_lineThen q_undos q_was q_kept q_isKept H.size v_typed v_rowMany (0 : Int32) v_length v_at v_wrong v_properMany v_orderMany v_undoMany v_drawn v_now x1 x2 x3 x4 o_384 hr_384) (cwV 4 hts gX10_put_X10_puts rfl rfl rfl (by decide +kernel) ⟨Nat.le_of_ble_eq_true rfl, Nat.le_of_ble_eq_true rfl⟩) ⟨blWX, va_recv hK hP (ci := 8) (q0 := 0) rfl rfl, fun U hU hW => ⟨rfl, by rw [hU], by rw [hU]; exact hPc, va_K.moved hW.alike hK, hDc.weaken (fun _ _ _ _ => trivial), by rw [hU]; exact SX.useW hW hS hFc hX⟩⟩ rfl rfl hl.1 rfl (lv_room (Nat.le_of_ble_eq_true rfl)) dX10_put_32 ⟨Nat.le_of_ble_eq_true rfl, Nat.le_of_ble_eq_true rfl⟩) hS (fun q _ h => hFc q h) hFc (fun r_384 u_384 t_384 H locs ht hvm e_384 hB hz1 hk1 hS => ?_)
      obtain ⟨hP1, -, hD1⟩ := hB
      rw [ht] at hP1
      obtain ⟨hP, hD⟩ := va_join (wr := [(q_undos, .inl (cJ, 960, .inr (.inl v_undos))), (q_was, .inl (cJ, 120, .inr (.inl o_382)))]) (w1 := [(h0, .inr (8, [.ref q_now, .ref q_text, .int v_typed, .ref q_row, .int v_rowMany, .int (0 : Int32), .int v_length, .int v_at, .int v_wrong, .ref q_read, .ref q_ranks, .ref q_distinct, .ref q_proper, .int v_properMany, .ref q_line, .ref q_order, .int v_orderMany, .ref q_then, .ref q_bestOrder, .ref q_lineThen, .ref q_undos, .ref q_was, .int v_undoMany, .int v_drawn, .ref q_kept, .ref q_isKept])), (q_now, .inl (cJ, 120, .inr (.inl o_384.2)))]) hP hD [0, 1] [2, 3] rfl rfl (by decide) (by decide) hk1 hFc hP1 hD1
      replace hP := hP.sub (ws' := [(h0, .inr (8, [.ref q_now, .ref q_text, .int v_typed, .ref q_row, .int v_rowMany, .int (0 : Int32), .int v_length, .int v_at, .int v_wrong, .ref q_read, .ref q_ranks, .ref q_distinct, .ref q_proper, .int v_properMany, .ref q_line, .ref q_order, .int v_orderMany, .ref q_then, .ref q_bestOrder, .ref q_lineThen, .ref q_undos, .ref q_was, .int v_undoMany, .int v_drawn, .ref q_kept, .ref q_isKept])), (q_now, .inl (cJ, 120, .inr (.inl o_384.2))), (q_undos, .inl (cJ, 960, .inr (.inl v_undos))), (q_was, .inl (cJ, 120, .inr (.inl o_382)))]) [2, 3, 0, 1] rfl
      replace hD := hD.sub (ws' := [(h0, .inr (8, [.ref q_now, .ref q_text, .int v_typed, .ref q_row, .int v_rowMany, .int (0 : Int32), .int v_length, .int v_at, .int v_wrong, .ref q_read, .ref q_ranks, .ref q_distinct, .ref q_proper, .int v_properMany, .ref q_line, .ref q_order, .int v_orderMany, .ref q_then, .ref q_bestOrder, .ref q_lineThen, .ref q_undos, .ref q_was, .int v_undoMany, .int v_drawn, .ref q_kept, .ref q_isKept])), (q_now, .inl (cJ, 120, .inr (.inl o_384.2))), (q_undos, .inl (cJ, 960, .inr (.inl v_undos))), (q_was, .inl (cJ, 120, .inr (.inl o_382)))]) [2, 3, 0, 1] (by decide) rfl
      subst e_384
      refine lv_istore (lv' := [(5, .int o_384.1), (0, .ref h0), (1, .int x1), (2, .int x2), (3, .int x3), (4, .int x4)]) hx hb dX10_put_35 hl (by decide) rfl (fun ls hl => ?_)
      refine lv_iload hx hb dX10_put_37 (lv_at hl 0 rfl) ?_
      refine lv_if_le (tgt := 46) hx hb dX10_put_39 (by decide) (fun c_386 => ?_) (fun c_386 => ?_)
      · replace h := op c_386 h
        refine lv_aload_n hx hb dX10_put_46 rfl (lv_at hl 1 rfl) ?_
        obtain ⟨o_387, hr_387, h⟩ := ob h
        have hPc := hP.sub (ws' := [(h0, .inr (8, [.ref q_now, .ref q_text, .int v_typed, .ref q_row, .int v_rowMany, .int (0 : Int32), .int v_length, .int v_at, .int v_wrong, .ref q_read, .ref q_ranks, .ref q_distinct, .ref q_proper, .int v_properMany, .ref q_line, .ref q_order, .int v_orderMany, .ref q_then, .ref q_bestOrder, .ref q_lineThen, .ref q_undos, .ref q_was, .int v_undoMany, .int v_drawn, .ref q_kept, .ref q_isKept])), (q_undos, .inl (cJ, 960, .inr (.inl v_undos))), (q_was, .inl (cJ, 120, .inr (.inl o_382)))]) [0, 2, 3] rfl
        have hDc := hD.sub (ws' := [(h0, .inr (8, [.ref q_now, .ref q_text, .int v_typed, .ref q_row, .int v_rowMany, .int (0 : Int32), .int v_length, .int v_at, .int v_wrong, .ref q_read, .ref q_ranks, .ref q_distinct, .ref q_proper, .int v_properMany, .ref q_line, .ref q_order, .int v_orderMany, .ref q_then, .ref q_bestOrder, .ref q_lineThen, .ref q_undos, .ref q_was, .int v_undoMany, .int v_drawn, .ref q_kept, .ref q_isKept])), (q_undos, .inl (cJ, 960, .inr (.inl v_undos))), (q_was, .inl (cJ, 120, .inr (.inl o_382)))]) [0, 2, 3] (by decide) rfl
        have hFc := va_free (wc := [(h0, .inr (8, [.ref q_now, .ref q_text, .int v_typed, .ref q_row, .int v_rowMany, .int (0 : Int32), .int v_length, .int v_at, .int v_wrong, .ref q_read, .ref q_ranks, .ref q_distinct, .ref q_proper, .int v_properMany, .ref q_line, .ref q_order, .int v_orderMany, .ref q_then, .ref q_bestOrder, .ref q_lineThen, .ref q_undos, .ref q_was, .int v_undoMany, .int v_drawn, .ref q_kept, .ref q_isKept])), (q_undos, .inl (cJ, 960, .inr (.inl v_undos))), (q_was, .inl (cJ, 120, .inr (.inl o_382)))]) hD hS hA [0, 2, 3] rfl
        refine va_callv (va_runV (As := []) (rest := []) ⟨hx, hb, hml, hown, hts⟩ (c_X10_note l dC dI cB cC cI cJ cZ cT h0 q_now q_text q_row q_read q_ranks q_distinct q_proper q_line q_order q_then q_bestOrder q_lineThen q_undos q_was q_kept q_isKept H.size v_typed v_rowMany (0 : Int32) v_length v_at v_wrong v_properMany v_orderMany v_undoMany v_drawn v_undos o_382 o_387 hr_387) (cwV 0 hts gX10_put_X10_note rfl rfl rfl (by decide +kernel) ⟨Nat.le_of_ble_eq_true rfl, Nat.le_of_ble_eq_true rfl⟩) ⟨blW, va_recv hK hP (ci := 8) (q0 := 0) rfl rfl, fun U hU hW => ⟨rfl, by rw [hU], by rw [hU]; exact hPc, va_K.moved hW.alike hK, hDc.weaken (fun _ _ _ _ => trivial)⟩⟩ rfl rfl hl.1 rfl (lv_room (Nat.le_of_ble_eq_true rfl)) dX10_put_47 ⟨Nat.le_of_ble_eq_true rfl, Nat.le_of_ble_eq_true rfl⟩) hS (fun q _ h => hFc q h) hFc (fun u_387 t_387 H locs ht hvm e_387 hB hz1 hk1 hS => ?_)
        obtain ⟨hP1, -, hD1⟩ := hB
        rw [ht] at hP1
        obtain ⟨hP, hD⟩ := va_join (wr := [(q_now, .inl (cJ, 120, .inr (.inl o_384.2)))]) (w1 := [(h0, .inr (8, [.ref q_now, .ref q_text, .int v_typed, .ref q_row, .int v_rowMany, .int (0 : Int32), .int v_length, .int v_at, .int v_wrong, .ref q_read, .ref q_ranks, .ref q_distinct, .ref q_proper, .int v_properMany, .ref q_line, .ref q_order, .int v_orderMany, .ref q_then, .ref q_bestOrder, .ref q_lineThen, .ref q_undos, .ref q_was, .int o_387.1, .int v_drawn, .ref q_kept, .ref q_isKept])), (q_undos, .inl (cJ, 960, .inr (.inl o_387.2))), (q_was, .inl (cJ, 120, .inr (.inl o_382)))]) hP hD [0, 2, 3] [1] rfl rfl (by decide) (by decide) hk1 hFc hP1 hD1
        replace hP := hP.sub (ws' := [(h0, .inr (8, [.ref q_now, .ref q_text, .int v_typed, .ref q_row, .int v_rowMany, .int (0 : Int32), .int v_length, .int v_at, .int v_wrong, .ref q_read, .ref q_ranks, .ref q_distinct, .ref q_proper, .int v_properMany, .ref q_line, .ref q_order, .int v_orderMany, .ref q_then, .ref q_bestOrder, .ref q_lineThen, .ref q_undos, .ref q_was, .int o_387.1, .int v_drawn, .ref q_kept, .ref q_isKept])), (q_now, .inl (cJ, 120, .inr (.inl o_384.2))), (q_undos, .inl (cJ, 960, .inr (.inl o_387.2))), (q_was, .inl (cJ, 120, .inr (.inl o_382)))]) [1, 0, 2, 3] rfl
        replace hD := hD.sub (ws' := [(h0, .inr (8, [.ref q_now, .ref q_text, .int v_typed, .ref q_row, .int v_rowMany, .int (0 : Int32), .int v_length, .int v_at, .int v_wrong, .ref q_read, .ref q_ranks, .ref q_distinct, .ref q_proper, .int v_properMany, .ref q_line, .ref q_order, .int v_orderMany, .ref q_then, .ref q_bestOrder, .ref q_lineThen, .ref q_undos, .ref q_was, .int o_387.1, .int v_drawn, .ref q_kept, .ref q_isKept])), (q_now, .inl (cJ, 120, .inr (.inl o_384.2))), (q_undos, .inl (cJ, 960, .inr (.inl o_387.2))), (q_was, .inl (cJ, 120, .inr (.inl o_382)))]) [1, 0, 2, 3] (by decide) rfl
        refine lv_iconst (v := 0) hx hb dX10_put_50 (by decide) ?_
        rw [hQQ]
        have ho := Option.some.inj h
        subst ho
        exact W.iret hx hb hr (fun t ht hW => ⟨⟨_, (), rfl, rfl, by rw [ht]; exact hP, va_K.moved hW.alike hK, hD⟩, hS.F ht⟩) hS.2.2 dX10_put_51
      · replace h := on c_386 h
        refine lv_iload hx hb dX10_put_42 (lv_at hl 0 rfl) ?_
        refine lv_ineg hx hb dX10_put_44 ?_
        rw [hQQ]
        have ho := Option.some.inj h
        subst ho
        exact W.iret hx hb hr (fun t ht hW => ⟨⟨_, (), rfl, rfl, by rw [ht]; exact hP, va_K.moved hW.alike hK, hD⟩, hS.F ht⟩) hS.2.2 dX10_put_45
    · replace h := op c_381 h
      refine lv_iconst (v := -1) hx hb dX10_put_20 (by decide) ?_
      rw [hQQ]
      have ho := Option.some.inj h
      subst ho
      exact W.iret hx hb hr (fun t ht hW => ⟨⟨_, (), rfl, rfl, by rw [ht]; exact hP, va_K.moved hW.alike hK, hD⟩, hS.F ht⟩) hS.2.2 dX10_put_21
def f_X10_whyTaken (v_now : Nat → Int64) (x1 : Int32) (x2 : Int32) (x3 : Int32) : Option Int32 :=
  (((if x3 = (10 : Int32) then (some (1 : Int32)) else ((f_X10_kindOf v_now x1).bind (fun o_411 => (((if (8 : Int32) ≤ o_411 then (some (0 : Int32)) else ((f_X10_kindOf v_now x1).bind (fun o_423 => ((f_X10_widens o_423 x3).bind (fun o_425 => (((if (b2i o_425) = 0 then (some (0 : Int32)) else (some (1 : Int32)))).bind (fun v_427 => (some v_427))))))))).bind (fun v_413 => (some v_413))))))).bind (fun v_389 => ((f_X10_whyNot v_now x1 x2 x3 v_389).bind (fun o_430 => (some o_430)))))
abbrev rm_X10_whyTaken : Room := { frames := 3, cells := 0, slots := 0, locals := 68 }
set_option maxHeartbeats 4000000 in
set_option maxRecDepth 100000 in
theorem c_X10_whyTaken (l : Launch) (dC : Nat → ClassId) (dI : Nat → Nat → Nat) (cB cC cI cJ cZ cT : ClassId) (h0 q_now q_text q_row q_read q_ranks q_distinct q_proper q_line q_order q_then q_bestOrder q_lineThen q_undos q_was q_kept q_isKept : Nat) (v_typed : Int32) (v_rowMany : Int32) (v_thrown : Int32) (v_length : Int32) (v_at : Int32) (v_wrong : Int32) (v_properMany : Int32) (v_orderMany : Int32) (v_undoMany : Int32) (v_drawn : Int32) (v_now : Nat → Int64) (x1 : Int32) (x2 : Int32) (x3 : Int32) (o : Int32) (hf : f_X10_whyTaken v_now x1 x2 x3 = some o) : Met l yX10_whyTaken wsX10_whyTaken rm_X10_whyTaken (va_Pc [.ref h0, .int x1, .int x2, .int x3] (fun U => va_P (dC, dI) vwCl [(h0, .inr (8, [.ref q_now, .ref q_text, .int v_typed, .ref q_row, .int v_rowMany, .int v_thrown, .int v_length, .int v_at, .int v_wrong, .ref q_read, .ref q_ranks, .ref q_distinct, .ref q_proper, .int v_properMany, .ref q_line, .ref q_order, .int v_orderMany, .ref q_then, .ref q_bestOrder, .ref q_lineThen, .ref q_undos, .ref q_was, .int v_undoMany, .int v_drawn, .ref q_kept, .ref q_isKept])), (q_now, .inl (cJ, 120, .inr (.inl v_now)))] U.heap ∧ va_K (dC, dI) vwCl (tyA cB cC cI cJ cZ cT) U ∧ SX (fun _ => False) U U.heap)) (vp_Si (fun r => o = r)) 0 0 (fun _ => False) := by
  refine Met.ofW (cc := cX10_whyTaken) (maxL := 4) (ret := (some .int)) (by decide +kernel) rfl ?_
  intro p e s m args below meth c s₁ B hml hv
  obtain ⟨hav, hP, hK, hX⟩ := hv
  have hx := B.exec
  have hb := B.bytes
  have hr := B.returns
  have hts := atoms_spec (ws := wsX10_whyTaken) B.pre
  have hown : s.vm.findClass RX10 = some m.cls := findClass_of_methodNamed B.named
  have hlocks := B.notSynchronized
  have hS : va_S (fun _ => False) s.heap s.heap [] := va_S.rf
  refine wstart (rm := rm_X10_whyTaken) hav (Nat.le_of_ble_eq_true rfl) (fun QQ ls hQQ hl => ?_)
  have hl : lv_has ls 4 [(0, .ref h0), (1, .int x1), (2, .int x2), (3, .int x3)] := hl
  have h := hf
  unfold f_X10_whyTaken at h
  refine lv_aload_n hx hb dX10_whyTaken_0 rfl (lv_at hl 0 rfl) ?_
  refine lv_iload_n hx hb dX10_whyTaken_1 rfl (lv_at hl 1 rfl) ?_
  refine lv_iload_n hx hb dX10_whyTaken_2 rfl (lv_at hl 2 rfl) ?_
  refine lv_iload_n hx hb dX10_whyTaken_3 rfl (lv_at hl 3 rfl) ?_
  refine lv_iload_n hx hb dX10_whyTaken_4 rfl (lv_at hl 3 rfl) ?_
  refine lv_bipush (v := 10) hx hb dX10_whyTaken_5 (by decide) ?_
  obtain ⟨v_389, hv_389, h⟩ := ob h
  have J_389 : ∀ (ls : Array Slot), lv_has ls 4 [] → W p l e rm_X10_whyTaken s m args below meth c s.heap [] 0 0 QQ (F0 m 37 ls [.int v_389, .int x3, .int x2, .int x1, .ref h0]) := by
    intro ls hl
    obtain ⟨o_430, hr_430, h⟩ := ob h
    refine vp_callSi (va_Run.run (va_runV (As := [.int x1, .int x2, .int x3, .int v_389]) (rest := []) ⟨hx, hb, hml, hown, hts⟩ (c_X10_whyNot l dC dI cB cC cI cJ cZ cT h0 q_now q_text q_row q_read q_ranks q_distinct q_proper q_line q_order q_then q_bestOrder q_lineThen q_undos q_was q_kept q_isKept v_typed v_rowMany v_thrown v_length v_at v_wrong v_properMany v_orderMany v_undoMany v_drawn v_now x1 x2 x3 v_389 o_430 hr_430) (cwV 4 hts gX10_whyTaken_X10_whyNot rfl rfl rfl (by decide +kernel) ⟨Nat.le_of_ble_eq_true rfl, Nat.le_of_ble_eq_true rfl⟩) ⟨blR, va_recv hK hP (ci := 8) (q0 := 0) rfl rfl, fun U hU hW => ⟨rfl, by rw [hU]; exact hP.sub [0, 1] rfl, va_K.moved hW.alike hK⟩⟩ rfl rfl hl.1 rfl (lv_room (Nat.le_of_ble_eq_true rfl)) dX10_whyTaken_37 ⟨Nat.le_of_ble_eq_true rfl, Nat.le_of_ble_eq_true rfl⟩)) (fun r_430 e_430 => ?_)
    subst e_430
    rw [hQQ]
    exact W.iret hx hb hr (fun t ht hW => ⟨_, rfl, (Option.some.inj h).symm, ht⟩) (fun q hq => absurd hq List.not_mem_nil) dX10_whyTaken_40
  replace h := hv_389
  refine lv_icmp_eq (tgt := 32) hx hb dX10_whyTaken_7 (by decide) (fun c_410 => ?_) (fun c_410 => ?_)
  · replace h := op c_410 h
    refine lv_iconst (v := 1) hx hb dX10_whyTaken_32 (by decide) ?_
    refine lv_goto (tgt := 37) hx hb dX10_whyTaken_33 (by decide) ?_
    have ho := Option.some.inj h
    subst ho
    exact J_389 ls (lv_sub hl [] rfl)
  · replace h := on c_410 h
    refine lv_aload_n hx hb dX10_whyTaken_10 rfl (lv_at hl 0 rfl) ?_
    refine lv_iload_n hx hb dX10_whyTaken_11 rfl (lv_at hl 1 rfl) ?_
    obtain ⟨o_411, hr_411, h⟩ := ob h
    refine vp_callSi (va_Run.run (va_runV (As := [.int x1]) (rest := [.int x3, .int x2, .int x1, .ref h0]) ⟨hx, hb, hml, hown, hts⟩ (c_X10_kindOf l dC dI cB cC cI cJ cZ cT h0 q_now q_text q_row q_read q_ranks q_distinct q_proper q_line q_order q_then q_bestOrder q_lineThen q_undos q_was q_kept q_isKept v_typed v_rowMany v_thrown v_length v_at v_wrong v_properMany v_orderMany v_undoMany v_drawn v_now x1 o_411 hr_411) (cwV 1 hts gX10_whyTaken_X10_kindOf rfl rfl rfl (by decide +kernel) ⟨Nat.le_of_ble_eq_true rfl, Nat.le_of_ble_eq_true rfl⟩) ⟨blR, va_recv hK hP (ci := 8) (q0 := 0) rfl rfl, fun U hU hW => ⟨rfl, by rw [hU]; exact hP.sub [0, 1] rfl, va_K.moved hW.alike hK⟩⟩ rfl rfl hl.1 rfl (lv_room (Nat.le_of_ble_eq_true rfl)) dX10_whyTaken_12 ⟨Nat.le_of_ble_eq_true rfl, Nat.le_of_ble_eq_true rfl⟩)) (fun r_411 e_411 => ?_)
    subst e_411
    refine lv_bipush (v := 8) hx hb dX10_whyTaken_15 (by decide) ?_
    obtain ⟨v_413, hv_413, h⟩ := ob h
    have J_413 : ∀ (ls : Array Slot), lv_has ls 4 [] → W p l e rm_X10_whyTaken s m args below meth c s.heap [] 0 0 QQ (F0 m 37 ls [.int v_413, .int x3, .int x2, .int x1, .ref h0]) := by
      intro ls hl
      have ho := Option.some.inj h
      subst ho
      exact J_389 ls (lv_sub hl [] rfl)
    replace h := hv_413
    refine lv_icmp_ge (tgt := 36) hx hb dX10_whyTaken_17 (by decide) (fun c_422 => ?_) (fun c_422 => ?_)
    · replace h := op c_422 h
      refine lv_iconst (v := 0) hx hb dX10_whyTaken_36 (by decide) ?_
      have ho := Option.some.inj h
      subst ho
      exact J_413 ls (lv_sub hl [] rfl)
    · replace h := on c_422 h
      refine lv_aload_n hx hb dX10_whyTaken_20 rfl (lv_at hl 0 rfl) ?_
      refine lv_iload_n hx hb dX10_whyTaken_21 rfl (lv_at hl 1 rfl) ?_
      obtain ⟨o_423, hr_423, h⟩ := ob h
      refine vp_callSi (va_Run.run (va_runV (As := [.int x1]) (rest := [.int x3, .int x2, .int x1, .ref h0]) ⟨hx, hb, hml, hown, hts⟩ (c_X10_kindOf l dC dI cB cC cI cJ cZ cT h0 q_now q_text q_row q_read q_ranks q_distinct q_proper q_line q_order q_then q_bestOrder q_lineThen q_undos q_was q_kept q_isKept v_typed v_rowMany v_thrown v_length v_at v_wrong v_properMany v_orderMany v_undoMany v_drawn v_now x1 o_423 hr_423) (cwV 1 hts gX10_whyTaken_X10_kindOf rfl rfl rfl (by decide +kernel) ⟨Nat.le_of_ble_eq_true rfl, Nat.le_of_ble_eq_true rfl⟩) ⟨blR, va_recv hK hP (ci := 8) (q0 := 0) rfl rfl, fun U hU hW => ⟨rfl, by rw [hU]; exact hP.sub [0, 1] rfl, va_K.moved hW.alike hK⟩⟩ rfl rfl hl.1 rfl (lv_room (Nat.le_of_ble_eq_true rfl)) dX10_whyTaken_22 ⟨Nat.le_of_ble_eq_true rfl, Nat.le_of_ble_eq_true rfl⟩)) (fun r_423 e_423 => ?_)
      subst e_423
      refine lv_iload_n hx hb dX10_whyTaken_25 rfl (lv_at hl 3 rfl) ?_
      obtain ⟨o_425, hr_425, h⟩ := ob h
      refine vp_callSi (va_Run.run (va_runS (As := [.int o_423, .int x3]) (rest := [.int x3, .int x2, .int x1, .ref h0]) ⟨hx, hb, hml, hown, hts⟩ (c_X10_widens l dC dI cB cC cI cJ cZ cT o_423 x3 o_425 hr_425) (va_cwS 2 hts gX10_whyTaken_X10_widens rfl rfl rfl (by decide +kernel) ⟨Nat.le_of_ble_eq_true rfl, Nat.le_of_ble_eq_true rfl⟩) ⟨blTX, fun U hU hW => ⟨rfl, by show SX (fun _ => False) U U.heap; rw [hU]; exact SX.use hW hS hX⟩⟩ rfl rfl hl.1 rfl (lv_room (Nat.le_of_ble_eq_true rfl)) dX10_whyTaken_26 ⟨Nat.le_of_ble_eq_true rfl, Nat.le_of_ble_eq_true rfl⟩)) (fun r_425 e_425 => ?_)
      subst e_425
      obtain ⟨v_427, hv_427, h⟩ := ob h
      have J_427 : ∀ (ls : Array Slot), lv_has ls 4 [] → W p l e rm_X10_whyTaken s m args below meth c s.heap [] 0 0 QQ (F0 m 37 ls [.int v_427, .int x3, .int x2, .int x1, .ref h0]) := by
        intro ls hl
        have ho := Option.some.inj h
        subst ho
        exact J_413 ls (lv_sub hl [] rfl)
      replace h := hv_427
      refine lv_if_eq (tgt := 36) hx hb dX10_whyTaken_29 (by decide) (fun c_429 => ?_) (fun c_429 => ?_)
      · replace h := op c_429 h
        refine lv_iconst (v := 0) hx hb dX10_whyTaken_36 (by decide) ?_
        have ho := Option.some.inj h
        subst ho
        exact J_427 ls (lv_sub hl [] rfl)
      · replace h := on c_429 h
        refine lv_iconst (v := 1) hx hb dX10_whyTaken_32 (by decide) ?_
        refine lv_goto (tgt := 37) hx hb dX10_whyTaken_33 (by decide) ?_
        have ho := Option.some.inj h
        subst ho
        exact J_427 ls (lv_sub hl [] rfl)
