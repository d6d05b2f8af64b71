def f_X10_thrown (v_thrown : Int32) : Option Int32 :=
  (some v_thrown)
abbrev rm_X10_thrown : Room := { frames := 0, cells := 0, slots := 0, locals := 0 }
set_option maxHeartbeats 4000000 in
set_option maxRecDepth 100000 in
theorem c_X10_thrown (l : Launch) (dC : Nat → ClassId) (dI : Nat → Nat → Nat) (cB cC cI cJ cZ cT : ClassId) (h0 q_now q_text q_row q_read q_ranks q_distinct q_proper q_line q_order q_then q_bestOrder q_lineThen q_undos q_was q_kept q_isKept : Nat) (v_typed : Int32) (v_rowMany : Int32) (v_thrown : Int32) (v_length : Int32) (v_at : Int32) (v_wrong : Int32) (v_properMany : Int32) (v_orderMany : Int32) (v_undoMany : Int32) (v_drawn : Int32) (o : Int32) (hf : f_X10_thrown v_thrown = some o) : Met l yX10_thrown wsX10_thrown rm_X10_thrown (va_Pc [.ref h0] (fun U => va_P (dC, dI) vwCl [(h0, .inr (8, [.ref q_now, .ref q_text, .int v_typed, .ref q_row, .int v_rowMany, .int v_thrown, .int v_length, .int v_at, .int v_wrong, .ref q_read, .ref q_ranks, .ref q_distinct, .ref q_proper, .int v_properMany, .ref q_line, .ref q_order, .int v_orderMany, .ref q_then, .ref q_bestOrder, .ref q_lineThen, .ref q_undos, .ref q_was, .int v_undoMany, .int v_drawn, .ref q_kept, .ref q_isKept]))] U.heap ∧ va_K (dC, dI) vwCl (tyA cB cC cI cJ cZ cT) U)) (vp_Si (fun r => o = r)) 0 0 (fun _ => False) := by
  refine Met.ofW (cc := cX10_thrown) (maxL := 1) (ret := (some .int)) (by decide) rfl ?_
  intro p e s m args below meth c s₁ B hml hv
  obtain ⟨hav, hP, hK⟩ := hv
  have hx := B.exec
  have hb := B.bytes
  have hr := B.returns
  have hts := atoms_spec (ws := wsX10_thrown) B.pre
  have hown : s.vm.findClass RX10 = some m.cls := findClass_of_methodNamed B.named
  have hlocks := B.notSynchronized
  refine wstart (rm := rm_X10_thrown) hav (Nat.le_of_ble_eq_true rfl) (fun QQ ls hQQ hl => ?_)
  have hl : lv_has ls 1 [(0, .ref h0)] := hl
  have hi_X10 : ∀ w ∈ u_ws RX10 TX10 26, w ∈ wsX10_thrown := by decide +kernel
  have h := hf
  unfold f_X10_thrown at h
  refine lv_aload_n hx hb dX10_thrown_0 rfl (lv_at hl 0 rfl) ?_
  refine va_get (D := (dC, dI)) (ci := 8) (v := .int v_thrown) (C := RX10) (T := TX10) (N := 26) hx hb hts hi_X10 hown hK hP 0 rfl rfl 5 (by decide) (hts _ (List.mem_of_getElem? (i := 1) rfl)) (fun _ h9 => h9) rfl dX10_thrown_1 ?_
  rw [hQQ]
  exact W.iret hx hb hr (fun t ht hW => ⟨_, rfl, (Option.some.inj h).symm, ht⟩) (fun q hq => absurd hq List.not_mem_nil) dX10_thrown_4
def f_X10_in (x0 : Int32) (x1 : Int32) (x2 : Int32) : Option Bool :=
  (if x0 < x1 then (some false) else (if x2 < x0 then (some false) else (some true)))
abbrev rm_X10_in : Room := { frames := 0, cells := 0, slots := 0, locals := 0 }
set_option maxHeartbeats 4000000 in
set_option maxRecDepth 100000 in
theorem c_X10_in (l : Launch) (dC : Nat → ClassId) (dI : Nat → Nat → Nat) (cB cC cI cJ cZ cT : ClassId) (x0 : Int32) (x1 : Int32) (x2 : Int32) (o : Bool) (hf : f_X10_in x0 x1 x2 = some o) : Met l yX10_in wsX10_in rm_X10_in (va_Pc [.int x0, .int x1, .int x2] (fun _ => True)) (vp_Si (fun r => b2i o = r)) 0 0 (fun _ => False) := by
  refine Met.ofW (cc := cX10_in) (maxL := 3) (ret := (some .boolean)) (by decide) rfl ?_
  intro p e s m args below meth c s₁ B hml hv
  obtain ⟨hav, -⟩ := hv
  have hx := B.exec
  have hb := B.bytes
  have hr := B.returns
  have hts := atoms_spec (ws := wsX10_in) B.pre
  have hown : s.vm.findClass RX10 = some m.cls := findClass_of_methodNamed B.named
  have hlocks := B.notSynchronized
  refine wstart (rm := rm_X10_in) hav (Nat.le_of_ble_eq_true rfl) (fun QQ ls hQQ hl => ?_)
  have hl : lv_has ls 3 [(0, .int x0), (1, .int x1), (2, .int x2)] := hl
  have h := hf
  unfold f_X10_in at h
  refine lv_iload_n hx hb dX10_in_0 rfl (lv_at hl 0 rfl) ?_
  refine lv_iload_n hx hb dX10_in_1 rfl (lv_at hl 1 rfl) ?_
  refine lv_icmp_lt (tgt := 14) hx hb dX10_in_2 (by decide) (fun c_27 => ?_) (fun c_27 => ?_)
  · replace h := op c_27 h
    refine lv_iconst (v := 0) hx hb dX10_in_14 (by decide) ?_
    rw [hQQ]
    exact W.zret hx hb hr rfl (fun t ht hW => ⟨_, rfl, (congrArg b2i (Option.some.inj h).symm), ht⟩) (fun q hq => absurd hq List.not_mem_nil) dX10_in_15
  · replace h := on c_27 h
    refine lv_iload_n hx hb dX10_in_5 rfl (lv_at hl 0 rfl) ?_
    refine lv_iload_n hx hb dX10_in_6 rfl (lv_at hl 2 rfl) ?_
    refine lv_icmp_gt (tgt := 14) hx hb dX10_in_7 (by decide) (fun c_28 => ?_) (fun c_28 => ?_)
    · replace h := op c_28 h
      refine lv_iconst (v := 0) hx hb dX10_in_14 (by decide) ?_
      rw [hQQ]
      exact W.zret hx hb hr rfl (fun t ht hW => ⟨_, rfl, (congrArg b2i (Option.some.inj h).symm), ht⟩) (fun q hq => absurd hq List.not_mem_nil) dX10_in_15
    · replace h := on c_28 h
      refine lv_iconst (v := 1) hx hb dX10_in_10 (by decide) ?_
      refine lv_goto (tgt := 15) hx hb dX10_in_11 (by decide) ?_
      rw [hQQ]
      exact W.zret hx hb hr rfl (fun t ht hW => ⟨_, rfl, (congrArg b2i (Option.some.inj h).symm), ht⟩) (fun q hq => absurd hq List.not_mem_nil) dX10_in_15
def f_X10_lost  : Option (Int32 × Int32) :=
  (some ((0 : Int32), (1 : Int32)))
abbrev rm_X10_lost : Room := { frames := 0, cells := 0, slots := 0, locals := 0 }
set_option maxHeartbeats 4000000 in
set_option maxRecDepth 100000 in
theorem c_X10_lost (l : Launch) (dC : Nat → ClassId) (dI : Nat → Nat → Nat) (cB cC cI cJ cZ cT : ClassId) (h0 q_now q_text q_row q_read q_ranks q_distinct q_proper q_line q_order q_then q_bestOrder q_lineThen q_undos q_was q_kept q_isKept : Nat) (sz : Nat) (v_typed : Int32) (v_rowMany : Int32) (v_thrown : Int32) (v_length : Int32) (v_at : Int32) (v_wrong : Int32) (v_properMany : Int32) (v_orderMany : Int32) (v_undoMany : Int32) (v_drawn : Int32) (o : (Int32 × Int32)) (hf : f_X10_lost = some o) : Met l yX10_lost wsX10_lost rm_X10_lost (va_Pc [.ref h0] (fun U => U.heap.size = sz ∧ va_P (dC, dI) vwCl [(h0, .inr (8, [.ref q_now, .ref q_text, .int v_typed, .ref q_row, .int v_rowMany, .int v_thrown, .int v_length, .int v_at, .int v_wrong, .ref q_read, .ref q_ranks, .ref q_distinct, .ref q_proper, .int v_properMany, .ref q_line, .ref q_order, .int v_orderMany, .ref q_then, .ref q_bestOrder, .ref q_lineThen, .ref q_undos, .ref q_was, .int v_undoMany, .int v_drawn, .ref q_kept, .ref q_isKept]))] U.heap ∧ va_K (dC, dI) vwCl (tyA cB cC cI cJ cZ cT) U ∧ va_D (fun _ => True) [(h0, .inr (8, [.ref q_now, .ref q_text, .int v_typed, .ref q_row, .int v_rowMany, .int v_thrown, .int v_length, .int v_at, .int v_wrong, .ref q_read, .ref q_ranks, .ref q_distinct, .ref q_proper, .int v_properMany, .ref q_line, .ref q_order, .int v_orderMany, .ref q_then, .ref q_bestOrder, .ref q_lineThen, .ref q_undos, .ref q_was, .int v_undoMany, .int v_drawn, .ref q_kept, .ref q_isKept]))])) (va_Qi (fun (r : Int32) (_ : Unit) => o.1 = r) (fun _ t => va_P (dC, dI) vwCl [(h0, .inr (8, [.ref q_now, .ref q_text, .int v_typed, .ref q_row, .int v_rowMany, .int o.2, .int v_length, .int v_at, .int v_wrong, .ref q_read, .ref q_ranks, .ref q_distinct, .ref q_proper, .int v_properMany, .ref q_line, .ref q_order, .int v_orderMany, .ref q_then, .ref q_bestOrder, .ref q_lineThen, .ref q_undos, .ref q_was, .int v_undoMany, .int v_drawn, .ref q_kept, .ref q_isKept]))] t.heap ∧ va_K (dC, dI) vwCl (tyA cB cC cI cJ cZ cT) t ∧ va_D (va_A [(h0, .inr (8, [.ref q_now, .ref q_text, .int v_typed, .ref q_row, .int v_rowMany, .int v_thrown, .int v_length, .int v_at, .int v_wrong, .ref q_read, .ref q_ranks, .ref q_distinct, .ref q_proper, .int v_properMany, .ref q_line, .ref q_order, .int v_orderMany, .ref q_then, .ref q_bestOrder, .ref q_lineThen, .ref q_undos, .ref q_was, .int v_undoMany, .int v_drawn, .ref q_kept, .ref q_isKept]))] sz) [(h0, .inr (8, [.ref q_now, .ref q_text, .int v_typed, .ref q_row, .int v_rowMany, .int o.2, .int v_length, .int v_at, .int v_wrong, .ref q_read, .ref q_ranks, .ref q_distinct, .ref q_proper, .int v_properMany, .ref q_line, .ref q_order, .int v_orderMany, .ref q_then, .ref q_bestOrder, .ref q_lineThen, .ref q_undos, .ref q_was, .int v_undoMany, .int v_drawn, .ref q_kept, .ref q_isKept]))]) (va_A [(h0, .inr (8, [.ref q_now, .ref q_text, .int v_typed, .ref q_row, .int v_rowMany, .int v_thrown, .int v_length, .int v_at, .int v_wrong, .ref q_read, .ref q_ranks, .ref q_distinct, .ref q_proper, .int v_properMany, .ref q_line, .ref q_order, .int v_orderMany, .ref q_then, .ref q_bestOrder, .ref q_lineThen, .ref q_undos, .ref q_was, .int v_undoMany, .int v_drawn, .ref q_kept, .ref q_isKept]))] sz)) 0 0 (va_A [(h0, .inr (8, [.ref q_now, .ref q_text, .int v_typed, .ref q_row, .int v_rowMany, .int v_thrown, .int v_length, .int v_at, .int v_wrong, .ref q_read, .ref q_ranks, .ref q_distinct, .ref q_proper, .int v_properMany, .ref q_line, .ref q_order, .int v_orderMany, .ref q_then, .ref q_bestOrder, .ref q_lineThen, .ref q_undos, .ref q_was, .int v_undoMany, .int v_drawn, .ref q_kept, .ref q_isKept]))] sz) := by
  refine Met.ofW (cc := cX10_lost) (maxL := 1) (ret := (some .int)) (by decide) rfl ?_
  intro p e s m args below meth c s₁ B hml hv
  obtain ⟨hav, hsz, hP, hK, hD0⟩ := hv
  have hx := B.exec
  have hb := B.bytes
  have hr := B.returns
  have hts := atoms_spec (ws := wsX10_lost) B.pre
  have hown : s.vm.findClass RX10 = some m.cls := findClass_of_methodNamed B.named
  have hlocks := B.notSynchronized
  subst hsz
  have hD := hD0.self (sz := s.heap.size)
  generalize hAe : va_A [(h0, .inr (8, [.ref q_now, .ref q_text, .int v_typed, .ref q_row, .int v_rowMany, .int v_thrown, .int v_length, .int v_at, .int v_wrong, .ref q_read, .ref q_ranks, .ref q_distinct, .ref q_proper, .int v_properMany, .ref q_line, .ref q_order, .int v_orderMany, .ref q_then, .ref q_bestOrder, .ref q_lineThen, .ref q_undos, .ref q_was, .int v_undoMany, .int v_drawn, .ref q_kept, .ref q_isKept]))] s.heap.size = A at hD ⊢
  have hA : ∀ q : Nat, s.heap.size ≤ q → A q := fun q h => by rw [← hAe]; exact Or.inr h
  have hS : va_S A s.heap s.heap [] := va_S.rf
  refine wstart (rm := rm_X10_lost) hav (Nat.le_of_ble_eq_true rfl) (fun QQ ls hQQ hl => ?_)
  have hl : lv_has ls 1 [(0, .ref h0)] := hl
  have hi_X10 : ∀ w ∈ u_ws RX10 TX10 26, w ∈ wsX10_lost := by decide +kernel
  have h := hf
  unfold f_X10_lost at h
  refine lv_aload_n hx hb dX10_lost_0 rfl (lv_at hl 0 rfl) ?_
  refine lv_iconst (v := 1) hx hb dX10_lost_1 (by decide) ?_
  refine va_put (D := (dC, dI)) (ci := 8) (v := .int (1 : Int32)) (ty := .int) (C := RX10) (T := TX10) (N := 26) hx hb hts hi_X10 tyX10 tyX10_ok nmX10 hown hK hP hD hS 0 rfl rfl 5 (by decide) (hts _ (List.mem_of_getElem? (i := 1) rfl)) (fun _ h9 => h9) rfl (by decide +kernel) rfl rfl (Nat.le_of_ble_eq_true rfl) dX10_lost_2 (fun H locs hP hD hS => ?_)
  replace hP : va_P (dC, dI) vwCl [(h0, .inr (8, [.ref q_now, .ref q_text, .int v_typed, .ref q_row, .int v_rowMany, .int (1 : Int32), .int v_length, .int v_at, .int v_wrong, .ref q_read, .ref q_ranks, .ref q_distinct, .ref q_proper, .int v_properMany, .ref q_line, .ref q_order, .int v_orderMany, .ref q_then, .ref q_bestOrder, .ref q_lineThen, .ref q_undos, .ref q_was, .int v_undoMany, .int v_drawn, .ref q_kept, .ref q_isKept]))] H := hP
  replace hD : va_D A [(h0, .inr (8, [.ref q_now, .ref q_text, .int v_typed, .ref q_row, .int v_rowMany, .int (1 : Int32), .int v_length, .int v_at, .int v_wrong, .ref q_read, .ref q_ranks, .ref q_distinct, .ref q_proper, .int v_properMany, .ref q_line, .ref q_order, .int v_orderMany, .ref q_then, .ref q_bestOrder, .ref q_lineThen, .ref q_undos, .ref q_was, .int v_undoMany, .int v_drawn, .ref q_kept, .ref q_isKept]))] := hD
  refine lv_iconst (v := 0) hx hb dX10_lost_5 (by decide) ?_
  rw [hQQ]
  have ho := Option.some.inj h
  subst ho
  exact W.iret hx hb hr (fun t ht hW => ⟨⟨_, (), rfl, rfl, by rw [ht]; exact hP, va_K.moved hW.alike hK, hD⟩, hS.F ht⟩) hS.2.2 dX10_lost_6
def f_X10_tell (v_rowMany : Int32) (v_row : Nat → Int64) (x1 : Int64) : Option (Int32 × (Nat → Int64)) :=
  (if v_rowMany < 0 ∨ 64 ≤ (v_rowMany).toNatClampNeg then none else (some ((v_rowMany + (1 : Int32)), (vp_updL v_row (v_rowMany).toNatClampNeg x1))))
abbrev rm_X10_tell : Room := { frames := 0, cells := 0, slots := 0, locals := 0 }
set_option maxHeartbeats 4000000 in
set_option maxRecDepth 100000 in
theorem c_X10_tell (l : Launch) (dC : Nat → ClassId) (dI : Nat → Nat → Nat) (cB cC cI cJ cZ cT : ClassId) (h0 q_now q_text q_row q_read q_ranks q_distinct q_proper q_line q_order q_then q_bestOrder q_lineThen q_undos q_was q_kept q_isKept : Nat) (sz : Nat) (v_typed : Int32) (v_rowMany : Int32) (v_thrown : Int32) (v_length : Int32) (v_at : Int32) (v_wrong : Int32) (v_properMany : Int32) (v_orderMany : Int32) (v_undoMany : Int32) (v_drawn : Int32) (v_row : Nat → Int64) (x1 : Int64) (o : (Int32 × (Nat → Int64))) (hf : f_X10_tell v_rowMany v_row x1 = some o) : Met l yX10_tell wsX10_tell rm_X10_tell (va_Pc [.ref h0, .long x1] (fun U => U.heap.size = sz ∧ va_P (dC, dI) vwCl [(h0, .inr (8, [.ref q_now, .ref q_text, .int v_typed, .ref q_row, .int v_rowMany, .int v_thrown, .int v_length, .int v_at, .int v_wrong, .ref q_read, .ref q_ranks, .ref q_distinct, .ref q_proper, .int v_properMany, .ref q_line, .ref q_order, .int v_orderMany, .ref q_then, .ref q_bestOrder, .ref q_lineThen, .ref q_undos, .ref q_was, .int v_undoMany, .int v_drawn, .ref q_kept, .ref q_isKept])), (q_row, .inl (cJ, 64, .inr (.inl v_row)))] U.heap ∧ va_K (dC, dI) vwCl (tyA cB cC cI cJ cZ cT) U ∧ va_D (fun _ => True) [(h0, .inr (8, [.ref q_now, .ref q_text, .int v_typed, .ref q_row, .int v_rowMany, .int v_thrown, .int v_length, .int v_at, .int v_wrong, .ref q_read, .ref q_ranks, .ref q_distinct, .ref q_proper, .int v_properMany, .ref q_line, .ref q_order, .int v_orderMany, .ref q_then, .ref q_bestOrder, .ref q_lineThen, .ref q_undos, .ref q_was, .int v_undoMany, .int v_drawn, .ref q_kept, .ref q_isKept])), (q_row, .inl (cJ, 64, .inr (.inl v_row)))])) (va_Qv (fun _ : Unit => True) (fun _ t => va_P (dC, dI) vwCl [(h0, .inr (8, [.ref q_now, .ref q_text, .int v_typed, .ref q_row, .int o.1, .int v_thrown, .int v_length, .int v_at, .int v_wrong, .ref q_read, .ref q_ranks, .ref q_distinct, .ref q_proper, .int v_properMany, .ref q_line, .ref q_order, .int v_orderMany, .ref q_then, .ref q_bestOrder, .ref q_lineThen, .ref q_undos, .ref q_was, .int v_undoMany, .int v_drawn, .ref q_kept, .ref q_isKept])), (q_row, .inl (cJ, 64, .inr (.inl o.2)))] t.heap ∧ va_K (dC, dI) vwCl (tyA cB cC cI cJ cZ cT) t ∧ va_D (va_A [(h0, .inr (8, [.ref q_now, .ref q_text, .int v_typed, .ref q_row, .int v_rowMany, .int v_thrown, .int v_length, .int v_at, .int v_wrong, .ref q_read, .ref q_ranks, .ref q_distinct, .ref q_proper, .int v_properMany, .ref q_line, .ref q_order, .int v_orderMany, .ref q_then, .ref q_bestOrder, .ref q_lineThen, .ref q_undos, .ref q_was, .int v_undoMany, .int v_drawn, .ref q_kept, .ref q_isKept])), (q_row, .inl (cJ, 64, .inr (.inl v_row)))] sz) [(h0, .inr (8, [.ref q_now, .ref q_text, .int v_typed, .ref q_row, .int o.1, .int v_thrown, .int v_length, .int v_at, .int v_wrong, .ref q_read, .ref q_ranks, .ref q_distinct, .ref q_proper, .int v_properMany, .ref q_line, .ref q_order, .int v_orderMany, .ref q_then, .ref q_bestOrder, .ref q_lineThen, .ref q_undos, .ref q_was, .int v_undoMany, .int v_drawn, .ref q_kept, .ref q_isKept])), (q_row, .inl (cJ, 64, .inr (.inl o.2)))]) (va_A [(h0, .inr (8, [.ref q_now, .ref q_text, .int v_typed, .ref q_row, .int v_rowMany, .int v_thrown, .int v_length, .int v_at, .int v_wrong, .ref q_read, .ref q_ranks, .ref q_distinct, .ref q_proper, .int v_properMany, .ref q_line, .ref q_order, .int v_orderMany, .ref q_then, .ref q_bestOrder, .ref q_lineThen, .ref q_undos, .ref q_was, .int v_undoMany, .int v_drawn, .ref q_kept, .ref q_isKept])), (q_row, .inl (cJ, 64, .inr (.inl v_row)))] sz)) 0 0 (va_A [(h0, .inr (8, [.ref q_now, .ref q_text, .int v_typed, .ref q_row, .int v_rowMany, .int v_thrown, .int v_length, .int v_at, .int v_wrong, .ref q_read, .ref q_ranks, .ref q_distinct, .ref q_proper, .int v_properMany, .ref q_line, .ref q_order, .int v_orderMany, .ref q_then, .ref q_bestOrder, .ref q_lineThen, .ref q_undos, .ref q_was, .int v_undoMany, .int v_drawn, .ref q_kept, .ref q_isKept])), (q_row, .inl (cJ, 64, .inr (.inl v_row)))] sz) := by
  refine Met.ofW (cc := cX10_tell) (maxL := 3) (ret := none) (by decide) rfl ?_
  intro p e s m args below meth c s₁ B hml hv
  obtain ⟨hav, hsz, hP, hK, hD0⟩ := hv
  have hx := B.exec
  have hb := B.bytes
  have hr := B.returns
  have hts := atoms_spec (ws := wsX10_tell) B.pre
  have hown : s.vm.findClass RX10 = some m.cls := findClass_of_methodNamed B.named
  have hlocks := B.notSynchronized
  subst hsz
  have hD := hD0.self (sz := s.heap.size)
  generalize hAe : va_A [(h0, .inr (8, [.ref q_now, .ref q_text, .int v_typed, .ref q_row, .int v_rowMany, .int v_thrown, .int v_length, .int v_at, .int v_wrong, .ref q_read, .ref q_ranks, .ref q_distinct, .ref q_proper, .int v_properMany, .ref q_line, .ref q_order, .int v_orderMany, .ref q_then, .ref q_bestOrder, .ref q_lineThen, .ref q_undos, .ref q_was, .int v_undoMany, .int v_drawn, .ref q_kept, .ref q_isKept])), (q_row, .inl (cJ, 64, .inr (.inl v_row)))] s.heap.size = A at hD ⊢
  have hA : ∀ q : Nat, s.heap.size ≤ q → A q := fun q h => by rw [← hAe]; exact Or.inr h
  have hS : va_S A s.heap s.heap [] := va_S.rf
  refine wstart (rm := rm_X10_tell) hav (Nat.le_of_ble_eq_true rfl) (fun QQ ls hQQ hl => ?_)
  have hl : lv_has ls 3 [(0, .ref h0), (1, .long x1)] := hl
  have hi_X10 : ∀ w ∈ u_ws RX10 TX10 26, w ∈ wsX10_tell := by decide +kernel
  have h := hf
  unfold f_X10_tell at h
  refine lv_aload_n hx hb dX10_tell_0 rfl (lv_at hl 0 rfl) ?_
  refine va_get (D := (dC, dI)) (ci := 8) (v := .ref q_row) (C := RX10) (T := TX10) (N := 26) hx hb hts hi_X10 hown hK hP 0 rfl rfl 3 (by decide) (hts _ (List.mem_of_getElem? (i := 1) rfl)) (fun _ h9 => h9) rfl dX10_tell_1 ?_
  refine lv_aload_n hx hb dX10_tell_4 rfl (lv_at hl 0 rfl) ?_
  refine va_get (D := (dC, dI)) (ci := 8) (v := .int v_rowMany) (C := RX10) (T := TX10) (N := 26) hx hb hts hi_X10 hown hK hP 0 rfl rfl 4 (by decide) (hts _ (List.mem_of_getElem? (i := 2) rfl)) (fun _ h9 => h9) rfl dX10_tell_5 ?_
  refine lv_lload_n hx hb dX10_tell_8 rfl (lv_at hl 1 rfl) ?_
  obtain ⟨hi_29, h⟩ := og h
  refine va_last hx hb hK hP hD hS 1 1 rfl rfl hi_29 dX10_tell_9 (fun H locs hP hD hS => ?_)
  replace hP : va_P (dC, dI) vwCl [(h0, .inr (8, [.ref q_now, .ref q_text, .int v_typed, .ref q_row, .int v_rowMany, .int v_thrown, .int v_length, .int v_at, .int v_wrong, .ref q_read, .ref q_ranks, .ref q_distinct, .ref q_proper, .int v_properMany, .ref q_line, .ref q_order, .int v_orderMany, .ref q_then, .ref q_bestOrder, .ref q_lineThen, .ref q_undos, .ref q_was, .int v_undoMany, .int v_drawn, .ref q_kept, .ref q_isKept])), (q_row, .inl (cJ, 64, .inr (.inl (vp_updL v_row (v_rowMany).toNatClampNeg x1))))] H := hP
  replace hD : va_D A [(h0, .inr (8, [.ref q_now, .ref q_text, .int v_typed, .ref q_row, .int v_rowMany, .int v_thrown, .int v_length, .int v_at, .int v_wrong, .ref q_read, .ref q_ranks, .ref q_distinct, .ref q_proper, .int v_properMany, .ref q_line, .ref q_order, .int v_orderMany, .ref q_then, .ref q_bestOrder, .ref q_lineThen, .ref q_undos, .ref q_was, .int v_undoMany, .int v_drawn, .ref q_kept, .ref q_isKept])), (q_row, .inl (cJ, 64, .inr (.inl (vp_updL v_row (v_rowMany).toNatClampNeg x1))))] := hD
  refine lv_aload_n hx hb dX10_tell_10 rfl (lv_at hl 0 rfl) ?_
  refine lv_dup hx hb dX10_tell_11 rfl ?_
  refine va_get (D := (dC, dI)) (ci := 8) (v := .int v_rowMany) (C := RX10) (T := TX10) (N := 26) hx hb hts hi_X10 hown hK hP 0 rfl rfl 4 (by decide) (hts _ (List.mem_of_getElem? (i := 2) rfl)) (fun _ h9 => h9) rfl dX10_tell_12 ?_
  refine lv_iconst (v := 1) hx hb dX10_tell_15 (by decide) ?_
  refine lv_iadd hx hb dX10_tell_16 ?_
  refine va_put (D := (dC, dI)) (ci := 8) (v := .int (v_rowMany + (1 : Int32))) (ty := .int) (C := RX10) (T := TX10) (N := 26) hx hb hts hi_X10 tyX10 tyX10_ok nmX10 hown hK hP hD hS 0 rfl rfl 4 (by decide) (hts _ (List.mem_of_getElem? (i := 2) rfl)) (fun _ h9 => h9) rfl (by decide +kernel) rfl rfl (Nat.le_of_ble_eq_true rfl) dX10_tell_17 (fun H locs hP hD hS => ?_)
  replace hP : va_P (dC, dI) vwCl [(h0, .inr (8, [.ref q_now, .ref q_text, .int v_typed, .ref q_row, .int (v_rowMany + (1 : Int32)), .int v_thrown, .int v_length, .int v_at, .int v_wrong, .ref q_read, .ref q_ranks, .ref q_distinct, .ref q_proper, .int v_properMany, .ref q_line, .ref q_order, .int v_orderMany, .ref q_then, .ref q_bestOrder, .ref q_lineThen, .ref q_undos, .ref q_was, .int v_undoMany, .int v_drawn, .ref q_kept, .ref q_isKept])), (q_row, .inl (cJ, 64, .inr (.inl (vp_updL v_row (v_rowMany).toNatClampNeg x1))))] H := hP
  replace hD : va_D A [(h0, .inr (8, [.ref q_now, .ref q_text, .int v_typed, .ref q_row, .int (v_rowMany + (1 : Int32)), .int v_thrown, .int v_length, .int v_at, .int v_wrong, .ref q_read, .ref q_ranks, .ref q_distinct, .ref q_proper, .int v_properMany, .ref q_line, .ref q_order, .int v_orderMany, .ref q_then, .ref q_bestOrder, .ref q_lineThen, .ref q_undos, .ref q_was, .int v_undoMany, .int v_drawn, .ref q_kept, .ref q_isKept])), (q_row, .inl (cJ, 64, .inr (.inl (vp_updL v_row (v_rowMany).toNatClampNeg x1))))] := hD
  rw [hQQ]
  have ho := Option.some.inj h
  subst ho
  exact W.vret hx hb hr (fun t ht hW => ⟨⟨(), rfl, trivial, by rw [ht]; exact hP, va_K.moved hW.alike hK, hD⟩, hS.F ht⟩) hS.2.2 dX10_tell_20
def f_X10_rows (v_now : Nat → Int64) : Option Int32 :=
  (some ((v_now ((0 : Int32)).toNatClampNeg)).toInt32)
abbrev rm_X10_rows : Room := { frames := 0, cells := 0, slots := 0, locals := 0 }
set_option maxHeartbeats 4000000 in
set_option maxRecDepth 100000 in
theorem c_X10_rows (l : Launch) (dC : Nat → ClassId) (dI : Nat → Nat → Nat) (cB cC cI cJ cZ cT : ClassId) (h0 q_now q_text q_row q_read q_ranks q_distinct q_proper q_line q_order q_then q_bestOrder q_lineThen q_undos q_was q_kept q_isKept : Nat) (v_typed : Int32) (v_rowMany : Int32) (v_thrown : Int32) (v_length : Int32) (v_at : Int32) (v_wrong : Int32) (v_properMany : Int32) (v_orderMany : Int32) (v_undoMany : Int32) (v_drawn : Int32) (v_now : Nat → Int64) (o : Int32) (hf : f_X10_rows v_now = some o) : Met l yX10_rows wsX10_rows rm_X10_rows (va_Pc [.ref h0] (fun U => va_P (dC, dI) vwCl [(h0, .inr (8, [.ref q_now, .ref q_text, .int v_typed, .ref q_row, .int v_rowMany, .int v_thrown, .int v_length, .int v_at, .int v_wrong, .ref q_read, .ref q_ranks, .ref q_distinct, .ref q_proper, .int v_properMany, .ref q_line, .ref q_order, .int v_orderMany, .ref q_then, .ref q_bestOrder, .ref q_lineThen, .ref q_undos, .ref q_was, .int v_undoMany, .int v_drawn, .ref q_kept, .ref q_isKept])), (q_now, .inl (cJ, 120, .inr (.inl v_now)))] U.heap ∧ va_K (dC, dI) vwCl (tyA cB cC cI cJ cZ cT) U)) (vp_Si (fun r => o = r)) 0 0 (fun _ => False) := by
  refine Met.ofW (cc := cX10_rows) (maxL := 1) (ret := (some .int)) (by decide) rfl ?_
  intro p e s m args below meth c s₁ B hml hv
  obtain ⟨hav, hP, hK⟩ := hv
  have hx := B.exec
  have hb := B.bytes
  have hr := B.returns
  have hts := atoms_spec (ws := wsX10_rows) B.pre
  have hown : s.vm.findClass RX10 = some m.cls := findClass_of_methodNamed B.named
  have hlocks := B.notSynchronized
  refine wstart (rm := rm_X10_rows) hav (Nat.le_of_ble_eq_true rfl) (fun QQ ls hQQ hl => ?_)
  have hl : lv_has ls 1 [(0, .ref h0)] := hl
  have hi_X10 : ∀ w ∈ u_ws RX10 TX10 26, w ∈ wsX10_rows := by decide +kernel
  have h := hf
  unfold f_X10_rows at h
  refine lv_aload_n hx hb dX10_rows_0 rfl (lv_at hl 0 rfl) ?_
  refine va_get (D := (dC, dI)) (ci := 8) (v := .ref q_now) (C := RX10) (T := TX10) (N := 26) hx hb hts hi_X10 hown hK hP 0 rfl rfl 0 (by decide) (hts _ (List.mem_of_getElem? (i := 1) rfl)) (fun _ h9 => h9) rfl dX10_rows_1 ?_
  refine lv_iconst (v := 0) hx hb dX10_rows_4 (by decide) ?_
  refine va_lald hx hb hK hP 1 1 rfl rfl (of_decide_eq_false rfl) dX10_rows_5 ?_
  refine lv_l2i (v := ((v_now ((0 : Int32)).toNatClampNeg)).toInt32) hx hb dX10_rows_6 rfl ?_
  rw [hQQ]
  exact W.iret hx hb hr (fun t ht hW => ⟨_, rfl, (Option.some.inj h).symm, ht⟩) (fun q hq => absurd hq List.not_mem_nil) dX10_rows_7
def f_X10_columns (v_now : Nat → Int64) : Option Int32 :=
  (some ((v_now ((1 : Int32)).toNatClampNeg)).toInt32)
abbrev rm_X10_columns : Room := { frames := 0, cells := 0, slots := 0, locals := 0 }
set_option maxHeartbeats 4000000 in
set_option maxRecDepth 100000 in
theorem c_X10_columns (l : Launch) (dC : Nat → ClassId) (dI : Nat → Nat → Nat) (cB cC cI cJ cZ cT : ClassId) (h0 q_now q_text q_row q_read q_ranks q_distinct q_proper q_line q_order q_then q_bestOrder q_lineThen q_undos q_was q_kept q_isKept : Nat) (v_typed : Int32) (v_rowMany : Int32) (v_thrown : Int32) (v_length : Int32) (v_at : Int32) (v_wrong : Int32) (v_properMany : Int32) (v_orderMany : Int32) (v_undoMany : Int32) (v_drawn : Int32) (v_now : Nat → Int64) (o : Int32) (hf : f_X10_columns v_now = some o) : Met l yX10_columns wsX10_columns rm_X10_columns (va_Pc [.ref h0] (fun U => va_P (dC, dI) vwCl [(h0, .inr (8, [.ref q_now, .ref q_text, .int v_typed, .ref q_row, .int v_rowMany, .int v_thrown, .int v_length, .int v_at, .int v_wrong, .ref q_read, .ref q_ranks, .ref q_distinct, .ref q_proper, .int v_properMany, .ref q_line, .ref q_order, .int v_orderMany, .ref q_then, .ref q_bestOrder, .ref q_lineThen, .ref q_undos, .ref q_was, .int v_undoMany, .int v_drawn, .ref q_kept, .ref q_isKept])), (q_now, .inl (cJ, 120, .inr (.inl v_now)))] U.heap ∧ va_K (dC, dI) vwCl (tyA cB cC cI cJ cZ cT) U)) (vp_Si (fun r => o = r)) 0 0 (fun _ => False) := by
  refine Met.ofW (cc := cX10_columns) (maxL := 1) (ret := (some .int)) (by decide) rfl ?_
  intro p e s m args below meth c s₁ B hml hv
  obtain ⟨hav, hP, hK⟩ := hv
  have hx := B.exec
  have hb := B.bytes
  have hr := B.returns
  have hts := atoms_spec (ws := wsX10_columns) B.pre
  have hown : s.vm.findClass RX10 = some m.cls := findClass_of_methodNamed B.named
  have hlocks := B.notSynchronized
  refine wstart (rm := rm_X10_columns) hav (Nat.le_of_ble_eq_true rfl) (fun QQ ls hQQ hl => ?_)
  have hl : lv_has ls 1 [(0, .ref h0)] := hl
  have hi_X10 : ∀ w ∈ u_ws RX10 TX10 26, w ∈ wsX10_columns := by decide +kernel
  have h := hf
  unfold f_X10_columns at h
  refine lv_aload_n hx hb dX10_columns_0 rfl (lv_at hl 0 rfl) ?_
  refine va_get (D := (dC, dI)) (ci := 8) (v := .ref q_now) (C := RX10) (T := TX10) (N := 26) hx hb hts hi_X10 hown hK hP 0 rfl rfl 0 (by decide) (hts _ (List.mem_of_getElem? (i := 1) rfl)) (fun _ h9 => h9) rfl dX10_columns_1 ?_
  refine lv_iconst (v := 1) hx hb dX10_columns_4 (by decide) ?_
  refine va_lald hx hb hK hP 1 1 rfl rfl (of_decide_eq_false rfl) dX10_columns_5 ?_
  refine lv_l2i (v := ((v_now ((1 : Int32)).toNatClampNeg)).toInt32) hx hb dX10_columns_6 rfl ?_
  rw [hQQ]
  exact W.iret hx hb hr (fun t ht hW => ⟨_, rfl, (Option.some.inj h).symm, ht⟩) (fun q hq => absurd hq List.not_mem_nil) dX10_columns_7
def f_X10_kindOf (v_now : Nat → Int64) (x1 : Int32) : Option Int32 :=
  (if ((2 : Int32) + x1) < 0 ∨ 120 ≤ (((2 : Int32) + x1)).toNatClampNeg then none else (some ((v_now (((2 : Int32) + x1)).toNatClampNeg)).toInt32))
abbrev rm_X10_kindOf : Room := { frames := 0, cells := 0, slots := 0, locals := 0 }
set_option maxHeartbeats 4000000 in
set_option maxRecDepth 100000 in
theorem c_X10_kindOf (l : Launch) (dC : Nat → ClassId) (dI : Nat → Nat → Nat) (cB cC cI cJ cZ cT : ClassId) (h0 q_now q_text q_row q_read q_ranks q_distinct q_proper q_line q_order q_then q_bestOrder q_lineThen q_undos q_was q_kept q_isKept : Nat) (v_typed : Int32) (v_rowMany : Int32) (v_thrown : Int32) (v_length : Int32) (v_at : Int32) (v_wrong : Int32) (v_properMany : Int32) (v_orderMany : Int32) (v_undoMany : Int32) (v_drawn : Int32) (v_now : Nat → Int64) (x1 : Int32) (o : Int32) (hf : f_X10_kindOf v_now x1 = some o) : Met l yX10_kindOf wsX10_kindOf rm_X10_kindOf (va_Pc [.ref h0, .int x1] (fun U => va_P (dC, dI) vwCl [(h0, .inr (8, [.ref q_now, .ref q_text, .int v_typed, .ref q_row, .int v_rowMany, .int v_thrown, .int v_length, .int v_at, .int v_wrong, .ref q_read, .ref q_ranks, .ref q_distinct, .ref q_proper, .int v_properMany, .ref q_line, .ref q_order, .int v_orderMany, .ref q_then, .ref q_bestOrder, .ref q_lineThen, .ref q_undos, .ref q_was, .int v_undoMany, .int v_drawn, .ref q_kept, .ref q_isKept])), (q_now, .inl (cJ, 120, .inr (.inl v_now)))] U.heap ∧ va_K (dC, dI) vwCl (tyA cB cC cI cJ cZ cT) U)) (vp_Si (fun r => o = r)) 0 0 (fun _ => False) := by
  refine Met.ofW (cc := cX10_kindOf) (maxL := 2) (ret := (some .int)) (by decide) rfl ?_
  intro p e s m args below meth c s₁ B hml hv
  obtain ⟨hav, hP, hK⟩ := hv
  have hx := B.exec
  have hb := B.bytes
  have hr := B.returns
  have hts := atoms_spec (ws := wsX10_kindOf) B.pre
  have hown : s.vm.findClass RX10 = some m.cls := findClass_of_methodNamed B.named
  have hlocks := B.notSynchronized
  refine wstart (rm := rm_X10_kindOf) hav (Nat.le_of_ble_eq_true rfl) (fun QQ ls hQQ hl => ?_)
  have hl : lv_has ls 2 [(0, .ref h0), (1, .int x1)] := hl
  have hi_X10 : ∀ w ∈ u_ws RX10 TX10 26, w ∈ wsX10_kindOf := by decide +kernel
  have h := hf
  unfold f_X10_kindOf at h
  refine lv_aload_n hx hb dX10_kindOf_0 rfl (lv_at hl 0 rfl) ?_
  refine va_get (D := (dC, dI)) (ci := 8) (v := .ref q_now) (C := RX10) (T := TX10) (N := 26) hx hb hts hi_X10 hown hK hP 0 rfl rfl 0 (by decide) (hts _ (List.mem_of_getElem? (i := 1) rfl)) (fun _ h9 => h9) rfl dX10_kindOf_1 ?_
  refine lv_iconst (v := 2) hx hb dX10_kindOf_4 (by decide) ?_
  refine lv_iload_n hx hb dX10_kindOf_5 rfl (lv_at hl 1 rfl) ?_
  refine lv_iadd hx hb dX10_kindOf_6 ?_
  obtain ⟨hi_32, h⟩ := og h
  refine va_lald hx hb hK hP 1 1 rfl rfl hi_32 dX10_kindOf_7 ?_
  refine lv_l2i (v := ((v_now (((2 : Int32) + x1)).toNatClampNeg)).toInt32) hx hb dX10_kindOf_8 rfl ?_
  rw [hQQ]
  exact W.iret hx hb hr (fun t ht hW => ⟨_, rfl, (Option.some.inj h).symm, ht⟩) (fun q hq => absurd hq List.not_mem_nil) dX10_kindOf_9
def f_X10_isColumn (v_now : Nat → Int64) (x1 : Int32) : Option Bool :=
  ((f_X10_columns v_now).bind (fun o_33 => ((f_X10_in x1 (0 : Int32) (o_33 - (1 : Int32))).bind (fun o_35 => (some o_35)))))
abbrev rm_X10_isColumn : Room := { frames := 1, cells := 0, slots := 0, locals := 22 }
set_option maxHeartbeats 4000000 in
set_option maxRecDepth 100000 in
theorem c_X10_isColumn (l : Launch) (dC : Nat → ClassId) (dI : Nat → Nat → Nat) (cB cC cI cJ cZ cT : ClassId) (h0 q_now q_text q_row q_read q_ranks q_distinct q_proper q_line q_order q_then q_bestOrder q_lineThen q_undos q_was q_kept q_isKept : Nat) (v_typed : Int32) (v_rowMany : Int32) (v_thrown : Int32) (v_length : Int32) (v_at : Int32) (v_wrong : Int32) (v_properMany : Int32) (v_orderMany : Int32) (v_undoMany : Int32) (v_drawn : Int32) (v_now : Nat → Int64) (x1 : Int32) (o : Bool) (hf : f_X10_isColumn v_now x1 = some o) : Met l yX10_isColumn wsX10_isColumn rm_X10_isColumn (va_Pc [.ref h0, .int x1] (fun U => va_P (dC, dI) vwCl [(h0, .inr (8, [.ref q_now, .ref q_text, .int v_typed, .ref q_row, .int v_rowMany, .int v_thrown, .int v_length, .int v_at, .int v_wrong, .ref q_read, .ref q_ranks, .ref q_distinct, .ref q_proper, .int v_properMany, .ref q_line, .ref q_order, .int v_orderMany, .ref q_then, .ref q_bestOrder, .ref q_lineThen, .ref q_undos, .ref q_was, .int v_undoMany, .int v_drawn, .ref q_kept, .ref q_isKept])), (q_now, .inl (cJ, 120, .inr (.inl v_now)))] U.heap ∧ va_K (dC, dI) vwCl (tyA cB cC cI cJ cZ cT) U)) (vp_Si (fun r => b2i o = r)) 0 0 (fun _ => False) := by
  refine Met.ofW (cc := cX10_isColumn) (maxL := 2) (ret := (some .boolean)) (by decide) rfl ?_
  intro p e s m args below meth c s₁ B hml hv
  obtain ⟨hav, hP, hK⟩ := hv
  have hx := B.exec
  have hb := B.bytes
  have hr := B.returns
  have hts := atoms_spec (ws := wsX10_isColumn) B.pre
  have hown : s.vm.findClass RX10 = some m.cls := findClass_of_methodNamed B.named
  have hlocks := B.notSynchronized
  refine wstart (rm := rm_X10_isColumn) hav (Nat.le_of_ble_eq_true rfl) (fun QQ ls hQQ hl => ?_)
  have hl : lv_has ls 2 [(0, .ref h0), (1, .int x1)] := hl
  have h := hf
  unfold f_X10_isColumn at h
  refine lv_iload_n hx hb dX10_isColumn_0 rfl (lv_at hl 1 rfl) ?_
  refine lv_iconst (v := 0) hx hb dX10_isColumn_1 (by decide) ?_
  refine lv_aload_n hx hb dX10_isColumn_2 rfl (lv_at hl 0 rfl) ?_
  obtain ⟨o_33, hr_33, h⟩ := ob h
  refine vp_callSi (va_Run.run (va_runV (As := []) (rest := [.int (0 : Int32), .int x1]) ⟨hx, hb, hml, hown, hts⟩ (c_X10_columns l dC dI cB cC cI cJ cZ cT h0 q_now q_text q_row q_read q_ranks q_distinct q_proper q_line q_order q_then q_bestOrder q_lineThen q_undos q_was q_kept q_isKept v_typed v_rowMany v_thrown v_length v_at v_wrong v_properMany v_orderMany v_undoMany v_drawn v_now o_33 hr_33) (cwV 0 hts gX10_isColumn_X10_columns rfl rfl rfl (by decide +kernel) ⟨Nat.le_of_ble_eq_true rfl, Nat.le_of_ble_eq_true rfl⟩) ⟨blR, va_recv hK hP (ci := 8) (q0 := 0) rfl rfl, fun U hU hW => ⟨rfl, by rw [hU]; exact hP.sub [0, 1] rfl, va_K.moved hW.alike hK⟩⟩ rfl rfl hl.1 rfl (lv_room (Nat.le_of_ble_eq_true rfl)) dX10_isColumn_3 ⟨Nat.le_of_ble_eq_true rfl, Nat.le_of_ble_eq_true rfl⟩)) (fun r_33 e_33 => ?_)
  subst e_33
  refine lv_iconst (v := 1) hx hb dX10_isColumn_6 (by decide) ?_
  refine lv_isub hx hb dX10_isColumn_7 ?_
  obtain ⟨o_35, hr_35, h⟩ := ob h
  refine vp_callSi (va_Run.run (va_runS (As := [.int x1, .int (0 : Int32), .int (o_33 - (1 : Int32))]) (rest := []) ⟨hx, hb, hml, hown, hts⟩ (c_X10_in l dC dI cB cC cI cJ cZ cT x1 (0 : Int32) (o_33 - (1 : Int32)) o_35 hr_35) (va_cwS 3 hts gX10_isColumn_X10_in rfl rfl rfl (by decide +kernel) ⟨Nat.le_of_ble_eq_true rfl, Nat.le_of_ble_eq_true rfl⟩) ⟨blT, fun U hU hW => ⟨rfl, trivial⟩⟩ rfl rfl hl.1 rfl (lv_room (Nat.le_of_ble_eq_true rfl)) dX10_isColumn_8 ⟨Nat.le_of_ble_eq_true rfl, Nat.le_of_ble_eq_true rfl⟩)) (fun r_35 e_35 => ?_)
  subst e_35
  rw [hQQ]
  exact W.zret hx hb hr (nzb _) (fun t ht hW => ⟨_, rfl, (congrArg b2i (Option.some.inj h).symm), ht⟩) (fun q hq => absurd hq List.not_mem_nil) dX10_isColumn_11
def f_X10_isRow (v_now : Nat → Int64) (x1 : Int32) : Option Bool :=
  ((f_X10_rows v_now).bind (fun o_37 => ((f_X10_in x1 (0 : Int32) (o_37 - (1 : Int32))).bind (fun o_39 => (some o_39)))))
abbrev rm_X10_isRow : Room := { frames := 1, cells := 0, slots := 0, locals := 22 }
set_option maxHeartbeats 4000000 in
set_option maxRecDepth 100000 in
theorem c_X10_isRow (l : Launch) (dC : Nat → ClassId) (dI : Nat → Nat → Nat) (cB cC cI cJ cZ cT : ClassId) (h0 q_now q_text q_row q_read q_ranks q_distinct q_proper q_line q_order q_then q_bestOrder q_lineThen q_undos q_was q_kept q_isKept : Nat) (v_typed : Int32) (v_rowMany : Int32) (v_thrown : Int32) (v_length : Int32) (v_at : Int32) (v_wrong : Int32) (v_properMany : Int32) (v_orderMany : Int32) (v_undoMany : Int32) (v_drawn : Int32) (v_now : Nat → Int64) (x1 : Int32) (o : Bool) (hf : f_X10_isRow v_now x1 = some o) : Met l yX10_isRow wsX10_isRow rm_X10_isRow (va_Pc [.ref h0, .int x1] (fun U => va_P (dC, dI) vwCl [(h0, .inr (8, [.ref q_now, .ref q_text, .int v_typed, .ref q_row, .int v_rowMany, .int v_thrown, .int v_length, .int v_at, .int v_wrong, .ref q_read, .ref q_ranks, .ref q_distinct, .ref q_proper, .int v_properMany, .ref q_line, .ref q_order, .int v_orderMany, .ref q_then, .ref q_bestOrder, .ref q_lineThen, .ref q_undos, .ref q_was, .int v_undoMany, .int v_drawn, .ref q_kept, .ref q_isKept])), (q_now, .inl (cJ, 120, .inr (.inl v_now)))] U.heap ∧ va_K (dC, dI) vwCl (tyA cB cC cI cJ cZ cT) U)) (vp_Si (fun r => b2i o = r)) 0 0 (fun _ => False) := by
  refine Met.ofW (cc := cX10_isRow) (maxL := 2) (ret := (some .boolean)) (by decide) rfl ?_
  intro p e s m args below meth c s₁ B hml hv
  obtain ⟨hav, hP, hK⟩ := hv
  have hx := B.exec
  have hb := B.bytes
  have hr := B.returns
  have hts := atoms_spec (ws := wsX10_isRow) B.pre
  have hown : s.vm.findClass RX10 = some m.cls := findClass_of_methodNamed B.named
  have hlocks := B.notSynchronized
  refine wstart (rm := rm_X10_isRow) hav (Nat.le_of_ble_eq_true rfl) (fun QQ ls hQQ hl => ?_)
  have hl : lv_has ls 2 [(0, .ref h0), (1, .int x1)] := hl
  have h := hf
  unfold f_X10_isRow at h
  refine lv_iload_n hx hb dX10_isRow_0 rfl (lv_at hl 1 rfl) ?_
  refine lv_iconst (v := 0) hx hb dX10_isRow_1 (by decide) ?_
  refine lv_aload_n hx hb dX10_isRow_2 rfl (lv_at hl 0 rfl) ?_
  obtain ⟨o_37, hr_37, h⟩ := ob h
  refine vp_callSi (va_Run.run (va_runV (As := []) (rest := [.int (0 : Int32), .int x1]) ⟨hx, hb, hml, hown, hts⟩ (c_X10_rows l dC dI cB cC cI cJ cZ cT h0 q_now q_text q_row q_read q_ranks q_distinct q_proper q_line q_order q_then q_bestOrder q_lineThen q_undos q_was q_kept q_isKept v_typed v_rowMany v_thrown v_length v_at v_wrong v_properMany v_orderMany v_undoMany v_drawn v_now o_37 hr_37) (cwV 0 hts gX10_isRow_X10_rows rfl rfl rfl (by decide +kernel) ⟨Nat.le_of_ble_eq_true rfl, Nat.le_of_ble_eq_true rfl⟩) ⟨blR, va_recv hK hP (ci := 8) (q0 := 0) rfl rfl, fun U hU hW => ⟨rfl, by rw [hU]; exact hP.sub [0, 1] rfl, va_K.moved hW.alike hK⟩⟩ rfl rfl hl.1 rfl (lv_room (Nat.le_of_ble_eq_true rfl)) dX10_isRow_3 ⟨Nat.le_of_ble_eq_true rfl, Nat.le_of_ble_eq_true rfl⟩)) (fun r_37 e_37 => ?_)
  subst e_37
  refine lv_iconst (v := 1) hx hb dX10_isRow_6 (by decide) ?_
  refine lv_isub hx hb dX10_isRow_7 ?_
  obtain ⟨o_39, hr_39, h⟩ := ob h
  refine vp_callSi (va_Run.run (va_runS (As := [.int x1, .int (0 : Int32), .int (o_37 - (1 : Int32))]) (rest := []) ⟨hx, hb, hml, hown, hts⟩ (c_X10_in l dC dI cB cC cI cJ cZ cT x1 (0 : Int32) (o_37 - (1 : Int32)) o_39 hr_39) (va_cwS 3 hts gX10_isRow_X10_in rfl rfl rfl (by decide +kernel) ⟨Nat.le_of_ble_eq_true rfl, Nat.le_of_ble_eq_true rfl⟩) ⟨blT, fun U hU hW => ⟨rfl, trivial⟩⟩ rfl rfl hl.1 rfl (lv_room (Nat.le_of_ble_eq_true rfl)) dX10_isRow_8 ⟨Nat.le_of_ble_eq_true rfl, Nat.le_of_ble_eq_true rfl⟩)) (fun r_39 e_39 => ?_)
  subst e_39
  rw [hQQ]
  exact W.zret hx hb hr (nzb _) (fun t ht hW => ⟨_, rfl, (congrArg b2i (Option.some.inj h).symm), ht⟩) (fun q hq => absurd hq List.not_mem_nil) dX10_isRow_11
def f_X10_isProper (v_now : Nat → Int64) (x1 : Int32) : Option Bool :=
  ((f_X10_isColumn v_now x1).bind (fun o_41 => (if (b2i o_41) = 0 then (some false) else ((f_X10_kindOf v_now x1).bind (fun o_44 => (if (10 : Int32) < o_44 then (some false) else (some true)))))))
abbrev rm_X10_isProper : Room := { frames := 2, cells := 0, slots := 0, locals := 43 }
set_option maxHeartbeats 4000000 in
set_option maxRecDepth 100000 in
theorem c_X10_isProper (l : Launch) (dC : Nat → ClassId) (dI : Nat → Nat → Nat) (cB cC cI cJ cZ cT : ClassId) (h0 q_now q_text q_row q_read q_ranks q_distinct q_proper q_line q_order q_then q_bestOrder q_lineThen q_undos q_was q_kept q_isKept : Nat) (v_typed : Int32) (v_rowMany : Int32) (v_thrown : Int32) (v_length : Int32) (v_at : Int32) (v_wrong : Int32) (v_properMany : Int32) (v_orderMany : Int32) (v_undoMany : Int32) (v_drawn : Int32) (v_now : Nat → Int64) (x1 : Int32) (o : Bool) (hf : f_X10_isProper v_now x1 = some o) : Met l yX10_isProper wsX10_isProper rm_X10_isProper (va_Pc [.ref h0, .int x1] (fun U => va_P (dC, dI) vwCl [(h0, .inr (8, [.ref q_now, .ref q_text, .int v_typed, .ref q_row, .int v_rowMany, .int v_thrown, .int v_length, .int v_at, .int v_wrong, .ref q_read, .ref q_ranks, .ref q_distinct, .ref q_proper, .int v_properMany, .ref q_line, .ref q_order, .int v_orderMany, .ref q_then, .ref q_bestOrder, .ref q_lineThen, .ref q_undos, .ref q_was, .int v_undoMany, .int v_drawn, .ref q_kept, .ref q_isKept])), (q_now, .inl (cJ, 120, .inr (.inl v_now)))] U.heap ∧ va_K (dC, dI) vwCl (tyA cB cC cI cJ cZ cT) U)) (vp_Si (fun r => b2i o = r)) 0 0 (fun _ => False) := by
  refine Met.ofW (cc := cX10_isProper) (maxL := 2) (ret := (some .boolean)) (by decide) rfl ?_
  intro p e s m args below meth c s₁ B hml hv
  obtain ⟨hav, hP, hK⟩ := hv
  have hx := B.exec
  have hb := B.bytes
  have hr := B.returns
  have hts := atoms_spec (ws := wsX10_isProper) B.pre
  have hown : s.vm.findClass RX10 = some m.cls := findClass_of_methodNamed B.named
  have hlocks := B.notSynchronized
  refine wstart (rm := rm_X10_isProper) hav (Nat.le_of_ble_eq_true rfl) (fun QQ ls hQQ hl => ?_)
  have hl : lv_has ls 2 [(0, .ref h0), (1, .int x1)] := hl
  have h := hf
  unfold f_X10_isProper at h
  refine lv_aload_n hx hb dX10_isProper_0 rfl (lv_at hl 0 rfl) ?_
  refine lv_iload_n hx hb dX10_isProper_1 rfl (lv_at hl 1 rfl) ?_
  obtain ⟨o_41, hr_41, h⟩ := ob h
  refine vp_callSi (va_Run.run (va_runV (As := [.int x1]) (rest := []) ⟨hx, hb, hml, hown, hts⟩ (c_X10_isColumn l dC dI cB cC cI cJ cZ cT h0 q_now q_text q_row q_read q_ranks q_distinct q_proper q_line q_order q_then q_bestOrder q_lineThen q_undos q_was q_kept q_isKept v_typed v_rowMany v_thrown v_length v_at v_wrong v_properMany v_orderMany v_undoMany v_drawn v_now x1 o_41 hr_41) (cwV 1 hts gX10_isProper_X10_isColumn rfl rfl rfl (by decide +kernel) ⟨Nat.le_of_ble_eq_true rfl, Nat.le_of_ble_eq_true rfl⟩) ⟨blR, va_recv hK hP (ci := 8) (q0 := 0) rfl rfl, fun U hU hW => ⟨rfl, by rw [hU]; exact hP.sub [0, 1] rfl, va_K.moved hW.alike hK⟩⟩ rfl rfl hl.1 rfl (lv_room (Nat.le_of_ble_eq_true rfl)) dX10_isProper_2 ⟨Nat.le_of_ble_eq_true rfl, Nat.le_of_ble_eq_true rfl⟩)) (fun r_41 e_41 => ?_)
  subst e_41
  refine lv_if_eq (tgt := 22) hx hb dX10_isProper_5 (by decide) (fun c_43 => ?_) (fun c_43 => ?_)
  · replace h := op c_43 h
    refine lv_iconst (v := 0) hx hb dX10_isProper_22 (by decide) ?_
    rw [hQQ]
    exact W.zret hx hb hr rfl (fun t ht hW => ⟨_, rfl, (congrArg b2i (Option.some.inj h).symm), ht⟩) (fun q hq => absurd hq List.not_mem_nil) dX10_isProper_23
  · replace h := on c_43 h
    refine lv_aload_n hx hb dX10_isProper_8 rfl (lv_at hl 0 rfl) ?_
    refine lv_iload_n hx hb dX10_isProper_9 rfl (lv_at hl 1 rfl) ?_
    obtain ⟨o_44, hr_44, h⟩ := ob h
    refine vp_callSi (va_Run.run (va_runV (As := [.int x1]) (rest := []) ⟨hx, hb, hml, hown, hts⟩ (c_X10_kindOf l dC dI cB cC cI cJ cZ cT h0 q_now q_text q_row q_read q_ranks q_distinct q_proper q_line q_order q_then q_bestOrder q_lineThen q_undos q_was q_kept q_isKept v_typed v_rowMany v_thrown v_length v_at v_wrong v_properMany v_orderMany v_undoMany v_drawn v_now x1 o_44 hr_44) (cwV 1 hts gX10_isProper_X10_kindOf rfl rfl rfl (by decide +kernel) ⟨Nat.le_of_ble_eq_true rfl, Nat.le_of_ble_eq_true rfl⟩) ⟨blR, va_recv hK hP (ci := 8) (q0 := 0) rfl rfl, fun U hU hW => ⟨rfl, by rw [hU]; exact hP.sub [0, 1] rfl, va_K.moved hW.alike hK⟩⟩ rfl rfl hl.1 rfl (lv_room (Nat.le_of_ble_eq_true rfl)) dX10_isProper_10 ⟨Nat.le_of_ble_eq_true rfl, Nat.le_of_ble_eq_true rfl⟩)) (fun r_44 e_44 => ?_)
    subst e_44
    refine lv_bipush (v := 10) hx hb dX10_isProper_13 (by decide) ?_
    refine lv_icmp_gt (tgt := 22) hx hb dX10_isProper_15 (by decide) (fun c_46 => ?_) (fun c_46 => ?_)
    · replace h := op c_46 h
      refine lv_iconst (v := 0) hx hb dX10_isProper_22 (by decide) ?_
      rw [hQQ]
      exact W.zret hx hb hr rfl (fun t ht hW => ⟨_, rfl, (congrArg b2i (Option.some.inj h).symm), ht⟩) (fun q hq => absurd hq List.not_mem_nil) dX10_isProper_23
    · replace h := on c_46 h
      refine lv_iconst (v := 1) hx hb dX10_isProper_18 (by decide) ?_
      refine lv_goto (tgt := 23) hx hb dX10_isProper_19 (by decide) ?_
      rw [hQQ]
      exact W.zret hx hb hr rfl (fun t ht hW => ⟨_, rfl, (congrArg b2i (Option.some.inj h).symm), ht⟩) (fun q hq => absurd hq List.not_mem_nil) dX10_isProper_23
def f_X10_cellAt (x0 : Int32) (x1 : Int32) : Option Int32 :=
  (some (((24 : Int32) + ((16 : Int32) * x0)) + x1))
abbrev rm_X10_cellAt : Room := { frames := 0, cells := 0, slots := 0, locals := 0 }
set_option maxHeartbeats 4000000 in
set_option maxRecDepth 100000 in
theorem c_X10_cellAt (l : Launch) (dC : Nat → ClassId) (dI : Nat → Nat → Nat) (cB cC cI cJ cZ cT : ClassId) (x0 : Int32) (x1 : Int32) (o : Int32) (hf : f_X10_cellAt x0 x1 = some o) : Met l yX10_cellAt wsX10_cellAt rm_X10_cellAt (va_Pc [.int x0, .int x1] (fun _ => True)) (vp_Si (fun r => o = r)) 0 0 (fun _ => False) := by
  refine Met.ofW (cc := cX10_cellAt) (maxL := 2) (ret := (some .int)) (by decide) rfl ?_
  intro p e s m args below meth c s₁ B hml hv
  obtain ⟨hav, -⟩ := hv
  have hx := B.exec
  have hb := B.bytes
  have hr := B.returns
  have hts := atoms_spec (ws := wsX10_cellAt) B.pre
  have hown : s.vm.findClass RX10 = some m.cls := findClass_of_methodNamed B.named
  have hlocks := B.notSynchronized
  refine wstart (rm := rm_X10_cellAt) hav (Nat.le_of_ble_eq_true rfl) (fun QQ ls hQQ hl => ?_)
  have hl : lv_has ls 2 [(0, .int x0), (1, .int x1)] := hl
  have h := hf
  unfold f_X10_cellAt at h
  refine lv_bipush (v := 24) hx hb dX10_cellAt_0 (by decide) ?_
  refine lv_bipush (v := 16) hx hb dX10_cellAt_2 (by decide) ?_
  refine lv_iload_n hx hb dX10_cellAt_4 rfl (lv_at hl 0 rfl) ?_
  refine lv_imul hx hb dX10_cellAt_5 ?_
  refine lv_iadd hx hb dX10_cellAt_6 ?_
  refine lv_iload_n hx hb dX10_cellAt_7 rfl (lv_at hl 1 rfl) ?_
  refine lv_iadd hx hb dX10_cellAt_8 ?_
  rw [hQQ]
  exact W.iret hx hb hr (fun t ht hW => ⟨_, rfl, (Option.some.inj h).symm, ht⟩) (fun q hq => absurd hq List.not_mem_nil) dX10_cellAt_9
def f_X10_cell (v_now : Nat → Int64) (x1 : Int32) (x2 : Int32) : Option Int64 :=
  ((f_X10_cellAt x1 x2).bind (fun o_47 => (if o_47 < 0 ∨ 120 ≤ (o_47).toNatClampNeg then none else (some (v_now (o_47).toNatClampNeg)))))
abbrev rm_X10_cell : Room := { frames := 1, cells := 0, slots := 0, locals := 21 }
set_option maxHeartbeats 4000000 in
set_option maxRecDepth 100000 in
theorem c_X10_cell (l : Launch) (dC : Nat → ClassId) (dI : Nat → Nat → Nat) (cB cC cI cJ cZ cT : ClassId) (h0 q_now q_text q_row q_read q_ranks q_distinct q_proper q_line q_order q_then q_bestOrder q_lineThen q_undos q_was q_kept q_isKept : Nat) (v_typed : Int32) (v_rowMany : Int32) (v_thrown : Int32) (v_length : Int32) (v_at : Int32) (v_wrong : Int32) (v_properMany : Int32) (v_orderMany : Int32) (v_undoMany : Int32) (v_drawn : Int32) (v_now : Nat → Int64) (x1 : Int32) (x2 : Int32) (o : Int64) (hf : f_X10_cell v_now x1 x2 = some o) : Met l yX10_cell wsX10_cell rm_X10_cell (va_Pc [.ref h0, .int x1, .int x2] (fun U => va_P (dC, dI) vwCl [(h0, .inr (8, [.ref q_now, .ref q_text, .int v_typed, .ref q_row, .int v_rowMany, .int v_thrown, .int v_length, .int v_at, .int v_wrong, .ref q_read, .ref q_ranks, .ref q_distinct, .ref q_proper, .int v_properMany, .ref q_line, .ref q_order, .int v_orderMany, .ref q_then, .ref q_bestOrder, .ref q_lineThen, .ref q_undos, .ref q_was, .int v_undoMany, .int v_drawn, .ref q_kept, .ref q_isKept])), (q_now, .inl (cJ, 120, .inr (.inl v_now)))] U.heap ∧ va_K (dC, dI) vwCl (tyA cB cC cI cJ cZ cT) U)) (vp_Sl (fun r => o = r)) 0 0 (fun _ => False) := by
  refine Met.ofW (cc := cX10_cell) (maxL := 3) (ret := (some .long)) (by decide) rfl ?_
  intro p e s m args below meth c s₁ B hml hv
  obtain ⟨hav, hP, hK⟩ := hv
  have hx := B.exec
  have hb := B.bytes
  have hr := B.returns
  have hts := atoms_spec (ws := wsX10_cell) B.pre
  have hown : s.vm.findClass RX10 = some m.cls := findClass_of_methodNamed B.named
  have hlocks := B.notSynchronized
  refine wstart (rm := rm_X10_cell) hav (Nat.le_of_ble_eq_true rfl) (fun QQ ls hQQ hl => ?_)
  have hl : lv_has ls 3 [(0, .ref h0), (1, .int x1), (2, .int x2)] := hl
  have hi_X10 : ∀ w ∈ u_ws RX10 TX10 26, w ∈ wsX10_cell := by decide +kernel
  have h := hf
  unfold f_X10_cell at h
  refine lv_aload_n hx hb dX10_cell_0 rfl (lv_at hl 0 rfl) ?_
  refine va_get (D := (dC, dI)) (ci := 8) (v := .ref q_now) (C := RX10) (T := TX10) (N := 26) hx hb hts hi_X10 hown hK hP 0 rfl rfl 0 (by decide) (hts _ (List.mem_of_getElem? (i := 1) rfl)) (fun _ h9 => h9) rfl dX10_cell_1 ?_
  refine lv_iload_n hx hb dX10_cell_4 rfl (lv_at hl 1 rfl) ?_
  refine lv_iload_n hx hb dX10_cell_5 rfl (lv_at hl 2 rfl) ?_
  obtain ⟨o_47, hr_47, h⟩ := ob h
  refine vp_callSi (va_Run.run (va_runS (As := [.int x1, .int x2]) (rest := [.ref q_now]) ⟨hx, hb, hml, hown, hts⟩ (c_X10_cellAt l dC dI cB cC cI cJ cZ cT x1 x2 o_47 hr_47) (va_cwS 2 hts gX10_cell_X10_cellAt rfl rfl rfl (by decide +kernel) ⟨Nat.le_of_ble_eq_true rfl, Nat.le_of_ble_eq_true rfl⟩) ⟨blT, fun U hU hW => ⟨rfl, trivial⟩⟩ rfl rfl hl.1 rfl (lv_room (Nat.le_of_ble_eq_true rfl)) dX10_cell_6 ⟨Nat.le_of_ble_eq_true rfl, Nat.le_of_ble_eq_true rfl⟩)) (fun r_47 e_47 => ?_)
  subst e_47
  obtain ⟨hi_49, h⟩ := og h
  refine va_lald hx hb hK hP 1 1 rfl rfl hi_49 dX10_cell_9 ?_
  rw [hQQ]
  exact W.lret hx hb hr (fun t ht hW => ⟨_, rfl, (Option.some.inj h).symm, ht⟩) (fun q hq => absurd hq List.not_mem_nil) dX10_cell_10
def f_X10_isWay (x0 : Int32) : Option Bool :=
  ((f_X10_in x0 (0 : Int32) (7 : Int32)).bind (fun o_50 => (if (b2i o_50) = 0 then ((f_X10_in x0 (10 : Int32) (21 : Int32)).bind (fun o_53 => (if (b2i o_53) = 0 then (some false) else (some true)))) else (some true))))
abbrev rm_X10_isWay : Room := { frames := 1, cells := 0, slots := 0, locals := 22 }
set_option maxHeartbeats 4000000 in
set_option maxRecDepth 100000 in
theorem c_X10_isWay (l : Launch) (dC : Nat → ClassId) (dI : Nat → Nat → Nat) (cB cC cI cJ cZ cT : ClassId) (x0 : Int32) (o : Bool) (hf : f_X10_isWay x0 = some o) : Met l yX10_isWay wsX10_isWay rm_X10_isWay (va_Pc [.int x0] (fun _ => True)) (vp_Si (fun r => b2i o = r)) 0 0 (fun _ => False) := by
  refine Met.ofW (cc := cX10_isWay) (maxL := 1) (ret := (some .boolean)) (by decide) rfl ?_
  intro p e s m args below meth c s₁ B hml hv
  obtain ⟨hav, -⟩ := hv
  have hx := B.exec
  have hb := B.bytes
  have hr := B.returns
  have hts := atoms_spec (ws := wsX10_isWay) B.pre
  have hown : s.vm.findClass RX10 = some m.cls := findClass_of_methodNamed B.named
  have hlocks := B.notSynchronized
  refine wstart (rm := rm_X10_isWay) hav (Nat.le_of_ble_eq_true rfl) (fun QQ ls hQQ hl => ?_)
  have hl : lv_has ls 1 [(0, .int x0)] := hl
  have h := hf
  unfold f_X10_isWay at h
  refine lv_iload_n hx hb dX10_isWay_0 rfl (lv_at hl 0 rfl) ?_
  refine lv_iconst (v := 0) hx hb dX10_isWay_1 (by decide) ?_
  refine lv_bipush (v := 7) hx hb dX10_isWay_2 (by decide) ?_
  obtain ⟨o_50, hr_50, h⟩ := ob h
  refine vp_callSi (va_Run.run (va_runS (As := [.int x0, .int (0 : Int32), .int (7 : Int32)]) (rest := []) ⟨hx, hb, hml, hown, hts⟩ (c_X10_in l dC dI cB cC cI cJ cZ cT x0 (0 : Int32) (7 : Int32) o_50 hr_50) (va_cwS 3 hts gX10_isWay_X10_in rfl rfl rfl (by decide +kernel) ⟨Nat.le_of_ble_eq_true rfl, Nat.le_of_ble_eq_true rfl⟩) ⟨blT, fun U hU hW => ⟨rfl, trivial⟩⟩ rfl rfl hl.1 rfl (lv_room (Nat.le_of_ble_eq_true rfl)) dX10_isWay_4 ⟨Nat.le_of_ble_eq_true rfl, Nat.le_of_ble_eq_true rfl⟩)) (fun r_50 e_50 => ?_)
  subst e_50
  refine lv_if_ne (tgt := 21) hx hb dX10_isWay_7 (by decide) (fun c_52 => ?_) (fun c_52 => ?_)
  · replace h := on c_52 h
    refine lv_iconst (v := 1) hx hb dX10_isWay_21 (by decide) ?_
    refine lv_goto (tgt := 26) hx hb dX10_isWay_22 (by decide) ?_
    rw [hQQ]
    exact W.zret hx hb hr rfl (fun t ht hW => ⟨_, rfl, (congrArg b2i (Option.some.inj h).symm), ht⟩) (fun q hq => absurd hq List.not_mem_nil) dX10_isWay_26
  · replace h := op c_52 h
    refine lv_iload_n hx hb dX10_isWay_10 rfl (lv_at hl 0 rfl) ?_
    refine lv_bipush (v := 10) hx hb dX10_isWay_11 (by decide) ?_
    refine lv_bipush (v := 21) hx hb dX10_isWay_13 (by decide) ?_
    obtain ⟨o_53, hr_53, h⟩ := ob h
    refine vp_callSi (va_Run.run (va_runS (As := [.int x0, .int (10 : Int32), .int (21 : Int32)]) (rest := []) ⟨hx, hb, hml, hown, hts⟩ (c_X10_in l dC dI cB cC cI cJ cZ cT x0 (10 : Int32) (21 : Int32) o_53 hr_53) (va_cwS 3 hts gX10_isWay_X10_in rfl rfl rfl (by decide +kernel) ⟨Nat.le_of_ble_eq_true rfl, Nat.le_of_ble_eq_true rfl⟩) ⟨blT, fun U hU hW => ⟨rfl, trivial⟩⟩ rfl rfl hl.1 rfl (lv_room (Nat.le_of_ble_eq_true rfl)) dX10_isWay_15 ⟨Nat.le_of_ble_eq_true rfl, Nat.le_of_ble_eq_true rfl⟩)) (fun r_53 e_53 => ?_)
    subst e_53
    refine lv_if_eq (tgt := 25) hx hb dX10_isWay_18 (by decide) (fun c_55 => ?_) (fun c_55 => ?_)
    · replace h := op c_55 h
      refine lv_iconst (v := 0) hx hb dX10_isWay_25 (by decide) ?_
      rw [hQQ]
      exact W.zret hx hb hr rfl (fun t ht hW => ⟨_, rfl, (congrArg b2i (Option.some.inj h).symm), ht⟩) (fun q hq => absurd hq List.not_mem_nil) dX10_isWay_26
    · replace h := on c_55 h
      refine lv_iconst (v := 1) hx hb dX10_isWay_21 (by decide) ?_
      refine lv_goto (tgt := 26) hx hb dX10_isWay_22 (by decide) ?_
      rw [hQQ]
      exact W.zret hx hb hr rfl (fun t ht hW => ⟨_, rfl, (congrArg b2i (Option.some.inj h).symm), ht⟩) (fun q hq => absurd hq List.not_mem_nil) dX10_isWay_26
def L_X10_sign_20 (x1 : Int32) : Nat → Int32 → Int32 → (Nat → Int32) → Option (Int32 × (Nat → Int32))
  | 0, _, _, _ => none
  | n+1, x2_20, v_typed_20, v_text_20 => (if x2_20 < 0 then (some (v_typed_20, v_text_20)) else (if v_typed_20 < 0 ∨ 80 ≤ (v_typed_20).toNatClampNeg then none else (L_X10_sign_20 x1 n (x2_20 + (-1)) (v_typed_20 + (1 : Int32)) (upd v_text_20 (v_typed_20).toNatClampNeg (vp_nar .byte (to_b (x1 >>> (((8 : Int32) * x2_20) &&& 31))))))))
def f_X10_sign (v_typed : Int32) (v_text : Nat → Int32) (x1 : Int32) : Option (Int32 × Int32 × Int32 × (Nat → Int32)) :=
  (if (v_typed + (4 : Int32)) ≤ (80 : Int32) then ((L_X10_sign_20 x1 fu (3 : Int32) v_typed v_text).bind (fun w_59 => (some (w_59.1, w_59.1, (0 : Int32), w_59.2)))) else (some ((-1 : Int32), v_typed, (0 : Int32), v_text)))
abbrev rm_X10_sign : Room := { frames := 0, cells := 0, slots := 0, locals := 0 }
set_option maxHeartbeats 4000000 in
set_option maxRecDepth 100000 in
theorem c_X10_sign (l : Launch) (dC : Nat → ClassId) (dI : Nat → Nat → Nat) (cB cC cI cJ cZ cT : ClassId) (h0 q_now q_text q_row q_read q_ranks q_distinct q_proper q_line q_order q_then q_bestOrder q_lineThen q_undos q_was q_kept q_isKept : Nat) (sz : Nat) (v_typed : Int32) (v_rowMany : Int32) (v_thrown : Int32) (v_length : Int32) (v_at : Int32) (v_wrong : Int32) (v_properMany : Int32) (v_orderMany : Int32) (v_undoMany : Int32) (v_drawn : Int32) (v_text : Nat → Int32) (x1 : Int32) (o : (Int32 × Int32 × Int32 × (Nat → Int32))) (hf : f_X10_sign v_typed v_text x1 = some o) : Met l yX10_sign wsX10_sign rm_X10_sign (va_Pc [.ref h0, .int x1] (fun U => U.heap.size = sz ∧ va_P (dC, dI) vwCl [(h0, .inr (8, [.ref q_now, .ref q_text, .int v_typed, .ref q_row, .int v_rowMany, .int v_thrown, .int v_length, .int v_at, .int v_wrong, .ref q_read, .ref q_ranks, .ref q_distinct, .ref q_proper, .int v_properMany, .ref q_line, .ref q_order, .int v_orderMany, .ref q_then, .ref q_bestOrder, .ref q_lineThen, .ref q_undos, .ref q_was, .int v_undoMany, .int v_drawn, .ref q_kept, .ref q_isKept])), (q_text, .inl (cB, 80, .inl v_text))] U.heap ∧ va_K (dC, dI) vwCl (tyA cB cC cI cJ cZ cT) U ∧ va_D (fun _ => True) [(h0, .inr (8, [.ref q_now, .ref q_text, .int v_typed, .ref q_row, .int v_rowMany, .int v_thrown, .int v_length, .int v_at, .int v_wrong, .ref q_read, .ref q_ranks, .ref q_distinct, .ref q_proper, .int v_properMany, .ref q_line, .ref q_order, .int v_orderMany, .ref q_then, .ref q_bestOrder, .ref q_lineThen, .ref q_undos, .ref q_was, .int v_undoMany, .int v_drawn, .ref q_kept, .ref q_isKept])), (q_text, .inl (cB, 80, .inl v_text))])) (va_Qi (fun (r : Int32) (_ : Unit) => o.1 = r) (fun _ t => va_P (dC, dI) vwCl [(h0, .inr (8, [.ref q_now, .ref q_text, .int o.2.1, .ref q_row, .int v_rowMany, .int o.2.2.1, .int v_length, .int v_at, .int v_wrong, .ref q_read, .ref q_ranks, .ref q_distinct, .ref q_proper, .int v_properMany, .ref q_line, .ref q_order, .int v_orderMany, .ref q_then, .ref q_bestOrder, .ref q_lineThen, .ref q_undos, .ref q_was, .int v_undoMany, .int v_drawn, .ref q_kept, .ref q_isKept])), (q_text, .inl (cB, 80, .inl o.2.2.2))] t.heap ∧ va_K (dC, dI) vwCl (tyA cB cC cI cJ cZ cT) t ∧ va_D (va_A [(h0, .inr (8, [.ref q_now, .ref q_text, .int v_typed, .ref q_row, .int v_rowMany, .int v_thrown, .int v_length, .int v_at, .int v_wrong, .ref q_read, .ref q_ranks, .ref q_distinct, .ref q_proper, .int v_properMany, .ref q_line, .ref q_order, .int v_orderMany, .ref q_then, .ref q_bestOrder, .ref q_lineThen, .ref q_undos, .ref q_was, .int v_undoMany, .int v_drawn, .ref q_kept, .ref q_isKept])), (q_text, .inl (cB, 80, .inl v_text))] sz) [(h0, .inr (8, [.ref q_now, .ref q_text, .int o.2.1, .ref q_row, .int v_rowMany, .int o.2.2.1, .int v_length, .int v_at, .int v_wrong, .ref q_read, .ref q_ranks, .ref q_distinct, .ref q_proper, .int v_properMany, .ref q_line, .ref q_order, .int v_orderMany, .ref q_then, .ref q_bestOrder, .ref q_lineThen, .ref q_undos, .ref q_was, .int v_undoMany, .int v_drawn, .ref q_kept, .ref q_isKept])), (q_text, .inl (cB, 80, .inl o.2.2.2))]) (va_A [(h0, .inr (8, [.ref q_now, .ref q_text, .int v_typed, .ref q_row, .int v_rowMany, .int v_thrown, .int v_length, .int v_at, .int v_wrong, .ref q_read, .ref q_ranks, .ref q_distinct, .ref q_proper, .int v_properMany, .ref q_line, .ref q_order, .int v_orderMany, .ref q_then, .ref q_bestOrder, .ref q_lineThen, .ref q_undos, .ref q_was, .int v_undoMany, .int v_drawn, .ref q_kept, .ref q_isKept])), (q_text, .inl (cB, 80, .inl v_text))] sz)) 0 0 (va_A [(h0, .inr (8, [.ref q_now, .ref q_text, .int v_typed, .ref q_row, .int v_rowMany, .int v_thrown, .int v_length, .int v_at, .int v_wrong, .ref q_read, .ref q_ranks, .ref q_distinct, .ref q_proper, .int v_properMany, .ref q_line, .ref q_order, .int v_orderMany, .ref q_then, .ref q_bestOrder, .ref q_lineThen, .ref q_undos, .ref q_was, .int v_undoMany, .int v_drawn, .ref q_kept, .ref q_isKept])), (q_text, .inl (cB, 80, .inl v_text))] sz) := by
  refine Met.ofW (cc := cX10_sign) (maxL := 3) (ret := (some .int)) (by decide) rfl ?_
  intro p e s m args below meth c s₁ B hml hv
  obtain ⟨hav, hsz, hP, hK, hD0⟩ := hv
  have hx := B.exec
  have hb := B.bytes
  have hr := B.returns
  have hts := atoms_spec (ws := wsX10_sign) B.pre
  have hown : s.vm.findClass RX10 = some m.cls := findClass_of_methodNamed B.named
  have hlocks := B.notSynchronized
  subst hsz
  have hD := hD0.self (sz := s.heap.size)
  generalize hAe : va_A [(h0, .inr (8, [.ref q_now, .ref q_text, .int v_typed, .ref q_row, .int v_rowMany, .int v_thrown, .int v_length, .int v_at, .int v_wrong, .ref q_read, .ref q_ranks, .ref q_distinct, .ref q_proper, .int v_properMany, .ref q_line, .ref q_order, .int v_orderMany, .ref q_then, .ref q_bestOrder, .ref q_lineThen, .ref q_undos, .ref q_was, .int v_undoMany, .int v_drawn, .ref q_kept, .ref q_isKept])), (q_text, .inl (cB, 80, .inl v_text))] s.heap.size = A at hD ⊢
  have hA : ∀ q : Nat, s.heap.size ≤ q → A q := fun q h => by rw [← hAe]; exact Or.inr h
  have hS : va_S A s.heap s.heap [] := va_S.rf
  refine wstart (rm := rm_X10_sign) hav (Nat.le_of_ble_eq_true rfl) (fun QQ ls hQQ hl => ?_)
  have hl : lv_has ls 3 [(0, .ref h0), (1, .int x1)] := hl
  have hi_X10 : ∀ w ∈ u_ws RX10 TX10 26, w ∈ wsX10_sign := by decide +kernel
  have h := hf
  unfold f_X10_sign at h
  refine lv_aload_n hx hb dX10_sign_0 rfl (lv_at hl 0 rfl) ?_
  refine lv_iconst (v := 0) hx hb dX10_sign_1 (by decide) ?_
  refine va_put (D := (dC, dI)) (ci := 8) (v := .int (0 : Int32)) (ty := .int) (C := RX10) (T := TX10) (N := 26) hx hb hts hi_X10 tyX10 tyX10_ok nmX10 hown hK hP hD hS 0 rfl rfl 5 (by decide) (hts _ (List.mem_of_getElem? (i := 1) rfl)) (fun _ h9 => h9) rfl (by decide +kernel) rfl rfl (Nat.le_of_ble_eq_true rfl) dX10_sign_2 (fun H locs hP hD hS => ?_)
  replace hP : va_P (dC, dI) vwCl [(h0, .inr (8, [.ref q_now, .ref q_text, .int v_typed, .ref q_row, .int v_rowMany, .int (0 : Int32), .int v_length, .int v_at, .int v_wrong, .ref q_read, .ref q_ranks, .ref q_distinct, .ref q_proper, .int v_properMany, .ref q_line, .ref q_order, .int v_orderMany, .ref q_then, .ref q_bestOrder, .ref q_lineThen, .ref q_undos, .ref q_was, .int v_undoMany, .int v_drawn, .ref q_kept, .ref q_isKept])), (q_text, .inl (cB, 80, .inl v_text))] H := hP
  replace hD : va_D A [(h0, .inr (8, [.ref q_now, .ref q_text, .int v_typed, .ref q_row, .int v_rowMany, .int (0 : Int32), .int v_length, .int v_at, .int v_wrong, .ref q_read, .ref q_ranks, .ref q_distinct, .ref q_proper, .int v_properMany, .ref q_line, .ref q_order, .int v_orderMany, .ref q_then, .ref q_bestOrder, .ref q_lineThen, .ref q_undos, .ref q_was, .int v_undoMany, .int v_drawn, .ref q_kept, .ref q_isKept])), (q_text, .inl (cB, 80, .inl v_text))] := hD
  refine lv_aload_n hx hb dX10_sign_5 rfl (lv_at hl 0 rfl) ?_
  refine va_get (D := (dC, dI)) (ci := 8) (v := .int v_typed) (C := RX10) (T := TX10) (N := 26) hx hb hts hi_X10 hown hK hP 0 rfl rfl 2 (by decide) (hts _ (List.mem_of_getElem? (i := 2) rfl)) (fun _ h9 => h9) rfl dX10_sign_6 ?_
  refine lv_iconst (v := 4) hx hb dX10_sign_9 (by decide) ?_
  refine lv_iadd hx hb dX10_sign_10 ?_
  refine lv_bipush (v := 80) hx hb dX10_sign_11 (by decide) ?_
  refine lv_icmp_le (tgt := 18) hx hb dX10_sign_13 (by decide) (fun c_56 => ?_) (fun c_56 => ?_)
  · replace h := op c_56 h
    refine lv_iconst (v := 3) hx hb dX10_sign_18 (by decide) ?_
    refine lv_istore_n (lv' := [(2, .int (3 : Int32)), (0, .ref h0), (1, .int x1)]) hx hb dX10_sign_19 rfl hl (by decide) rfl (fun ls hl => ?_)
    have LP_59 : ∀ (n : Nat) (x2_20 : Int32) (v_typed_20 : Int32) (v_text_20 : (Nat → Int32)) (w : (Int32 × (Nat → Int32))) (H : Heap) (locs : List Loc) (ls : Array Slot), L_X10_sign_20 x1 n x2_20 v_typed_20 v_text_20 = some w → va_P (dC, dI) vwCl [(h0, .inr (8, [.ref q_now, .ref q_text, .int v_typed_20, .ref q_row, .int v_rowMany, .int (0 : Int32), .int v_length, .int v_at, .int v_wrong, .ref q_read, .ref q_ranks, .ref q_distinct, .ref q_proper, .int v_properMany, .ref q_line, .ref q_order, .int v_orderMany, .ref q_then, .ref q_bestOrder, .ref q_lineThen, .ref q_undos, .ref q_was, .int v_undoMany, .int v_drawn, .ref q_kept, .ref q_isKept])), (q_text, .inl (cB, 80, .inl v_text_20))] H → va_D A [(h0, .inr (8, [.ref q_now, .ref q_text, .int v_typed_20, .ref q_row, .int v_rowMany, .int (0 : Int32), .int v_length, .int v_at, .int v_wrong, .ref q_read, .ref q_ranks, .ref q_distinct, .ref q_proper, .int v_properMany, .ref q_line, .ref q_order, .int v_orderMany, .ref q_then, .ref q_bestOrder, .ref q_lineThen, .ref q_undos, .ref q_was, .int v_undoMany, .int v_drawn, .ref q_kept, .ref q_isKept])), (q_text, .inl (cB, 80, .inl v_text_20))] → va_S A s.heap H locs → lv_has ls 3 [(0, .ref h0), (1, .int x1), (2, .int x2_20)] → (∀ (H : Heap) (locs : List Loc) (ls : Array Slot), va_P (dC, dI) vwCl [(h0, .inr (8, [.ref q_now, .ref q_text, .int w.1, .ref q_row, .int v_rowMany, .int (0 : Int32), .int v_length, .int v_at, .int v_wrong, .ref q_read, .ref q_ranks, .ref q_distinct, .ref q_proper, .int v_properMany, .ref q_line, .ref q_order, .int v_orderMany, .ref q_then, .ref q_bestOrder, .ref q_lineThen, .ref q_undos, .ref q_was, .int v_undoMany, .int v_drawn, .ref q_kept, .ref q_isKept])), (q_text, .inl (cB, 80, .inl w.2))] H → va_D A [(h0, .inr (8, [.ref q_now, .ref q_text, .int w.1, .ref q_row, .int v_rowMany, .int (0 : Int32), .int v_length, .int v_at, .int v_wrong, .ref q_read, .ref q_ranks, .ref q_distinct, .ref q_proper, .int v_properMany, .ref q_line, .ref q_order, .int v_orderMany, .ref q_then, .ref q_bestOrder, .ref q_lineThen, .ref q_undos, .ref q_was, .int v_undoMany, .int v_drawn, .ref q_kept, .ref q_isKept])), (q_text, .inl (cB, 80, .inl w.2))] → va_S A s.heap H locs → lv_has ls 3 [(0, .ref h0)] → W p l e rm_X10_sign s m args below meth c H locs 0 0 QQ (F0 m 53 ls [])) → W p l e rm_X10_sign s m args below meth c H locs 0 0 QQ (F0 m 20 ls []) := by
      intro n
      induction n with
      | zero => intro x2_20 v_typed_20 v_text_20 w H locs ls h; exact absurd (show none = some w from h) nofun
      | succ n ih =>
        intro x2_20 v_typed_20 v_text_20 w H locs ls h hP hD hS hl K
        rw [L_X10_sign_20] at h
        refine lv_iload_n hx hb dX10_sign_20 rfl (lv_at hl 2 rfl) ?_
        refine lv_if_lt (tgt := 53) hx hb dX10_sign_21 (by decide) (fun c_57 => ?_) (fun c_57 => ?_)
        · replace h := op c_57 h
          have ho := Option.some.inj h
          subst ho
          exact K H _ ls hP hD hS (lv_sub hl [0] rfl)
        · replace h := on c_57 h
          refine lv_aload_n hx hb dX10_sign_24 rfl (lv_at hl 0 rfl) ?_
          refine va_get (D := (dC, dI)) (ci := 8) (v := .ref q_text) (C := RX10) (T := TX10) (N := 26) hx hb hts hi_X10 hown hK hP 0 rfl rfl 1 (by decide) (hts _ (List.mem_of_getElem? (i := 3) rfl)) (fun _ h9 => h9) rfl dX10_sign_25 ?_
          refine lv_aload_n hx hb dX10_sign_28 rfl (lv_at hl 0 rfl) ?_
          refine lv_dup hx hb dX10_sign_29 rfl ?_
          refine va_get (D := (dC, dI)) (ci := 8) (v := .int v_typed_20) (C := RX10) (T := TX10) (N := 26) hx hb hts hi_X10 hown hK hP 0 rfl rfl 2 (by decide) (hts _ (List.mem_of_getElem? (i := 2) rfl)) (fun _ h9 => h9) rfl dX10_sign_30 ?_
          refine lv_dup_x1 hx hb dX10_sign_33 rfl rfl ?_
          refine lv_iconst (v := 1) hx hb dX10_sign_34 (by decide) ?_
          refine lv_iadd hx hb dX10_sign_35 ?_
          refine va_put (D := (dC, dI)) (ci := 8) (v := .int (v_typed_20 + (1 : Int32))) (ty := .int) (C := RX10) (T := TX10) (N := 26) hx hb hts hi_X10 tyX10 tyX10_ok nmX10 hown hK hP hD hS 0 rfl rfl 2 (by decide) (hts _ (List.mem_of_getElem? (i := 2) rfl)) (fun _ h9 => h9) rfl (by decide +kernel) rfl rfl (Nat.le_of_ble_eq_true rfl) dX10_sign_36 (fun H locs hP hD hS => ?_)
          replace hP : va_P (dC, dI) vwCl [(h0, .inr (8, [.ref q_now, .ref q_text, .int (v_typed_20 + (1 : Int32)), .ref q_row, .int v_rowMany, .int (0 : Int32), .int v_length, .int v_at, .int v_wrong, .ref q_read, .ref q_ranks, .ref q_distinct, .ref q_proper, .int v_properMany, .ref q_line, .ref q_order, .int v_orderMany, .ref q_then, .ref q_bestOrder, .ref q_lineThen, .ref q_undos, .ref q_was, .int v_undoMany, .int v_drawn, .ref q_kept, .ref q_isKept])), (q_text, .inl (cB, 80, .inl v_text_20))] H := hP
          replace hD : va_D A [(h0, .inr (8, [.ref q_now, .ref q_text, .int (v_typed_20 + (1 : Int32)), .ref q_row, .int v_rowMany, .int (0 : Int32), .int v_length, .int v_at, .int v_wrong, .ref q_read, .ref q_ranks, .ref q_distinct, .ref q_proper, .int v_properMany, .ref q_line, .ref q_order, .int v_orderMany, .ref q_then, .ref q_bestOrder, .ref q_lineThen, .ref q_undos, .ref q_was, .int v_undoMany, .int v_drawn, .ref q_kept, .ref q_isKept])), (q_text, .inl (cB, 80, .inl v_text_20))] := hD
          refine lv_iload_n hx hb dX10_sign_39 rfl (lv_at hl 1 rfl) ?_
          refine lv_bipush (v := 8) hx hb dX10_sign_40 (by decide) ?_
          refine lv_iload_n hx hb dX10_sign_42 rfl (lv_at hl 2 rfl) ?_
          refine lv_imul hx hb dX10_sign_43 ?_
          refine lv_ishr hx hb dX10_sign_44 ?_
          refine lv_i2b (v := (to_b (x1 >>> (((8 : Int32) * x2_20) &&& 31)))) hx hb dX10_sign_45 rfl ?_
          obtain ⟨hi_58, h⟩ := og h
          refine va_bast hx hb hK hP hD hS 1 2 rfl rfl hi_58 dX10_sign_46 (fun H locs hP hD hS => ?_)
          replace hP : va_P (dC, dI) vwCl [(h0, .inr (8, [.ref q_now, .ref q_text, .int (v_typed_20 + (1 : Int32)), .ref q_row, .int v_rowMany, .int (0 : Int32), .int v_length, .int v_at, .int v_wrong, .ref q_read, .ref q_ranks, .ref q_distinct, .ref q_proper, .int v_properMany, .ref q_line, .ref q_order, .int v_orderMany, .ref q_then, .ref q_bestOrder, .ref q_lineThen, .ref q_undos, .ref q_was, .int v_undoMany, .int v_drawn, .ref q_kept, .ref q_isKept])), (q_text, .inl (cB, 80, .inl (upd v_text_20 (v_typed_20).toNatClampNeg (vp_nar .byte (to_b (x1 >>> (((8 : Int32) * x2_20) &&& 31)))))))] H := hP
          replace hD : va_D A [(h0, .inr (8, [.ref q_now, .ref q_text, .int (v_typed_20 + (1 : Int32)), .ref q_row, .int v_rowMany, .int (0 : Int32), .int v_length, .int v_at, .int v_wrong, .ref q_read, .ref q_ranks, .ref q_distinct, .ref q_proper, .int v_properMany, .ref q_line, .ref q_order, .int v_orderMany, .ref q_then, .ref q_bestOrder, .ref q_lineThen, .ref q_undos, .ref q_was, .int v_undoMany, .int v_drawn, .ref q_kept, .ref q_isKept])), (q_text, .inl (cB, 80, .inl (upd v_text_20 (v_typed_20).toNatClampNeg (vp_nar .byte (to_b (x1 >>> (((8 : Int32) * x2_20) &&& 31)))))))] := hD
          refine lv_iinc (v := (x2_20 + (-1))) (lv' := [(2, .int (x2_20 + (-1))), (0, .ref h0), (1, .int x1)]) hx hb dX10_sign_47 hl (k := 2) rfl (by rfl) (by decide) rfl (fun ls hl => ?_)
          refine lv_goto (tgt := 20) hx hb dX10_sign_50 (by decide) ?_
          exact ih (x2_20 + (-1)) (v_typed_20 + (1 : Int32)) (upd v_text_20 (v_typed_20).toNatClampNeg (vp_nar .byte (to_b (x1 >>> (((8 : Int32) * x2_20) &&& 31))))) w H _ ls h hP hD hS (lv_sub hl [1, 2, 0] rfl) K
    obtain ⟨w_59, hw_59, h⟩ := ob h
    refine LP_59 fu (3 : Int32) v_typed v_text w_59 H _ ls hw_59 hP hD hS (lv_sub hl [1, 2, 0] rfl) (fun H locs ls hP hD hS hl => ?_)
    refine lv_aload_n hx hb dX10_sign_53 rfl (lv_at hl 0 rfl) ?_
    refine va_get (D := (dC, dI)) (ci := 8) (v := .int w_59.1) (C := RX10) (T := TX10) (N := 26) hx hb hts hi_X10 hown hK hP 0 rfl rfl 2 (by decide) (hts _ (List.mem_of_getElem? (i := 2) rfl)) (fun _ h9 => h9) rfl dX10_sign_54 ?_
    rw [hQQ]
    have ho := Option.some.inj h
    subst ho
    exact W.iret hx hb hr (fun t ht hW => ⟨⟨_, (), rfl, rfl, by rw [ht]; exact hP, va_K.moved hW.alike hK, hD⟩, hS.F ht⟩) hS.2.2 dX10_sign_57
  · replace h := on c_56 h
    refine lv_iconst (v := -1) hx hb dX10_sign_16 (by decide) ?_
    rw [hQQ]
    have ho := Option.some.inj h
    subst ho
    exact W.iret hx hb hr (fun t ht hW => ⟨⟨_, (), rfl, rfl, by rw [ht]; exact hP, va_K.moved hW.alike hK, hD⟩, hS.F ht⟩) hS.2.2 dX10_sign_17
def f_X10_end (v_typed : Int32) (x1 : Int32) : Option (Bool × Int32 × Int32) :=
  ((f_X10_in x1 (0 : Int32) v_typed).bind (fun o_60 => (if (b2i o_60) = 0 then (some (false, v_typed, (0 : Int32))) else (some (true, x1, (0 : Int32))))))
abbrev rm_X10_end : Room := { frames := 1, cells := 0, slots := 0, locals := 22 }
set_option maxHeartbeats 4000000 in
set_option maxRecDepth 100000 in
theorem c_X10_end (l : Launch) (dC : Nat → ClassId) (dI : Nat → Nat → Nat) (cB cC cI cJ cZ cT : ClassId) (h0 q_now q_text q_row q_read q_ranks q_distinct q_proper q_line q_order q_then q_bestOrder q_lineThen q_undos q_was q_kept q_isKept : Nat) (sz : Nat) (v_typed : Int32) (v_rowMany : Int32) (v_thrown : Int32) (v_length : Int32) (v_at : Int32) (v_wrong : Int32) (v_properMany : Int32) (v_orderMany : Int32) (v_undoMany : Int32) (v_drawn : Int32) (x1 : Int32) (o : (Bool × Int32 × Int32)) (hf : f_X10_end v_typed x1 = some o) : Met l yX10_end wsX10_end rm_X10_end (va_Pc [.ref h0, .int x1] (fun U => U.heap.size = sz ∧ va_P (dC, dI) vwCl [(h0, .inr (8, [.ref q_now, .ref q_text, .int v_typed, .ref q_row, .int v_rowMany, .int v_thrown, .int v_length, .int v_at, .int v_wrong, .ref q_read, .ref q_ranks, .ref q_distinct, .ref q_proper, .int v_properMany, .ref q_line, .ref q_order, .int v_orderMany, .ref q_then, .ref q_bestOrder, .ref q_lineThen, .ref q_undos, .ref q_was, .int v_undoMany, .int v_drawn, .ref q_kept, .ref q_isKept]))] U.heap ∧ va_K (dC, dI) vwCl (tyA cB cC cI cJ cZ cT) U ∧ va_D (fun _ => True) [(h0, .inr (8, [.ref q_now, .ref q_text, .int v_typed, .ref q_row, .int v_rowMany, .int v_thrown, .int v_length, .int v_at, .int v_wrong, .ref q_read, .ref q_ranks, .ref q_distinct, .ref q_proper, .int v_properMany, .ref q_line, .ref q_order, .int v_orderMany, .ref q_then, .ref q_bestOrder, .ref q_lineThen, .ref q_undos, .ref q_was, .int v_undoMany, .int v_drawn, .ref q_kept, .ref q_isKept]))])) (va_Qi (fun (r : Int32) (_ : Unit) => b2i o.1 = r) (fun _ t => va_P (dC, dI) vwCl [(h0, .inr (8, [.ref q_now, .ref q_text, .int o.2.1, .ref q_row, .int v_rowMany, .int o.2.2, .int v_length, .int v_at, .int v_wrong, .ref q_read, .ref q_ranks, .ref q_distinct, .ref q_proper, .int v_properMany, .ref q_line, .ref q_order, .int v_orderMany, .ref q_then, .ref q_bestOrder, .ref q_lineThen, .ref q_undos, .ref q_was, .int v_undoMany, .int v_drawn, .ref q_kept, .ref q_isKept]))] t.heap ∧ va_K (dC, dI) vwCl (tyA cB cC cI cJ cZ cT) t ∧ va_D (va_A [(h0, .inr (8, [.ref q_now, .ref q_text, .int v_typed, .ref q_row, .int v_rowMany, .int v_thrown, .int v_length, .int v_at, .int v_wrong, .ref q_read, .ref q_ranks, .ref q_distinct, .ref q_proper, .int v_properMany, .ref q_line, .ref q_order, .int v_orderMany, .ref q_then, .ref q_bestOrder, .ref q_lineThen, .ref q_undos, .ref q_was, .int v_undoMany, .int v_drawn, .ref q_kept, .ref q_isKept]))] sz) [(h0, .inr (8, [.ref q_now, .ref q_text, .int o.2.1, .ref q_row, .int v_rowMany, .int o.2.2, .int v_length, .int v_at, .int v_wrong, .ref q_read, .ref q_ranks, .ref q_distinct, .ref q_proper, .int v_properMany, .ref q_line, .ref q_order, .int v_orderMany, .ref q_then, .ref q_bestOrder, .ref q_lineThen, .ref q_undos, .ref q_was, .int v_undoMany, .int v_drawn, .ref q_kept, .ref q_isKept]))]) (va_A [(h0, .inr (8, [.ref q_now, .ref q_text, .int v_typed, .ref q_row, .int v_rowMany, .int v_thrown, .int v_length, .int v_at, .int v_wrong, .ref q_read, .ref q_ranks, .ref q_distinct, .ref q_proper, .int v_properMany, .ref q_line, .ref q_order, .int v_orderMany, .ref q_then, .ref q_bestOrder, .ref q_lineThen, .ref q_undos, .ref q_was, .int v_undoMany, .int v_drawn, .ref q_kept, .ref q_isKept]))] sz)) 0 0 (va_A [(h0, .inr (8, [.ref q_now, .ref q_text, .int v_typed, .ref q_row, .int v_rowMany, .int v_thrown, .int v_length, .int v_at, .int v_wrong, .ref q_read, .ref q_ranks, .ref q_distinct, .ref q_proper, .int v_properMany, .ref q_line, .ref q_order, .int v_orderMany, .ref q_then, .ref q_bestOrder, .ref q_lineThen, .ref q_undos, .ref q_was, .int v_undoMany, .int v_drawn, .ref q_kept, .ref q_isKept]))] sz) := by
  refine Met.ofW (cc := cX10_end) (maxL := 2) (ret := (some .boolean)) (by decide) rfl ?_
  intro p e s m args below meth c s₁ B hml hv
  obtain ⟨hav, hsz, hP, hK, hD0⟩ := hv
  have hx := B.exec
  have hb := B.bytes
  have hr := B.returns
  have hts := atoms_spec (ws := wsX10_end) B.pre
  have hown : s.vm.findClass RX10 = some m.cls := findClass_of_methodNamed B.named
  have hlocks := B.notSynchronized
  subst hsz
  have hD := hD0.self (sz := s.heap.size)
  generalize hAe : va_A [(h0, .inr (8, [.ref q_now, .ref q_text, .int v_typed, .ref q_row, .int v_rowMany, .int v_thrown, .int v_length, .int v_at, .int v_wrong, .ref q_read, .ref q_ranks, .ref q_distinct, .ref q_proper, .int v_properMany, .ref q_line, .ref q_order, .int v_orderMany, .ref q_then, .ref q_bestOrder, .ref q_lineThen, .ref q_undos, .ref q_was, .int v_undoMany, .int v_drawn, .ref q_kept, .ref q_isKept]))] s.heap.size = A at hD ⊢
  have hA : ∀ q : Nat, s.heap.size ≤ q → A q := fun q h => by rw [← hAe]; exact Or.inr h
  have hS : va_S A s.heap s.heap [] := va_S.rf
  refine wstart (rm := rm_X10_end) hav (Nat.le_of_ble_eq_true rfl) (fun QQ ls hQQ hl => ?_)
  have hl : lv_has ls 2 [(0, .ref h0), (1, .int x1)] := hl
  have hi_X10 : ∀ w ∈ u_ws RX10 TX10 26, w ∈ wsX10_end := by decide +kernel
  have h := hf
  unfold f_X10_end at h
  refine lv_aload_n hx hb dX10_end_0 rfl (lv_at hl 0 rfl) ?_
  refine lv_iconst (v := 0) hx hb dX10_end_1 (by decide) ?_
  refine va_put (D := (dC, dI)) (ci := 8) (v := .int (0 : Int32)) (ty := .int) (C := RX10) (T := TX10) (N := 26) hx hb hts hi_X10 tyX10 tyX10_ok nmX10 hown hK hP hD hS 0 rfl rfl 5 (by decide) (hts _ (List.mem_of_getElem? (i := 1) rfl)) (fun _ h9 => h9) rfl (by decide +kernel) rfl rfl (Nat.le_of_ble_eq_true rfl) dX10_end_2 (fun H locs hP hD hS => ?_)
  replace hP : va_P (dC, dI) vwCl [(h0, .inr (8, [.ref q_now, .ref q_text, .int v_typed, .ref q_row, .int v_rowMany, .int (0 : Int32), .int v_length, .int v_at, .int v_wrong, .ref q_read, .ref q_ranks, .ref q_distinct, .ref q_proper, .int v_properMany, .ref q_line, .ref q_order, .int v_orderMany, .ref q_then, .ref q_bestOrder, .ref q_lineThen, .ref q_undos, .ref q_was, .int v_undoMany, .int v_drawn, .ref q_kept, .ref q_isKept]))] H := hP
  replace hD : va_D A [(h0, .inr (8, [.ref q_now, .ref q_text, .int v_typed, .ref q_row, .int v_rowMany, .int (0 : Int32), .int v_length, .int v_at, .int v_wrong, .ref q_read, .ref q_ranks, .ref q_distinct, .ref q_proper, .int v_properMany, .ref q_line, .ref q_order, .int v_orderMany, .ref q_then, .ref q_bestOrder, .ref q_lineThen, .ref q_undos, .ref q_was, .int v_undoMany, .int v_drawn, .ref q_kept, .ref q_isKept]))] := hD
  refine lv_iload_n hx hb dX10_end_5 rfl (lv_at hl 1 rfl) ?_
  refine lv_iconst (v := 0) hx hb dX10_end_6 (by decide) ?_
  refine lv_aload_n hx hb dX10_end_7 rfl (lv_at hl 0 rfl) ?_
  refine va_get (D := (dC, dI)) (ci := 8) (v := .int v_typed) (C := RX10) (T := TX10) (N := 26) hx hb hts hi_X10 hown hK hP 0 rfl rfl 2 (by decide) (hts _ (List.mem_of_getElem? (i := 2) rfl)) (fun _ h9 => h9) rfl dX10_end_8 ?_
  obtain ⟨o_60, hr_60, h⟩ := ob h
  refine vp_callSi (va_Run.run (va_runS (As := [.int x1, .int (0 : Int32), .int v_typed]) (rest := []) ⟨hx, hb, hml, hown, hts⟩ (c_X10_in l dC dI cB cC cI cJ cZ cT x1 (0 : Int32) v_typed o_60 hr_60) (va_cwS 3 hts gX10_end_X10_in rfl rfl rfl (by decide +kernel) ⟨Nat.le_of_ble_eq_true rfl, Nat.le_of_ble_eq_true rfl⟩) ⟨blT, fun U hU hW => ⟨rfl, trivial⟩⟩ rfl rfl hl.1 rfl (lv_room (Nat.le_of_ble_eq_true rfl)) dX10_end_11 ⟨Nat.le_of_ble_eq_true rfl, Nat.le_of_ble_eq_true rfl⟩)) (fun r_60 e_60 => ?_)
  subst e_60
  refine lv_if_ne (tgt := 19) hx hb dX10_end_14 (by decide) (fun c_62 => ?_) (fun c_62 => ?_)
  · replace h := on c_62 h
    refine lv_aload_n hx hb dX10_end_19 rfl (lv_at hl 0 rfl) ?_
    refine lv_iload_n hx hb dX10_end_20 rfl (lv_at hl 1 rfl) ?_
    refine va_put (D := (dC, dI)) (ci := 8) (v := .int x1) (ty := .int) (C := RX10) (T := TX10) (N := 26) hx hb hts hi_X10 tyX10 tyX10_ok nmX10 hown hK hP hD hS 0 rfl rfl 2 (by decide) (hts _ (List.mem_of_getElem? (i := 2) rfl)) (fun _ h9 => h9) rfl (by decide +kernel) rfl rfl (Nat.le_of_ble_eq_true rfl) dX10_end_21 (fun H locs hP hD hS => ?_)
    replace hP : va_P (dC, dI) vwCl [(h0, .inr (8, [.ref q_now, .ref q_text, .int x1, .ref q_row, .int v_rowMany, .int (0 : Int32), .int v_length, .int v_at, .int v_wrong, .ref q_read, .ref q_ranks, .ref q_distinct, .ref q_proper, .int v_properMany, .ref q_line, .ref q_order, .int v_orderMany, .ref q_then, .ref q_bestOrder, .ref q_lineThen, .ref q_undos, .ref q_was, .int v_undoMany, .int v_drawn, .ref q_kept, .ref q_isKept]))] H := hP
    replace hD : va_D A [(h0, .inr (8, [.ref q_now, .ref q_text, .int x1, .ref q_row, .int v_rowMany, .int (0 : Int32), .int v_length, .int v_at, .int v_wrong, .ref q_read, .ref q_ranks, .ref q_distinct, .ref q_proper, .int v_properMany, .ref q_line, .ref q_order, .int v_orderMany, .ref q_then, .ref q_bestOrder, .ref q_lineThen, .ref q_undos, .ref q_was, .int v_undoMany, .int v_drawn, .ref q_kept, .ref q_isKept]))] := hD
    refine lv_iconst (v := 1) hx hb dX10_end_24 (by decide) ?_
    rw [hQQ]
    have ho := Option.some.inj h
    subst ho
    exact W.zret hx hb hr rfl (fun t ht hW => ⟨⟨_, (), rfl, rfl, by rw [ht]; exact hP, va_K.moved hW.alike hK, hD⟩, hS.F ht⟩) hS.2.2 dX10_end_25
  · replace h := op c_62 h
    refine lv_iconst (v := 0) hx hb dX10_end_17 (by decide) ?_
    rw [hQQ]
    have ho := Option.some.inj h
    subst ho
    exact W.zret hx hb hr rfl (fun t ht hW => ⟨⟨_, (), rfl, rfl, by rw [ht]; exact hP, va_K.moved hW.alike hK, hD⟩, hS.F ht⟩) hS.2.2 dX10_end_18
def f_X10_begin (v_typed : Int32) : Option (Int32 × Int32 × Int32 × Int32) :=
  (some ((0 : Int32), v_typed, (0 : Int32), (-1 : Int32)))
abbrev rm_X10_begin : Room := { frames := 0, cells := 0, slots := 0, locals := 0 }
set_option maxHeartbeats 4000000 in
set_option maxRecDepth 100000 in
theorem c_X10_begin (l : Launch) (dC : Nat → ClassId) (dI : Nat → Nat → Nat) (cB cC cI cJ cZ cT : ClassId) (h0 q_now q_text q_row q_read q_ranks q_distinct q_proper q_line q_order q_then q_bestOrder q_lineThen q_undos q_was q_kept q_isKept : Nat) (sz : Nat) (v_typed : Int32) (v_rowMany : Int32) (v_thrown : Int32) (v_length : Int32) (v_at : Int32) (v_wrong : Int32) (v_properMany : Int32) (v_orderMany : Int32) (v_undoMany : Int32) (v_drawn : Int32) (o : (Int32 × Int32 × Int32 × Int32)) (hf : f_X10_begin v_typed = some o) : Met l yX10_begin wsX10_begin rm_X10_begin (va_Pc [.ref h0] (fun U => U.heap.size = sz ∧ va_P (dC, dI) vwCl [(h0, .inr (8, [.ref q_now, .ref q_text, .int v_typed, .ref q_row, .int v_rowMany, .int v_thrown, .int v_length, .int v_at, .int v_wrong, .ref q_read, .ref q_ranks, .ref q_distinct, .ref q_proper, .int v_properMany, .ref q_line, .ref q_order, .int v_orderMany, .ref q_then, .ref q_bestOrder, .ref q_lineThen, .ref q_undos, .ref q_was, .int v_undoMany, .int v_drawn, .ref q_kept, .ref q_isKept]))] U.heap ∧ va_K (dC, dI) vwCl (tyA cB cC cI cJ cZ cT) U ∧ va_D (fun _ => True) [(h0, .inr (8, [.ref q_now, .ref q_text, .int v_typed, .ref q_row, .int v_rowMany, .int v_thrown, .int v_length, .int v_at, .int v_wrong, .ref q_read, .ref q_ranks, .ref q_distinct, .ref q_proper, .int v_properMany, .ref q_line, .ref q_order, .int v_orderMany, .ref q_then, .ref q_bestOrder, .ref q_lineThen, .ref q_undos, .ref q_was, .int v_undoMany, .int v_drawn, .ref q_kept, .ref q_isKept]))])) (va_Qv (fun _ : Unit => True) (fun _ t => va_P (dC, dI) vwCl [(h0, .inr (8, [.ref q_now, .ref q_text, .int o.1, .ref q_row, .int v_rowMany, .int v_thrown, .int o.2.1, .int o.2.2.1, .int o.2.2.2, .ref q_read, .ref q_ranks, .ref q_distinct, .ref q_proper, .int v_properMany, .ref q_line, .ref q_order, .int v_orderMany, .ref q_then, .ref q_bestOrder, .ref q_lineThen, .ref q_undos, .ref q_was, .int v_undoMany, .int v_drawn, .ref q_kept, .ref q_isKept]))] t.heap ∧ va_K (dC, dI) vwCl (tyA cB cC cI cJ cZ cT) t ∧ va_D (va_A [(h0, .inr (8, [.ref q_now, .ref q_text, .int v_typed, .ref q_row, .int v_rowMany, .int v_thrown, .int v_length, .int v_at, .int v_wrong, .ref q_read, .ref q_ranks, .ref q_distinct, .ref q_proper, .int v_properMany, .ref q_line, .ref q_order, .int v_orderMany, .ref q_then, .ref q_bestOrder, .ref q_lineThen, .ref q_undos, .ref q_was, .int v_undoMany, .int v_drawn, .ref q_kept, .ref q_isKept]))] sz) [(h0, .inr (8, [.ref q_now, .ref q_text, .int o.1, .ref q_row, .int v_rowMany, .int v_thrown, .int o.2.1, .int o.2.2.1, .int o.2.2.2, .ref q_read, .ref q_ranks, .ref q_distinct, .ref q_proper, .int v_properMany, .ref q_line, .ref q_order, .int v_orderMany, .ref q_then, .ref q_bestOrder, .ref q_lineThen, .ref q_undos, .ref q_was, .int v_undoMany, .int v_drawn, .ref q_kept, .ref q_isKept]))]) (va_A [(h0, .inr (8, [.ref q_now, .ref q_text, .int v_typed, .ref q_row, .int v_rowMany, .int v_thrown, .int v_length, .int v_at, .int v_wrong, .ref q_read, .ref q_ranks, .ref q_distinct, .ref q_proper, .int v_properMany, .ref q_line, .ref q_order, .int v_orderMany, .ref q_then, .ref q_bestOrder, .ref q_lineThen, .ref q_undos, .ref q_was, .int v_undoMany, .int v_drawn, .ref q_kept, .ref q_isKept]))] sz)) 0 0 (va_A [(h0, .inr (8, [.ref q_now, .ref q_text, .int v_typed, .ref q_row, .int v_rowMany, .int v_thrown, .int v_length, .int v_at, .int v_wrong, .ref q_read, .ref q_ranks, .ref q_distinct, .ref q_proper, .int v_properMany, .ref q_line, .ref q_order, .int v_orderMany, .ref q_then, .ref q_bestOrder, .ref q_lineThen, .ref q_undos, .ref q_was, .int v_undoMany, .int v_drawn, .ref q_kept, .ref q_isKept]))] sz) := by
  refine Met.ofW (cc := cX10_begin) (maxL := 1) (ret := none) (by decide) rfl ?_
  intro p e s m args below meth c s₁ B hml hv
  obtain ⟨hav, hsz, hP, hK, hD0⟩ := hv
  have hx := B.exec
  have hb := B.bytes
  have hr := B.returns
  have hts := atoms_spec (ws := wsX10_begin) B.pre
  have hown : s.vm.findClass RX10 = some m.cls := findClass_of_methodNamed B.named
  have hlocks := B.notSynchronized
  subst hsz
  have hD := hD0.self (sz := s.heap.size)
  generalize hAe : va_A [(h0, .inr (8, [.ref q_now, .ref q_text, .int v_typed, .ref q_row, .int v_rowMany, .int v_thrown, .int v_length, .int v_at, .int v_wrong, .ref q_read, .ref q_ranks, .ref q_distinct, .ref q_proper, .int v_properMany, .ref q_line, .ref q_order, .int v_orderMany, .ref q_then, .ref q_bestOrder, .ref q_lineThen, .ref q_undos, .ref q_was, .int v_undoMany, .int v_drawn, .ref q_kept, .ref q_isKept]))] s.heap.size = A at hD ⊢
  have hA : ∀ q : Nat, s.heap.size ≤ q → A q := fun q h => by rw [← hAe]; exact Or.inr h
  have hS : va_S A s.heap s.heap [] := va_S.rf
  refine wstart (rm := rm_X10_begin) hav (Nat.le_of_ble_eq_true rfl) (fun QQ ls hQQ hl => ?_)
  have hl : lv_has ls 1 [(0, .ref h0)] := hl
  have hi_X10 : ∀ w ∈ u_ws RX10 TX10 26, w ∈ wsX10_begin := by decide +kernel
  have h := hf
  unfold f_X10_begin at h
  refine lv_aload_n hx hb dX10_begin_0 rfl (lv_at hl 0 rfl) ?_
  refine lv_aload_n hx hb dX10_begin_1 rfl (lv_at hl 0 rfl) ?_
  refine va_get (D := (dC, dI)) (ci := 8) (v := .int v_typed) (C := RX10) (T := TX10) (N := 26) hx hb hts hi_X10 hown hK hP 0 rfl rfl 2 (by decide) (hts _ (List.mem_of_getElem? (i := 1) rfl)) (fun _ h9 => h9) rfl dX10_begin_2 ?_
  refine va_put (D := (dC, dI)) (ci := 8) (v := .int v_typed) (ty := .int) (C := RX10) (T := TX10) (N := 26) hx hb hts hi_X10 tyX10 tyX10_ok nmX10 hown hK hP hD hS 0 rfl rfl 6 (by decide) (hts _ (List.mem_of_getElem? (i := 2) rfl)) (fun _ h9 => h9) rfl (by decide +kernel) rfl rfl (Nat.le_of_ble_eq_true rfl) dX10_begin_5 (fun H locs hP hD hS => ?_)
  replace hP : va_P (dC, dI) vwCl [(h0, .inr (8, [.ref q_now, .ref q_text, .int v_typed, .ref q_row, .int v_rowMany, .int v_thrown, .int v_typed, .int v_at, .int v_wrong, .ref q_read, .ref q_ranks, .ref q_distinct, .ref q_proper, .int v_properMany, .ref q_line, .ref q_order, .int v_orderMany, .ref q_then, .ref q_bestOrder, .ref q_lineThen, .ref q_undos, .ref q_was, .int v_undoMany, .int v_drawn, .ref q_kept, .ref q_isKept]))] H := hP
  replace hD : va_D A [(h0, .inr (8, [.ref q_now, .ref q_text, .int v_typed, .ref q_row, .int v_rowMany, .int v_thrown, .int v_typed, .int v_at, .int v_wrong, .ref q_read, .ref q_ranks, .ref q_distinct, .ref q_proper, .int v_properMany, .ref q_line, .ref q_order, .int v_orderMany, .ref q_then, .ref q_bestOrder, .ref q_lineThen, .ref q_undos, .ref q_was, .int v_undoMany, .int v_drawn, .ref q_kept, .ref q_isKept]))] := hD
  refine lv_aload_n hx hb dX10_begin_8 rfl (lv_at hl 0 rfl) ?_
  refine lv_iconst (v := 0) hx hb dX10_begin_9 (by decide) ?_
  refine va_put (D := (dC, dI)) (ci := 8) (v := .int (0 : Int32)) (ty := .int) (C := RX10) (T := TX10) (N := 26) hx hb hts hi_X10 tyX10 tyX10_ok nmX10 hown hK hP hD hS 0 rfl rfl 7 (by decide) (hts _ (List.mem_of_getElem? (i := 3) rfl)) (fun _ h9 => h9) rfl (by decide +kernel) rfl rfl (Nat.le_of_ble_eq_true rfl) dX10_begin_10 (fun H locs hP hD hS => ?_)
  replace hP : va_P (dC, dI) vwCl [(h0, .inr (8, [.ref q_now, .ref q_text, .int v_typed, .ref q_row, .int v_rowMany, .int v_thrown, .int v_typed, .int (0 : Int32), .int v_wrong, .ref q_read, .ref q_ranks, .ref q_distinct, .ref q_proper, .int v_properMany, .ref q_line, .ref q_order, .int v_orderMany, .ref q_then, .ref q_bestOrder, .ref q_lineThen, .ref q_undos, .ref q_was, .int v_undoMany, .int v_drawn, .ref q_kept, .ref q_isKept]))] H := hP
  replace hD : va_D A [(h0, .inr (8, [.ref q_now, .ref q_text, .int v_typed, .ref q_row, .int v_rowMany, .int v_thrown, .int v_typed, .int (0 : Int32), .int v_wrong, .ref q_read, .ref q_ranks, .ref q_distinct, .ref q_proper, .int v_properMany, .ref q_line, .ref q_order, .int v_orderMany, .ref q_then, .ref q_bestOrder, .ref q_lineThen, .ref q_undos, .ref q_was, .int v_undoMany, .int v_drawn, .ref q_kept, .ref q_isKept]))] := hD
  refine lv_aload_n hx hb dX10_begin_13 rfl (lv_at hl 0 rfl) ?_
  refine lv_iconst (v := -1) hx hb dX10_begin_14 (by decide) ?_
  refine va_put (D := (dC, dI)) (ci := 8) (v := .int (-1 : Int32)) (ty := .int) (C := RX10) (T := TX10) (N := 26) hx hb hts hi_X10 tyX10 tyX10_ok nmX10 hown hK hP hD hS 0 rfl rfl 8 (by decide) (hts _ (List.mem_of_getElem? (i := 4) rfl)) (fun _ h9 => h9) rfl (by decide +kernel) rfl rfl (Nat.le_of_ble_eq_true rfl) dX10_begin_15 (fun H locs hP hD hS => ?_)
  replace hP : va_P (dC, dI) vwCl [(h0, .inr (8, [.ref q_now, .ref q_text, .int v_typed, .ref q_row, .int v_rowMany, .int v_thrown, .int v_typed, .int (0 : Int32), .int (-1 : Int32), .ref q_read, .ref q_ranks, .ref q_distinct, .ref q_proper, .int v_properMany, .ref q_line, .ref q_order, .int v_orderMany, .ref q_then, .ref q_bestOrder, .ref q_lineThen, .ref q_undos, .ref q_was, .int v_undoMany, .int v_drawn, .ref q_kept, .ref q_isKept]))] H := hP
  replace hD : va_D A [(h0, .inr (8, [.ref q_now, .ref q_text, .int v_typed, .ref q_row, .int v_rowMany, .int v_thrown, .int v_typed, .int (0 : Int32), .int (-1 : Int32), .ref q_read, .ref q_ranks, .ref q_distinct, .ref q_proper, .int v_properMany, .ref q_line, .ref q_order, .int v_orderMany, .ref q_then, .ref q_bestOrder, .ref q_lineThen, .ref q_undos, .ref q_was, .int v_undoMany, .int v_drawn, .ref q_kept, .ref q_isKept]))] := hD
  refine lv_aload_n hx hb dX10_begin_18 rfl (lv_at hl 0 rfl) ?_
  refine lv_iconst (v := 0) hx hb dX10_begin_19 (by decide) ?_
  refine va_put (D := (dC, dI)) (ci := 8) (v := .int (0 : Int32)) (ty := .int) (C := RX10) (T := TX10) (N := 26) hx hb hts hi_X10 tyX10 tyX10_ok nmX10 hown hK hP hD hS 0 rfl rfl 2 (by decide) (hts _ (List.mem_of_getElem? (i := 1) rfl)) (fun _ h9 => h9) rfl (by decide +kernel) rfl rfl (Nat.le_of_ble_eq_true rfl) dX10_begin_20 (fun H locs hP hD hS => ?_)
  replace hP : va_P (dC, dI) vwCl [(h0, .inr (8, [.ref q_now, .ref q_text, .int (0 : Int32), .ref q_row, .int v_rowMany, .int v_thrown, .int v_typed, .int (0 : Int32), .int (-1 : Int32), .ref q_read, .ref q_ranks, .ref q_distinct, .ref q_proper, .int v_properMany, .ref q_line, .ref q_order, .int v_orderMany, .ref q_then, .ref q_bestOrder, .ref q_lineThen, .ref q_undos, .ref q_was, .int v_undoMany, .int v_drawn, .ref q_kept, .ref q_isKept]))] H := hP
  replace hD : va_D A [(h0, .inr (8, [.ref q_now, .ref q_text, .int (0 : Int32), .ref q_row, .int v_rowMany, .int v_thrown, .int v_typed, .int (0 : Int32), .int (-1 : Int32), .ref q_read, .ref q_ranks, .ref q_distinct, .ref q_proper, .int v_properMany, .ref q_line, .ref q_order, .int v_orderMany, .ref q_then, .ref q_bestOrder, .ref q_lineThen, .ref q_undos, .ref q_was, .int v_undoMany, .int v_drawn, .ref q_kept, .ref q_isKept]))] := hD
  rw [hQQ]
  have ho := Option.some.inj h
  subst ho
  exact W.vret hx hb hr (fun t ht hW => ⟨⟨(), rfl, trivial, by rw [ht]; exact hP, va_K.moved hW.alike hK, hD⟩, hS.F ht⟩) hS.2.2 dX10_begin_23
def f_X10_here (v_length : Int32) (v_at : Int32) (v_text : Nat → Int32) : Option Int32 :=
  (if v_length ≤ v_at then (some (-1 : Int32)) else (if v_at < 0 ∨ 80 ≤ (v_at).toNatClampNeg then none else (some ((v_text (v_at).toNatClampNeg) &&& (255 : Int32)))))
abbrev rm_X10_here : Room := { frames := 0, cells := 0, slots := 0, locals := 0 }
set_option maxHeartbeats 4000000 in
set_option maxRecDepth 100000 in
theorem c_X10_here (l : Launch) (dC : Nat → ClassId) (dI : Nat → Nat → Nat) (cB cC cI cJ cZ cT : ClassId) (h0 q_now q_text q_row q_read q_ranks q_distinct q_proper q_line q_order q_then q_bestOrder q_lineThen q_undos q_was q_kept q_isKept : Nat) (v_typed : Int32) (v_rowMany : Int32) (v_thrown : Int32) (v_length : Int32) (v_at : Int32) (v_wrong : Int32) (v_properMany : Int32) (v_orderMany : Int32) (v_undoMany : Int32) (v_drawn : Int32) (v_text : Nat → Int32) (o : Int32) (hf : f_X10_here v_length v_at v_text = some o) : Met l yX10_here wsX10_here rm_X10_here (va_Pc [.ref h0] (fun U => va_P (dC, dI) vwCl [(h0, .inr (8, [.ref q_now, .ref q_text, .int v_typed, .ref q_row, .int v_rowMany, .int v_thrown, .int v_length, .int v_at, .int v_wrong, .ref q_read, .ref q_ranks, .ref q_distinct, .ref q_proper, .int v_properMany, .ref q_line, .ref q_order, .int v_orderMany, .ref q_then, .ref q_bestOrder, .ref q_lineThen, .ref q_undos, .ref q_was, .int v_undoMany, .int v_drawn, .ref q_kept, .ref q_isKept])), (q_text, .inl (cB, 80, .inl v_text))] U.heap ∧ va_K (dC, dI) vwCl (tyA cB cC cI cJ cZ cT) U)) (vp_Si (fun r => o = r)) 0 0 (fun _ => False) := by
  refine Met.ofW (cc := cX10_here) (maxL := 1) (ret := (some .int)) (by decide) rfl ?_
  intro p e s m args below meth c s₁ B hml hv
  obtain ⟨hav, hP, hK⟩ := hv
  have hx := B.exec
  have hb := B.bytes
  have hr := B.returns
  have hts := atoms_spec (ws := wsX10_here) B.pre
  have hown : s.vm.findClass RX10 = some m.cls := findClass_of_methodNamed B.named
  have hlocks := B.notSynchronized
  refine wstart (rm := rm_X10_here) hav (Nat.le_of_ble_eq_true rfl) (fun QQ ls hQQ hl => ?_)
  have hl : lv_has ls 1 [(0, .ref h0)] := hl
  have hi_X10 : ∀ w ∈ u_ws RX10 TX10 26, w ∈ wsX10_here := by decide +kernel
  have h := hf
  unfold f_X10_here at h
  refine lv_aload_n hx hb dX10_here_0 rfl (lv_at hl 0 rfl) ?_
  refine va_get (D := (dC, dI)) (ci := 8) (v := .int v_at) (C := RX10) (T := TX10) (N := 26) hx hb hts hi_X10 hown hK hP 0 rfl rfl 7 (by decide) (hts _ (List.mem_of_getElem? (i := 1) rfl)) (fun _ h9 => h9) rfl dX10_here_1 ?_
  refine lv_aload_n hx hb dX10_here_4 rfl (lv_at hl 0 rfl) ?_
  refine va_get (D := (dC, dI)) (ci := 8) (v := .int v_length) (C := RX10) (T := TX10) (N := 26) hx hb hts hi_X10 hown hK hP 0 rfl rfl 6 (by decide) (hts _ (List.mem_of_getElem? (i := 2) rfl)) (fun _ h9 => h9) rfl dX10_here_5 ?_
  refine lv_icmp_ge (tgt := 27) hx hb dX10_here_8 (by decide) (fun c_63 => ?_) (fun c_63 => ?_)
  · replace h := op c_63 h
    refine lv_iconst (v := -1) hx hb dX10_here_27 (by decide) ?_
    rw [hQQ]
    exact W.iret hx hb hr (fun t ht hW => ⟨_, rfl, (Option.some.inj h).symm, ht⟩) (fun q hq => absurd hq List.not_mem_nil) dX10_here_28
  · replace h := on c_63 h
    refine lv_aload_n hx hb dX10_here_11 rfl (lv_at hl 0 rfl) ?_
    refine va_get (D := (dC, dI)) (ci := 8) (v := .ref q_text) (C := RX10) (T := TX10) (N := 26) hx hb hts hi_X10 hown hK hP 0 rfl rfl 1 (by decide) (hts _ (List.mem_of_getElem? (i := 3) rfl)) (fun _ h9 => h9) rfl dX10_here_12 ?_
    refine lv_aload_n hx hb dX10_here_15 rfl (lv_at hl 0 rfl) ?_
    refine va_get (D := (dC, dI)) (ci := 8) (v := .int v_at) (C := RX10) (T := TX10) (N := 26) hx hb hts hi_X10 hown hK hP 0 rfl rfl 7 (by decide) (hts _ (List.mem_of_getElem? (i := 1) rfl)) (fun _ h9 => h9) rfl dX10_here_16 ?_
    obtain ⟨hi_64, h⟩ := og h
    refine va_bald hx hb hK hP 1 2 rfl rfl hi_64 dX10_here_19 ?_
    refine lv_sipush (v := 255) hx hb dX10_here_20 (by decide) ?_
    refine lv_iand hx hb dX10_here_23 ?_
    refine lv_goto (tgt := 28) hx hb dX10_here_24 (by decide) ?_
    rw [hQQ]
    exact W.iret hx hb hr (fun t ht hW => ⟨_, rfl, (Option.some.inj h).symm, ht⟩) (fun q hq => absurd hq List.not_mem_nil) dX10_here_28
def f_X10_fine (v_wrong : Int32) : Option Bool :=
  (if v_wrong = (-1 : Int32) then (some true) else (some false))
abbrev rm_X10_fine : Room := { frames := 0, cells := 0, slots := 0, locals := 0 }
set_option maxHeartbeats 4000000 in
set_option maxRecDepth 100000 in
theorem c_X10_fine (l : Launch) (dC : Nat → ClassId) (dI : Nat → Nat → Nat) (cB cC cI cJ cZ cT : ClassId) (h0 q_now q_text q_row q_read q_ranks q_distinct q_proper q_line q_order q_then q_bestOrder q_lineThen q_undos q_was q_kept q_isKept : Nat) (v_typed : Int32) (v_rowMany : Int32) (v_thrown : Int32) (v_length : Int32) (v_at : Int32) (v_wrong : Int32) (v_properMany : Int32) (v_orderMany : Int32) (v_undoMany : Int32) (v_drawn : Int32) (o : Bool) (hf : f_X10_fine v_wrong = some o) : Met l yX10_fine wsX10_fine rm_X10_fine (va_Pc [.ref h0] (fun U => va_P (dC, dI) vwCl [(h0, .inr (8, [.ref q_now, .ref q_text, .int v_typed, .ref q_row, .int v_rowMany, .int v_thrown, .int v_length, .int v_at, .int v_wrong, .ref q_read, .ref q_ranks, .ref q_distinct, .ref q_proper, .int v_properMany, .ref q_line, .ref q_order, .int v_orderMany, .ref q_then, .ref q_bestOrder, .ref q_lineThen, .ref q_undos, .ref q_was, .int v_undoMany, .int v_drawn, .ref q_kept, .ref q_isKept]))] U.heap ∧ va_K (dC, dI) vwCl (tyA cB cC cI cJ cZ cT) U)) (vp_Si (fun r => b2i o = r)) 0 0 (fun _ => False) := by
  refine Met.ofW (cc := cX10_fine) (maxL := 1) (ret := (some .boolean)) (by decide) rfl ?_
  intro p e s m args below meth c s₁ B hml hv
  obtain ⟨hav, hP, hK⟩ := hv
  have hx := B.exec
  have hb := B.bytes
  have hr := B.returns
  have hts := atoms_spec (ws := wsX10_fine) B.pre
  have hown : s.vm.findClass RX10 = some m.cls := findClass_of_methodNamed B.named
  have hlocks := B.notSynchronized
  refine wstart (rm := rm_X10_fine) hav (Nat.le_of_ble_eq_true rfl) (fun QQ ls hQQ hl => ?_)
  have hl : lv_has ls 1 [(0, .ref h0)] := hl
  have hi_X10 : ∀ w ∈ u_ws RX10 TX10 26, w ∈ wsX10_fine := by decide +kernel
  have h := hf
  unfold f_X10_fine at h
  refine lv_aload_n hx hb dX10_fine_0 rfl (lv_at hl 0 rfl) ?_
  refine va_get (D := (dC, dI)) (ci := 8) (v := .int v_wrong) (C := RX10) (T := TX10) (N := 26) hx hb hts hi_X10 hown hK hP 0 rfl rfl 8 (by decide) (hts _ (List.mem_of_getElem? (i := 1) rfl)) (fun _ h9 => h9) rfl dX10_fine_1 ?_
  refine lv_iconst (v := -1) hx hb dX10_fine_4 (by decide) ?_
  refine lv_icmp_ne (tgt := 12) hx hb dX10_fine_5 (by decide) (fun c_65 => ?_) (fun c_65 => ?_)
  · replace h := on c_65 h
    refine lv_iconst (v := 0) hx hb dX10_fine_12 (by decide) ?_
    rw [hQQ]
    exact W.zret hx hb hr rfl (fun t ht hW => ⟨_, rfl, (congrArg b2i (Option.some.inj h).symm), ht⟩) (fun q hq => absurd hq List.not_mem_nil) dX10_fine_13
  · replace h := op c_65 h
    refine lv_iconst (v := 1) hx hb dX10_fine_8 (by decide) ?_
    refine lv_goto (tgt := 13) hx hb dX10_fine_9 (by decide) ?_
    rw [hQQ]
    exact W.zret hx hb hr rfl (fun t ht hW => ⟨_, rfl, (congrArg b2i (Option.some.inj h).symm), ht⟩) (fun q hq => absurd hq List.not_mem_nil) dX10_fine_13
def f_X10_fault (v_wrong : Int32) (x1 : Int32) : Option Int32 :=
  ((f_X10_fine v_wrong).bind (fun o_66 => (if (b2i o_66) = 0 then (some v_wrong) else (some x1))))
abbrev rm_X10_fault : Room := { frames := 1, cells := 0, slots := 0, locals := 20 }
set_option maxHeartbeats 4000000 in
set_option maxRecDepth 100000 in
theorem c_X10_fault (l : Launch) (dC : Nat → ClassId) (dI : Nat → Nat → Nat) (cB cC cI cJ cZ cT : ClassId) (h0 q_now q_text q_row q_read q_ranks q_distinct q_proper q_line q_order q_then q_bestOrder q_lineThen q_undos q_was q_kept q_isKept : Nat) (sz : Nat) (v_typed : Int32) (v_rowMany : Int32) (v_thrown : Int32) (v_length : Int32) (v_at : Int32) (v_wrong : Int32) (v_properMany : Int32) (v_orderMany : Int32) (v_undoMany : Int32) (v_drawn : Int32) (x1 : Int32) (o : Int32) (hf : f_X10_fault v_wrong x1 = some o) : Met l yX10_fault wsX10_fault rm_X10_fault (va_Pc [.ref h0, .int x1] (fun U => U.heap.size = sz ∧ va_P (dC, dI) vwCl [(h0, .inr (8, [.ref q_now, .ref q_text, .int v_typed, .ref q_row, .int v_rowMany, .int v_thrown, .int v_length, .int v_at, .int v_wrong, .ref q_read, .ref q_ranks, .ref q_distinct, .ref q_proper, .int v_properMany, .ref q_line, .ref q_order, .int v_orderMany, .ref q_then, .ref q_bestOrder, .ref q_lineThen, .ref q_undos, .ref q_was, .int v_undoMany, .int v_drawn, .ref q_kept, .ref q_isKept]))] U.heap ∧ va_K (dC, dI) vwCl (tyA cB cC cI cJ cZ cT) U ∧ va_D (fun _ => True) [(h0, .inr (8, [.ref q_now, .ref q_text, .int v_typed, .ref q_row, .int v_rowMany, .int v_thrown, .int v_length, .int v_at, .int v_wrong, .ref q_read, .ref q_ranks, .ref q_distinct, .ref q_proper, .int v_properMany, .ref q_line, .ref q_order, .int v_orderMany, .ref q_then, .ref q_bestOrder, .ref q_lineThen, .ref q_undos, .ref q_was, .int v_undoMany, .int v_drawn, .ref q_kept, .ref q_isKept]))])) (va_Qv (fun _ : Unit => True) (fun _ t => va_P (dC, dI) vwCl [(h0, .inr (8, [.ref q_now, .ref q_text, .int v_typed, .ref q_row, .int v_rowMany, .int v_thrown, .int v_length, .int v_at, .int o, .ref q_read, .ref q_ranks, .ref q_distinct, .ref q_proper, .int v_properMany, .ref q_line, .ref q_order, .int v_orderMany, .ref q_then, .ref q_bestOrder, .ref q_lineThen, .ref q_undos, .ref q_was, .int v_undoMany, .int v_drawn, .ref q_kept, .ref q_isKept]))] t.heap ∧ va_K (dC, dI) vwCl (tyA cB cC cI cJ cZ cT) t ∧ va_D (va_A [(h0, .inr (8, [.ref q_now, .ref q_text, .int v_typed, .ref q_row, .int v_rowMany, .int v_thrown, .int v_length, .int v_at, .int v_wrong, .ref q_read, .ref q_ranks, .ref q_distinct, .ref q_proper, .int v_properMany, .ref q_line, .ref q_order, .int v_orderMany, .ref q_then, .ref q_bestOrder, .ref q_lineThen, .ref q_undos, .ref q_was, .int v_undoMany, .int v_drawn, .ref q_kept, .ref q_isKept]))] sz) [(h0, .inr (8, [.ref q_now, .ref q_text, .int v_typed, .ref q_row, .int v_rowMany, .int v_thrown, .int v_length, .int v_at, .int o, .ref q_read, .ref q_ranks, .ref q_distinct, .ref q_proper, .int v_properMany, .ref q_line, .ref q_order, .int v_orderMany, .ref q_then, .ref q_bestOrder, .ref q_lineThen, .ref q_undos, .ref q_was, .int v_undoMany, .int v_drawn, .ref q_kept, .ref q_isKept]))]) (va_A [(h0, .inr (8, [.ref q_now, .ref q_text, .int v_typed, .ref q_row, .int v_rowMany, .int v_thrown, .int v_length, .int v_at, .int v_wrong, .ref q_read, .ref q_ranks, .ref q_distinct, .ref q_proper, .int v_properMany, .ref q_line, .ref q_order, .int v_orderMany, .ref q_then, .ref q_bestOrder, .ref q_lineThen, .ref q_undos, .ref q_was, .int v_undoMany, .int v_drawn, .ref q_kept, .ref q_isKept]))] sz)) 0 0 (va_A [(h0, .inr (8, [.ref q_now, .ref q_text, .int v_typed, .ref q_row, .int v_rowMany, .int v_thrown, .int v_length, .int v_at, .int v_wrong, .ref q_read, .ref q_ranks, .ref q_distinct, .ref q_proper, .int v_properMany, .ref q_line, .ref q_order, .int v_orderMany, .ref q_then, .ref q_bestOrder, .ref q_lineThen, .ref q_undos, .ref q_was, .int v_undoMany, .int v_drawn, .ref q_kept, .ref q_isKept]))] sz) := by
  refine Met.ofW (cc := cX10_fault) (maxL := 2) (ret := none) (by decide) rfl ?_
  intro p e s m args below meth c s₁ B hml hv
  obtain ⟨hav, hsz, hP, hK, hD0⟩ := hv
  have hx := B.exec
  have hb := B.bytes
  have hr := B.returns
  have hts := atoms_spec (ws := wsX10_fault) B.pre
  have hown : s.vm.findClass RX10 = some m.cls := findClass_of_methodNamed B.named
  have hlocks := B.notSynchronized
  subst hsz
  have hD := hD0.self (sz := s.heap.size)
  generalize hAe : va_A [(h0, .inr (8, [.ref q_now, .ref q_text, .int v_typed, .ref q_row, .int v_rowMany, .int v_thrown, .int v_length, .int v_at, .int v_wrong, .ref q_read, .ref q_ranks, .ref q_distinct, .ref q_proper, .int v_properMany, .ref q_line, .ref q_order, .int v_orderMany, .ref q_then, .ref q_bestOrder, .ref q_lineThen, .ref q_undos, .ref q_was, .int v_undoMany, .int v_drawn, .ref q_kept, .ref q_isKept]))] s.heap.size = A at hD ⊢
  have hA : ∀ q : Nat, s.heap.size ≤ q → A q := fun q h => by rw [← hAe]; exact Or.inr h
  have hS : va_S A s.heap s.heap [] := va_S.rf
  refine wstart (rm := rm_X10_fault) hav (Nat.le_of_ble_eq_true rfl) (fun QQ ls hQQ hl => ?_)
  have hl : lv_has ls 2 [(0, .ref h0), (1, .int x1)] := hl
  have hi_X10 : ∀ w ∈ u_ws RX10 TX10 26, w ∈ wsX10_fault := by decide +kernel
  have h := hf
  unfold f_X10_fault at h
  refine lv_aload_n hx hb dX10_fault_0 rfl (lv_at hl 0 rfl) ?_
  obtain ⟨o_66, hr_66, h⟩ := ob h
  refine vp_callSi (va_Run.run (va_runV (As := []) (rest := []) ⟨hx, hb, hml, hown, hts⟩ (c_X10_fine l dC dI cB cC cI cJ cZ cT h0 q_now q_text q_row q_read q_ranks q_distinct q_proper q_line q_order q_then q_bestOrder q_lineThen q_undos q_was q_kept q_isKept v_typed v_rowMany v_thrown v_length v_at v_wrong v_properMany v_orderMany v_undoMany v_drawn o_66 hr_66) (cwV 0 hts gX10_fault_X10_fine rfl rfl rfl (by decide +kernel) ⟨Nat.le_of_ble_eq_true rfl, Nat.le_of_ble_eq_true rfl⟩) ⟨blR, va_recv hK hP (ci := 8) (q0 := 0) rfl rfl, fun U hU hW => ⟨rfl, by rw [hU]; exact hP.sub [0] rfl, va_K.moved hW.alike hK⟩⟩ rfl rfl hl.1 rfl (lv_room (Nat.le_of_ble_eq_true rfl)) dX10_fault_1 ⟨Nat.le_of_ble_eq_true rfl, Nat.le_of_ble_eq_true rfl⟩)) (fun r_66 e_66 => ?_)
  subst e_66
  refine lv_if_eq (tgt := 12) hx hb dX10_fault_4 (by decide) (fun c_68 => ?_) (fun c_68 => ?_)
  · replace h := op c_68 h
    rw [hQQ]
    have ho := Option.some.inj h
    subst ho
    exact W.vret hx hb hr (fun t ht hW => ⟨⟨(), rfl, trivial, by rw [ht]; exact hP, va_K.moved hW.alike hK, hD⟩, hS.F ht⟩) hS.2.2 dX10_fault_12
  · replace h := on c_68 h
    refine lv_aload_n hx hb dX10_fault_7 rfl (lv_at hl 0 rfl) ?_
    refine lv_iload_n hx hb dX10_fault_8 rfl (lv_at hl 1 rfl) ?_
    refine va_put (D := (dC, dI)) (ci := 8) (v := .int x1) (ty := .int) (C := RX10) (T := TX10) (N := 26) hx hb hts hi_X10 tyX10 tyX10_ok nmX10 hown hK hP hD hS 0 rfl rfl 8 (by decide) (hts _ (List.mem_of_getElem? (i := 1) rfl)) (fun _ h9 => h9) rfl (by decide +kernel) rfl rfl (Nat.le_of_ble_eq_true rfl) dX10_fault_9 (fun H locs hP hD hS => ?_)
    replace hP : va_P (dC, dI) vwCl [(h0, .inr (8, [.ref q_now, .ref q_text, .int v_typed, .ref q_row, .int v_rowMany, .int v_thrown, .int v_length, .int v_at, .int x1, .ref q_read, .ref q_ranks, .ref q_distinct, .ref q_proper, .int v_properMany, .ref q_line, .ref q_order, .int v_orderMany, .ref q_then, .ref q_bestOrder, .ref q_lineThen, .ref q_undos, .ref q_was, .int v_undoMany, .int v_drawn, .ref q_kept, .ref q_isKept]))] H := hP
    replace hD : va_D A [(h0, .inr (8, [.ref q_now, .ref q_text, .int v_typed, .ref q_row, .int v_rowMany, .int v_thrown, .int v_length, .int v_at, .int x1, .ref q_read, .ref q_ranks, .ref q_distinct, .ref q_proper, .int v_properMany, .ref q_line, .ref q_order, .int v_orderMany, .ref q_then, .ref q_bestOrder, .ref q_lineThen, .ref q_undos, .ref q_was, .int v_undoMany, .int v_drawn, .ref q_kept, .ref q_isKept]))] := hD
    rw [hQQ]
    have ho := Option.some.inj h
    subst ho
    exact W.vret hx hb hr (fun t ht hW => ⟨⟨(), rfl, trivial, by rw [ht]; exact hP, va_K.moved hW.alike hK, hD⟩, hS.F ht⟩) hS.2.2 dX10_fault_12
def f_X10_oneOf (v_length : Int32) (v_at : Int32) (v_wrong : Int32) (v_text : Nat → Int32) (x1 : Int32) (x2 : Int32) : Option (Int32 × Int32 × Int32) :=
  ((f_X10_fine v_wrong).bind (fun o_69 => (if (b2i o_69) = 0 then (some ((0 : Int32), v_at, v_wrong)) else ((f_X10_here v_length v_at v_text).bind (fun o_72 => ((f_X10_in o_72 x1 ((x1 + x2) - (1 : Int32))).bind (fun o_74 => (if (b2i o_74) = 0 then ((f_X10_fault v_wrong v_at).bind (fun o_78 => (some ((0 : Int32), v_at, o_78)))) else (if ((v_at + (1 : Int32)) - (1 : Int32)) < 0 ∨ 80 ≤ (((v_at + (1 : Int32)) - (1 : Int32))).toNatClampNeg then none else (some (((v_text (((v_at + (1 : Int32)) - (1 : Int32))).toNatClampNeg) - x1), (v_at + (1 : Int32)), v_wrong)))))))))))
abbrev rm_X10_oneOf : Room := { frames := 2, cells := 0, slots := 0, locals := 41 }
set_option maxHeartbeats 4000000 in
set_option maxRecDepth 100000 in
theorem c_X10_oneOf (l : Launch) (dC : Nat → ClassId) (dI : Nat → Nat → Nat) (cB cC cI cJ cZ cT : ClassId) (h0 q_now q_text q_row q_read q_ranks q_distinct q_proper q_line q_order q_then q_bestOrder q_lineThen q_undos q_was q_kept q_isKept : Nat) (sz : Nat) (v_typed : Int32) (v_rowMany : Int32) (v_thrown : Int32) (v_length : Int32) (v_at : Int32) (v_wrong : Int32) (v_properMany : Int32) (v_orderMany : Int32) (v_undoMany : Int32) (v_drawn : Int32) (v_text : Nat → Int32) (x1 : Int32) (x2 : Int32) (o : (Int32 × Int32 × Int32)) (hf : f_X10_oneOf v_length v_at v_wrong v_text x1 x2 = some o) : Met l yX10_oneOf wsX10_oneOf rm_X10_oneOf (va_Pc [.ref h0, .int x1, .int x2] (fun U => U.heap.size = sz ∧ va_P (dC, dI) vwCl [(h0, .inr (8, [.ref q_now, .ref q_text, .int v_typed, .ref q_row, .int v_rowMany, .int v_thrown, .int v_length, .int v_at, .int v_wrong, .ref q_read, .ref q_ranks, .ref q_distinct, .ref q_proper, .int v_properMany, .ref q_line, .ref q_order, .int v_orderMany, .ref q_then, .ref q_bestOrder, .ref q_lineThen, .ref q_undos, .ref q_was, .int v_undoMany, .int v_drawn, .ref q_kept, .ref q_isKept])), (q_text, .inl (cB, 80, .inl v_text))] U.heap ∧ va_K (dC, dI) vwCl (tyA cB cC cI cJ cZ cT) U ∧ va_D (fun _ => True) [(h0, .inr (8, [.ref q_now, .ref q_text, .int v_typed, .ref q_row, .int v_rowMany, .int v_thrown, .int v_length, .int v_at, .int v_wrong, .ref q_read, .ref q_ranks, .ref q_distinct, .ref q_proper, .int v_properMany, .ref q_line, .ref q_order, .int v_orderMany, .ref q_then, .ref q_bestOrder, .ref q_lineThen, .ref q_undos, .ref q_was, .int v_undoMany, .int v_drawn, .ref q_kept, .ref q_isKept])), (q_text, .inl (cB, 80, .inl v_text))])) (va_Qi (fun (r : Int32) (_ : Unit) => o.1 = r) (fun _ t => va_P (dC, dI) vwCl [(h0, .inr (8, [.ref q_now, .ref q_text, .int v_typed, .ref q_row, .int v_rowMany, .int v_thrown, .int v_length, .int o.2.1, .int o.2.2, .ref q_read, .ref q_ranks, .ref q_distinct, .ref q_proper, .int v_properMany, .ref q_line, .ref q_order, .int v_orderMany, .ref q_then, .ref q_bestOrder, .ref q_lineThen, .ref q_undos, .ref q_was, .int v_undoMany, .int v_drawn, .ref q_kept, .ref q_isKept])), (q_text, .inl (cB, 80, .inl v_text))] t.heap ∧ va_K (dC, dI) vwCl (tyA cB cC cI cJ cZ cT) t ∧ va_D (va_A [(h0, .inr (8, [.ref q_now, .ref q_text, .int v_typed, .ref q_row, .int v_rowMany, .int v_thrown, .int v_length, .int v_at, .int v_wrong, .ref q_read, .ref q_ranks, .ref q_distinct, .ref q_proper, .int v_properMany, .ref q_line, .ref q_order, .int v_orderMany, .ref q_then, .ref q_bestOrder, .ref q_lineThen, .ref q_undos, .ref q_was, .int v_undoMany, .int v_drawn, .ref q_kept, .ref q_isKept])), (q_text, .inl (cB, 80, .inl v_text))] sz) [(h0, .inr (8, [.ref q_now, .ref q_text, .int v_typed, .ref q_row, .int v_rowMany, .int v_thrown, .int v_length, .int o.2.1, .int o.2.2, .ref q_read, .ref q_ranks, .ref q_distinct, .ref q_proper, .int v_properMany, .ref q_line, .ref q_order, .int v_orderMany, .ref q_then, .ref q_bestOrder, .ref q_lineThen, .ref q_undos, .ref q_was, .int v_undoMany, .int v_drawn, .ref q_kept, .ref q_isKept])), (q_text, .inl (cB, 80, .inl v_text))]) (va_A [(h0, .inr (8, [.ref q_now, .ref q_text, .int v_typed, .ref q_row, .int v_rowMany, .int v_thrown, .int v_length, .int v_at, .int v_wrong, .ref q_read, .ref q_ranks, .ref q_distinct, .ref q_proper, .int v_properMany, .ref q_line, .ref q_order, .int v_orderMany, .ref q_then, .ref q_bestOrder, .ref q_lineThen, .ref q_undos, .ref q_was, .int v_undoMany, .int v_drawn, .ref q_kept, .ref q_isKept])), (q_text, .inl (cB, 80, .inl v_text))] sz)) 0 0 (va_A [(h0, .inr (8, [.ref q_now, .ref q_text, .int v_typed, .ref q_row, .int v_rowMany, .int v_thrown, .int v_length, .int v_at, .int v_wrong, .ref q_read, .ref q_ranks, .ref q_distinct, .ref q_proper, .int v_properMany, .ref q_line, .ref q_order, .int v_orderMany, .ref q_then, .ref q_bestOrder, .ref q_lineThen, .ref q_undos, .ref q_was, .int v_undoMany, .int v_drawn, .ref q_kept, .ref q_isKept])), (q_text, .inl (cB, 80, .inl v_text))] sz) := by
  refine Met.ofW (cc := cX10_oneOf) (maxL := 3) (ret := (some .int)) (by decide) rfl ?_
  intro p e s m args below meth c s₁ B hml hv
  obtain ⟨hav, hsz, hP, hK, hD0⟩ := hv
  have hx := B.exec
  have hb := B.bytes
  have hr := B.returns
  have hts := atoms_spec (ws := wsX10_oneOf) B.pre
  have hown : s.vm.findClass RX10 = some m.cls := findClass_of_methodNamed B.named
  have hlocks := B.notSynchronized
  subst hsz
  have hD := hD0.self (sz := s.heap.size)
  generalize hAe : va_A [(h0, .inr (8, [.ref q_now, .ref q_text, .int v_typed, .ref q_row, .int v_rowMany, .int v_thrown, .int v_length, .int v_at, .int v_wrong, .ref q_read, .ref q_ranks, .ref q_distinct, .ref q_proper, .int v_properMany, .ref q_line, .ref q_order, .int v_orderMany, .ref q_then, .ref q_bestOrder, .ref q_lineThen, .ref q_undos, .ref q_was, .int v_undoMany, .int v_drawn, .ref q_kept, .ref q_isKept])), (q_text, .inl (cB, 80, .inl v_text))] s.heap.size = A at hD ⊢
  have hA : ∀ q : Nat, s.heap.size ≤ q → A q := fun q h => by rw [← hAe]; exact Or.inr h
  have hS : va_S A s.heap s.heap [] := va_S.rf
  refine wstart (rm := rm_X10_oneOf) hav (Nat.le_of_ble_eq_true rfl) (fun QQ ls hQQ hl => ?_)
  have hl : lv_has ls 3 [(0, .ref h0), (1, .int x1), (2, .int x2)] := hl
  have hi_X10 : ∀ w ∈ u_ws RX10 TX10 26, w ∈ wsX10_oneOf := by decide +kernel
  have h := hf
  unfold f_X10_oneOf at h
  refine lv_aload_n hx hb dX10_oneOf_0 rfl (lv_at hl 0 rfl) ?_
  obtain ⟨o_69, hr_69, h⟩ := ob h
  refine vp_callSi (va_Run.run (va_runV (As := []) (rest := []) ⟨hx, hb, hml, hown, hts⟩ (c_X10_fine l dC dI cB cC cI cJ cZ cT h0 q_now q_text q_row q_read q_ranks q_distinct q_proper q_line q_order q_then q_bestOrder q_lineThen q_undos q_was q_kept q_isKept v_typed v_rowMany v_thrown v_length v_at v_wrong v_properMany v_orderMany v_undoMany v_drawn o_69 hr_69) (cwV 0 hts gX10_oneOf_X10_fine rfl rfl rfl (by decide +kernel) ⟨Nat.le_of_ble_eq_true rfl, Nat.le_of_ble_eq_true rfl⟩) ⟨blR, va_recv hK hP (ci := 8) (q0 := 0) rfl rfl, fun U hU hW => ⟨rfl, by rw [hU]; exact hP.sub [0] rfl, va_K.moved hW.alike hK⟩⟩ rfl rfl hl.1 rfl (lv_room (Nat.le_of_ble_eq_true rfl)) dX10_oneOf_1 ⟨Nat.le_of_ble_eq_true rfl, Nat.le_of_ble_eq_true rfl⟩)) (fun r_69 e_69 => ?_)
  subst e_69
  refine lv_if_ne (tgt := 9) hx hb dX10_oneOf_4 (by decide) (fun c_71 => ?_) (fun c_71 => ?_)
  · replace h := on c_71 h
    refine lv_aload_n hx hb dX10_oneOf_9 rfl (lv_at hl 0 rfl) ?_
    obtain ⟨o_72, hr_72, h⟩ := ob h
    refine vp_callSi (va_Run.run (va_runV (As := []) (rest := []) ⟨hx, hb, hml, hown, hts⟩ (c_X10_here l dC dI cB cC cI cJ cZ cT h0 q_now q_text q_row q_read q_ranks q_distinct q_proper q_line q_order q_then q_bestOrder q_lineThen q_undos q_was q_kept q_isKept v_typed v_rowMany v_thrown v_length v_at v_wrong v_properMany v_orderMany v_undoMany v_drawn v_text o_72 hr_72) (cwV 0 hts gX10_oneOf_X10_here rfl rfl rfl (by decide +kernel) ⟨Nat.le_of_ble_eq_true rfl, Nat.le_of_ble_eq_true rfl⟩) ⟨blR, va_recv hK hP (ci := 8) (q0 := 0) rfl rfl, fun U hU hW => ⟨rfl, by rw [hU]; exact hP.sub [0, 1] rfl, va_K.moved hW.alike hK⟩⟩ rfl rfl hl.1 rfl (lv_room (Nat.le_of_ble_eq_true rfl)) dX10_oneOf_10 ⟨Nat.le_of_ble_eq_true rfl, Nat.le_of_ble_eq_true rfl⟩)) (fun r_72 e_72 => ?_)
    subst e_72
    refine lv_iload_n hx hb dX10_oneOf_13 rfl (lv_at hl 1 rfl) ?_
    refine lv_iload_n hx hb dX10_oneOf_14 rfl (lv_at hl 1 rfl) ?_
    refine lv_iload_n hx hb dX10_oneOf_15 rfl (lv_at hl 2 rfl) ?_
    refine lv_iadd hx hb dX10_oneOf_16 ?_
    refine lv_iconst (v := 1) hx hb dX10_oneOf_17 (by decide) ?_
    refine lv_isub hx hb dX10_oneOf_18 ?_
    obtain ⟨o_74, hr_74, h⟩ := ob h
    refine vp_callSi (va_Run.run (va_runS (As := [.int o_72, .int x1, .int ((x1 + x2) - (1 : Int32))]) (rest := []) ⟨hx, hb, hml, hown, hts⟩ (c_X10_in l dC dI cB cC cI cJ cZ cT o_72 x1 ((x1 + x2) - (1 : Int32)) o_74 hr_74) (va_cwS 3 hts gX10_oneOf_X10_in rfl rfl rfl (by decide +kernel) ⟨Nat.le_of_ble_eq_true rfl, Nat.le_of_ble_eq_true rfl⟩) ⟨blT, fun U hU hW => ⟨rfl, trivial⟩⟩ rfl rfl hl.1 rfl (lv_room (Nat.le_of_ble_eq_true rfl)) dX10_oneOf_19 ⟨Nat.le_of_ble_eq_true rfl, Nat.le_of_ble_eq_true rfl⟩)) (fun r_74 e_74 => ?_)
    subst e_74
    refine lv_if_ne (tgt := 35) hx hb dX10_oneOf_22 (by decide) (fun c_76 => ?_) (fun c_76 => ?_)
    · replace h := on c_76 h
      refine lv_aload_n hx hb dX10_oneOf_35 rfl (lv_at hl 0 rfl) ?_
      refine lv_dup hx hb dX10_oneOf_36 rfl ?_
      refine va_get (D := (dC, dI)) (ci := 8) (v := .int v_at) (C := RX10) (T := TX10) (N := 26) hx hb hts hi_X10 hown hK hP 0 rfl rfl 7 (by decide) (hts _ (List.mem_of_getElem? (i := 1) rfl)) (fun _ h9 => h9) rfl dX10_oneOf_37 ?_
      refine lv_iconst (v := 1) hx hb dX10_oneOf_40 (by decide) ?_
      refine lv_iadd hx hb dX10_oneOf_41 ?_
      refine va_put (D := (dC, dI)) (ci := 8) (v := .int (v_at + (1 : Int32))) (ty := .int) (C := RX10) (T := TX10) (N := 26) hx hb hts hi_X10 tyX10 tyX10_ok nmX10 hown hK hP hD hS 0 rfl rfl 7 (by decide) (hts _ (List.mem_of_getElem? (i := 1) rfl)) (fun _ h9 => h9) rfl (by decide +kernel) rfl rfl (Nat.le_of_ble_eq_true rfl) dX10_oneOf_42 (fun H locs hP hD hS => ?_)
      replace hP : va_P (dC, dI) vwCl [(h0, .inr (8, [.ref q_now, .ref q_text, .int v_typed, .ref q_row, .int v_rowMany, .int v_thrown, .int v_length, .int (v_at + (1 : Int32)), .int v_wrong, .ref q_read, .ref q_ranks, .ref q_distinct, .ref q_proper, .int v_properMany, .ref q_line, .ref q_order, .int v_orderMany, .ref q_then, .ref q_bestOrder, .ref q_lineThen, .ref q_undos, .ref q_was, .int v_undoMany, .int v_drawn, .ref q_kept, .ref q_isKept])), (q_text, .inl (cB, 80, .inl v_text))] H := hP
      replace hD : va_D A [(h0, .inr (8, [.ref q_now, .ref q_text, .int v_typed, .ref q_row, .int v_rowMany, .int v_thrown, .int v_length, .int (v_at + (1 : Int32)), .int v_wrong, .ref q_read, .ref q_ranks, .ref q_distinct, .ref q_proper, .int v_properMany, .ref q_line, .ref q_order, .int v_orderMany, .ref q_then, .ref q_bestOrder, .ref q_lineThen, .ref q_undos, .ref q_was, .int v_undoMany, .int v_drawn, .ref q_kept, .ref q_isKept])), (q_text, .inl (cB, 80, .inl v_text))] := hD
      refine lv_aload_n hx hb dX10_oneOf_45 rfl (lv_at hl 0 rfl) ?_
      refine va_get (D := (dC, dI)) (ci := 8) (v := .ref q_text) (C := RX10) (T := TX10) (N := 26) hx hb hts hi_X10 hown hK hP 0 rfl rfl 1 (by decide) (hts _ (List.mem_of_getElem? (i := 2) rfl)) (fun _ h9 => h9) rfl dX10_oneOf_46 ?_
      refine lv_aload_n hx hb dX10_oneOf_49 rfl (lv_at hl 0 rfl) ?_
      refine va_get (D := (dC, dI)) (ci := 8) (v := .int (v_at + (1 : Int32))) (C := RX10) (T := TX10) (N := 26) hx hb hts hi_X10 hown hK hP 0 rfl rfl 7 (by decide) (hts _ (List.mem_of_getElem? (i := 1) rfl)) (fun _ h9 => h9) rfl dX10_oneOf_50 ?_
      refine lv_iconst (v := 1) hx hb dX10_oneOf_53 (by decide) ?_
      refine lv_isub hx hb dX10_oneOf_54 ?_
      obtain ⟨hi_77, h⟩ := og h
      refine va_bald hx hb hK hP 1 2 rfl rfl hi_77 dX10_oneOf_55 ?_
      refine lv_iload_n hx hb dX10_oneOf_56 rfl (lv_at hl 1 rfl) ?_
      refine lv_isub hx hb dX10_oneOf_57 ?_
      rw [hQQ]
      have ho := Option.some.inj h
      subst ho
      exact W.iret hx hb hr (fun t ht hW => ⟨⟨_, (), rfl, rfl, by rw [ht]; exact hP, va_K.moved hW.alike hK, hD⟩, hS.F ht⟩) hS.2.2 dX10_oneOf_58
    · replace h := op c_76 h
      refine lv_aload_n hx hb dX10_oneOf_25 rfl (lv_at hl 0 rfl) ?_
      refine lv_aload_n hx hb dX10_oneOf_26 rfl (lv_at hl 0 rfl) ?_
      refine va_get (D := (dC, dI)) (ci := 8) (v := .int v_at) (C := RX10) (T := TX10) (N := 26) hx hb hts hi_X10 hown hK hP 0 rfl rfl 7 (by decide) (hts _ (List.mem_of_getElem? (i := 1) rfl)) (fun _ h9 => h9) rfl dX10_oneOf_27 ?_
      obtain ⟨o_78, hr_78, h⟩ := ob h
      have hPc := hP.sub (ws' := [(h0, .inr (8, [.ref q_now, .ref q_text, .int v_typed, .ref q_row, .int v_rowMany, .int v_thrown, .int v_length, .int v_at, .int v_wrong, .ref q_read, .ref q_ranks, .ref q_distinct, .ref q_proper, .int v_properMany, .ref q_line, .ref q_order, .int v_orderMany, .ref q_then, .ref q_bestOrder, .ref q_lineThen, .ref q_undos, .ref q_was, .int v_undoMany, .int v_drawn, .ref q_kept, .ref q_isKept]))]) [0] rfl
      have hDc := hD.sub (ws' := [(h0, .inr (8, [.ref q_now, .ref q_text, .int v_typed, .ref q_row, .int v_rowMany, .int v_thrown, .int v_length, .int v_at, .int v_wrong, .ref q_read, .ref q_ranks, .ref q_distinct, .ref q_proper, .int v_properMany, .ref q_line, .ref q_order, .int v_orderMany, .ref q_then, .ref q_bestOrder, .ref q_lineThen, .ref q_undos, .ref q_was, .int v_undoMany, .int v_drawn, .ref q_kept, .ref q_isKept]))]) [0] (by decide) rfl
      have hFc := va_free (wc := [(h0, .inr (8, [.ref q_now, .ref q_text, .int v_typed, .ref q_row, .int v_rowMany, .int v_thrown, .int v_length, .int v_at, .int v_wrong, .ref q_read, .ref q_ranks, .ref q_distinct, .ref q_proper, .int v_properMany, .ref q_line, .ref q_order, .int v_orderMany, .ref q_then, .ref q_bestOrder, .ref q_lineThen, .ref q_undos, .ref q_was, .int v_undoMany, .int v_drawn, .ref q_kept, .ref q_isKept]))]) hD hS hA [0] rfl
      refine va_callv (va_runV (As := [.int v_at]) (rest := []) ⟨hx, hb, hml, hown, hts⟩ (c_X10_fault l dC dI cB cC cI cJ cZ cT h0 q_now q_text q_row q_read q_ranks q_distinct q_proper q_line q_order q_then q_bestOrder q_lineThen q_undos q_was q_kept q_isKept s.heap.size v_typed v_rowMany v_thrown v_length v_at v_wrong v_properMany v_orderMany v_undoMany v_drawn v_at o_78 hr_78) (cwV 1 hts gX10_oneOf_X10_fault rfl rfl rfl (by decide +kernel) ⟨Nat.le_of_ble_eq_true rfl, Nat.le_of_ble_eq_true rfl⟩) ⟨blW, va_recv hK hP (ci := 8) (q0 := 0) rfl rfl, fun U hU hW => ⟨rfl, by rw [hU], by rw [hU]; exact hPc, va_K.moved hW.alike hK, hDc.weaken (fun _ _ _ _ => trivial)⟩⟩ rfl rfl hl.1 rfl (lv_room (Nat.le_of_ble_eq_true rfl)) dX10_oneOf_30 ⟨Nat.le_of_ble_eq_true rfl, Nat.le_of_ble_eq_true rfl⟩) hS (fun q _ h => hFc q h) hFc (fun u_78 t_78 H locs ht hvm e_78 hB hz1 hk1 hS => ?_)
      obtain ⟨hP1, -, hD1⟩ := hB
      rw [ht] at hP1
      obtain ⟨hP, hD⟩ := va_join (wr := [(q_text, .inl (cB, 80, .inl v_text))]) (w1 := [(h0, .inr (8, [.ref q_now, .ref q_text, .int v_typed, .ref q_row, .int v_rowMany, .int v_thrown, .int v_length, .int v_at, .int o_78, .ref q_read, .ref q_ranks, .ref q_distinct, .ref q_proper, .int v_properMany, .ref q_line, .ref q_order, .int v_orderMany, .ref q_then, .ref q_bestOrder, .ref q_lineThen, .ref q_undos, .ref q_was, .int v_undoMany, .int v_drawn, .ref q_kept, .ref q_isKept]))]) hP hD [0] [1] rfl rfl (by decide) (by decide) hk1 hFc hP1 hD1
      replace hP := hP.sub (ws' := [(h0, .inr (8, [.ref q_now, .ref q_text, .int v_typed, .ref q_row, .int v_rowMany, .int v_thrown, .int v_length, .int v_at, .int o_78, .ref q_read, .ref q_ranks, .ref q_distinct, .ref q_proper, .int v_properMany, .ref q_line, .ref q_order, .int v_orderMany, .ref q_then, .ref q_bestOrder, .ref q_lineThen, .ref q_undos, .ref q_was, .int v_undoMany, .int v_drawn, .ref q_kept, .ref q_isKept])), (q_text, .inl (cB, 80, .inl v_text))]) [1, 0] rfl
      replace hD := hD.sub (ws' := [(h0, .inr (8, [.ref q_now, .ref q_text, .int v_typed, .ref q_row, .int v_rowMany, .int v_thrown, .int v_length, .int v_at, .int o_78, .ref q_read, .ref q_ranks, .ref q_distinct, .ref q_proper, .int v_properMany, .ref q_line, .ref q_order, .int v_orderMany, .ref q_then, .ref q_bestOrder, .ref q_lineThen, .ref q_undos, .ref q_was, .int v_undoMany, .int v_drawn, .ref q_kept, .ref q_isKept])), (q_text, .inl (cB, 80, .inl v_text))]) [1, 0] (by decide) rfl
      refine lv_iconst (v := 0) hx hb dX10_oneOf_33 (by decide) ?_
      rw [hQQ]
      have ho := Option.some.inj h
      subst ho
      exact W.iret hx hb hr (fun t ht hW => ⟨⟨_, (), rfl, rfl, by rw [ht]; exact hP, va_K.moved hW.alike hK, hD⟩, hS.F ht⟩) hS.2.2 dX10_oneOf_34
  · replace h := op c_71 h
    refine lv_iconst (v := 0) hx hb dX10_oneOf_7 (by decide) ?_
    rw [hQQ]
    have ho := Option.some.inj h
    subst ho
    exact W.iret hx hb hr (fun t ht hW => ⟨⟨_, (), rfl, rfl, by rw [ht]; exact hP, va_K.moved hW.alike hK, hD⟩, hS.F ht⟩) hS.2.2 dX10_oneOf_8
def f_X10_twoDigits (v_length : Int32) (v_at : Int32) (v_wrong : Int32) (v_text : Nat → Int32) : Option (Int32 × Int32 × Int32) :=
  ((f_X10_oneOf v_length v_at v_wrong v_text (48 : Int32) (10 : Int32)).bind (fun o_80 => ((f_X10_oneOf v_length o_80.2.1 o_80.2.2 v_text (48 : Int32) (10 : Int32)).bind (fun o_82 => (some ((((10 : Int32) * o_80.1) + o_82.1), o_82.2.1, o_82.2.2))))))
abbrev rm_X10_twoDigits : Room := { frames := 3, cells := 0, slots := 0, locals := 63 }
set_option maxHeartbeats 4000000 in
set_option maxRecDepth 100000 in
theorem c_X10_twoDigits (l : Launch) (dC : Nat → ClassId) (dI : Nat → Nat → Nat) (cB cC cI cJ cZ cT : ClassId) (h0 q_now q_text q_row q_read q_ranks q_distinct q_proper q_line q_order q_then q_bestOrder q_lineThen q_undos q_was q_kept q_isKept : Nat) (sz : Nat) (v_typed : Int32) (v_rowMany : Int32) (v_thrown : Int32) (v_length : Int32) (v_at : Int32) (v_wrong : Int32) (v_properMany : Int32) (v_orderMany : Int32) (v_undoMany : Int32) (v_drawn : Int32) (v_text : Nat → Int32) (o : (Int32 × Int32 × Int32)) (hf : f_X10_twoDigits v_length v_at v_wrong v_text = some o) : Met l yX10_twoDigits wsX10_twoDigits rm_X10_twoDigits (va_Pc [.ref h0] (fun U => U.heap.size = sz ∧ va_P (dC, dI) vwCl [(h0, .inr (8, [.ref q_now, .ref q_text, .int v_typed, .ref q_row, .int v_rowMany, .int v_thrown, .int v_length, .int v_at, .int v_wrong, .ref q_read, .ref q_ranks, .ref q_distinct, .ref q_proper, .int v_properMany, .ref q_line, .ref q_order, .int v_orderMany, .ref q_then, .ref q_bestOrder, .ref q_lineThen, .ref q_undos, .ref q_was, .int v_undoMany, .int v_drawn, .ref q_kept, .ref q_isKept])), (q_text, .inl (cB, 80, .inl v_text))] U.heap ∧ va_K (dC, dI) vwCl (tyA cB cC cI cJ cZ cT) U ∧ va_D (fun _ => True) [(h0, .inr (8, [.ref q_now, .ref q_text, .int v_typed, .ref q_row, .int v_rowMany, .int v_thrown, .int v_length, .int v_at, .int v_wrong, .ref q_read, .ref q_ranks, .ref q_distinct, .ref q_proper, .int v_properMany, .ref q_line, .ref q_order, .int v_orderMany, .ref q_then, .ref q_bestOrder, .ref q_lineThen, .ref q_undos, .ref q_was, .int v_undoMany, .int v_drawn, .ref q_kept, .ref q_isKept])), (q_text, .inl (cB, 80, .inl v_text))])) (va_Qi (fun (r : Int32) (_ : Unit) => o.1 = r) (fun _ t => va_P (dC, dI) vwCl [(h0, .inr (8, [.ref q_now, .ref q_text, .int v_typed, .ref q_row, .int v_rowMany, .int v_thrown, .int v_length, .int o.2.1, .int o.2.2, .ref q_read, .ref q_ranks, .ref q_distinct, .ref q_proper, .int v_properMany, .ref q_line, .ref q_order, .int v_orderMany, .ref q_then, .ref q_bestOrder, .ref q_lineThen, .ref q_undos, .ref q_was, .int v_undoMany, .int v_drawn, .ref q_kept, .ref q_isKept])), (q_text, .inl (cB, 80, .inl v_text))] t.heap ∧ va_K (dC, dI) vwCl (tyA cB cC cI cJ cZ cT) t ∧ va_D (va_A [(h0, .inr (8, [.ref q_now, .ref q_text, .int v_typed, .ref q_row, .int v_rowMany, .int v_thrown, .int v_length, .int v_at, .int v_wrong, .ref q_read, .ref q_ranks, .ref q_distinct, .ref q_proper, .int v_properMany, .ref q_line, .ref q_order, .int v_orderMany, .ref q_then, .ref q_bestOrder, .ref q_lineThen, .ref q_undos, .ref q_was, .int v_undoMany, .int v_drawn, .ref q_kept, .ref q_isKept])), (q_text, .inl (cB, 80, .inl v_text))] sz) [(h0, .inr (8, [.ref q_now, .ref q_text, .int v_typed, .ref q_row, .int v_rowMany, .int v_thrown, .int v_length, .int o.2.1, .int o.2.2, .ref q_read, .ref q_ranks, .ref q_distinct, .ref q_proper, .int v_properMany, .ref q_line, .ref q_order, .int v_orderMany, .ref q_then, .ref q_bestOrder, .ref q_lineThen, .ref q_undos, .ref q_was, .int v_undoMany, .int v_drawn, .ref q_kept, .ref q_isKept])), (q_text, .inl (cB, 80, .inl v_text))]) (va_A [(h0, .inr (8, [.ref q_now, .ref q_text, .int v_typed, .ref q_row, .int v_rowMany, .int v_thrown, .int v_length, .int v_at, .int v_wrong, .ref q_read, .ref q_ranks, .ref q_distinct, .ref q_proper, .int v_properMany, .ref q_line, .ref q_order, .int v_orderMany, .ref q_then, .ref q_bestOrder, .ref q_lineThen, .ref q_undos, .ref q_was, .int v_undoMany, .int v_drawn, .ref q_kept, .ref q_isKept])), (q_text, .inl (cB, 80, .inl v_text))] sz)) 0 0 (va_A [(h0, .inr (8, [.ref q_now, .ref q_text, .int v_typed, .ref q_row, .int v_rowMany, .int v_thrown, .int v_length, .int v_at, .int v_wrong, .ref q_read, .ref q_ranks, .ref q_distinct, .ref q_proper, .int v_properMany, .ref q_line, .ref q_order, .int v_orderMany, .ref q_then, .ref q_bestOrder, .ref q_lineThen, .ref q_undos, .ref q_was, .int v_undoMany, .int v_drawn, .ref q_kept, .ref q_isKept])), (q_text, .inl (cB, 80, .inl v_text))] sz) := by
  refine Met.ofW (cc := cX10_twoDigits) (maxL := 2) (ret := (some .int)) (by decide) rfl ?_
  intro p e s m args below meth c s₁ B hml hv
  obtain ⟨hav, hsz, hP, hK, hD0⟩ := hv
  have hx := B.exec
  have hb := B.bytes
  have hr := B.returns
  have hts := atoms_spec (ws := wsX10_twoDigits) B.pre
  have hown : s.vm.findClass RX10 = some m.cls := findClass_of_methodNamed B.named
  have hlocks := B.notSynchronized
  subst hsz
  have hD := hD0.self (sz := s.heap.size)
  generalize hAe : va_A [(h0, .inr (8, [.ref q_now, .ref q_text, .int v_typed, .ref q_row, .int v_rowMany, .int v_thrown, .int v_length, .int v_at, .int v_wrong, .ref q_read, .ref q_ranks, .ref q_distinct, .ref q_proper, .int v_properMany, .ref q_line, .ref q_order, .int v_orderMany, .ref q_then, .ref q_bestOrder, .ref q_lineThen, .ref q_undos, .ref q_was, .int v_undoMany, .int v_drawn, .ref q_kept, .ref q_isKept])), (q_text, .inl (cB, 80, .inl v_text))] s.heap.size = A at hD ⊢
  have hA : ∀ q : Nat, s.heap.size ≤ q → A q := fun q h => by rw [← hAe]; exact Or.inr h
  have hS : va_S A s.heap s.heap [] := va_S.rf
  refine wstart (rm := rm_X10_twoDigits) hav (Nat.le_of_ble_eq_true rfl) (fun QQ ls hQQ hl => ?_)
  have hl : lv_has ls 2 [(0, .ref h0)] := hl
  have h := hf
  unfold f_X10_twoDigits at h
  refine lv_aload_n hx hb dX10_twoDigits_0 rfl (lv_at hl 0 rfl) ?_
  refine lv_bipush (v := 48) hx hb dX10_twoDigits_1 (by decide) ?_
  refine lv_bipush (v := 10) hx hb dX10_twoDigits_3 (by decide) ?_
  obtain ⟨o_80, hr_80, h⟩ := ob h
  have hPc := hP.sub (ws' := [(h0, .inr (8, [.ref q_now, .ref q_text, .int v_typed, .ref q_row, .int v_rowMany, .int v_thrown, .int v_length, .int v_at, .int v_wrong, .ref q_read, .ref q_ranks, .ref q_distinct, .ref q_proper, .int v_properMany, .ref q_line, .ref q_order, .int v_orderMany, .ref q_then, .ref q_bestOrder, .ref q_lineThen, .ref q_undos, .ref q_was, .int v_undoMany, .int v_drawn, .ref q_kept, .ref q_isKept])), (q_text, .inl (cB, 80, .inl v_text))]) [0, 1] rfl
  have hDc := hD.sub (ws' := [(h0, .inr (8, [.ref q_now, .ref q_text, .int v_typed, .ref q_row, .int v_rowMany, .int v_thrown, .int v_length, .int v_at, .int v_wrong, .ref q_read, .ref q_ranks, .ref q_distinct, .ref q_proper, .int v_properMany, .ref q_line, .ref q_order, .int v_orderMany, .ref q_then, .ref q_bestOrder, .ref q_lineThen, .ref q_undos, .ref q_was, .int v_undoMany, .int v_drawn, .ref q_kept, .ref q_isKept])), (q_text, .inl (cB, 80, .inl v_text))]) [0, 1] (by decide) rfl
  have hFc := va_free (wc := [(h0, .inr (8, [.ref q_now, .ref q_text, .int v_typed, .ref q_row, .int v_rowMany, .int v_thrown, .int v_length, .int v_at, .int v_wrong, .ref q_read, .ref q_ranks, .ref q_distinct, .ref q_proper, .int v_properMany, .ref q_line, .ref q_order, .int v_orderMany, .ref q_then, .ref q_bestOrder, .ref q_lineThen, .ref q_undos, .ref q_was, .int v_undoMany, .int v_drawn, .ref q_kept, .ref q_isKept])), (q_text, .inl (cB, 80, .inl v_text))]) hD hS hA [0, 1] rfl
  refine va_calli (va_runV (As := [.int (48 : Int32), .int (10 : Int32)]) (rest := []) ⟨hx, hb, hml, hown, hts⟩ (c_X10_oneOf l dC dI cB cC cI cJ cZ cT h0 q_now q_text q_row q_read q_ranks q_distinct q_proper q_line q_order q_then q_bestOrder q_lineThen q_undos q_was q_kept q_isKept s.heap.size v_typed v_rowMany v_thrown v_length v_at v_wrong v_properMany v_orderMany v_undoMany v_drawn v_text (48 : Int32) (10 : Int32) o_80 hr_80) (cwV 2 hts gX10_twoDigits_X10_oneOf rfl rfl rfl (by decide +kernel) ⟨Nat.le_of_ble_eq_true rfl, Nat.le_of_ble_eq_true rfl⟩) ⟨blW, va_recv hK hP (ci := 8) (q0 := 0) rfl rfl, fun U hU hW => ⟨rfl, by rw [hU], by rw [hU]; exact hPc, va_K.moved hW.alike hK, hDc.weaken (fun _ _ _ _ => trivial)⟩⟩ rfl rfl hl.1 rfl (lv_room (Nat.le_of_ble_eq_true rfl)) dX10_twoDigits_5 ⟨Nat.le_of_ble_eq_true rfl, Nat.le_of_ble_eq_true rfl⟩) hS (fun q _ h => hFc q h) hFc (fun r_80 u_80 t_80 H locs ht hvm e_80 hB hz1 hk1 hS => ?_)
  obtain ⟨hP1, -, hD1⟩ := hB
  rw [ht] at hP1
  obtain ⟨hP, hD⟩ := va_join (wr := []) (w1 := [(h0, .inr (8, [.ref q_now, .ref q_text, .int v_typed, .ref q_row, .int v_rowMany, .int v_thrown, .int v_length, .int o_80.2.1, .int o_80.2.2, .ref q_read, .ref q_ranks, .ref q_distinct, .ref q_proper, .int v_properMany, .ref q_line, .ref q_order, .int v_orderMany, .ref q_then, .ref q_bestOrder, .ref q_lineThen, .ref q_undos, .ref q_was, .int v_undoMany, .int v_drawn, .ref q_kept, .ref q_isKept])), (q_text, .inl (cB, 80, .inl v_text))]) hP hD [0, 1] [] rfl rfl (by decide) (by decide) hk1 hFc hP1 hD1
  replace hP := hP.sub (ws' := [(h0, .inr (8, [.ref q_now, .ref q_text, .int v_typed, .ref q_row, .int v_rowMany, .int v_thrown, .int v_length, .int o_80.2.1, .int o_80.2.2, .ref q_read, .ref q_ranks, .ref q_distinct, .ref q_proper, .int v_properMany, .ref q_line, .ref q_order, .int v_orderMany, .ref q_then, .ref q_bestOrder, .ref q_lineThen, .ref q_undos, .ref q_was, .int v_undoMany, .int v_drawn, .ref q_kept, .ref q_isKept])), (q_text, .inl (cB, 80, .inl v_text))]) [0, 1] rfl
  replace hD := hD.sub (ws' := [(h0, .inr (8, [.ref q_now, .ref q_text, .int v_typed, .ref q_row, .int v_rowMany, .int v_thrown, .int v_length, .int o_80.2.1, .int o_80.2.2, .ref q_read, .ref q_ranks, .ref q_distinct, .ref q_proper, .int v_properMany, .ref q_line, .ref q_order, .int v_orderMany, .ref q_then, .ref q_bestOrder, .ref q_lineThen, .ref q_undos, .ref q_was, .int v_undoMany, .int v_drawn, .ref q_kept, .ref q_isKept])), (q_text, .inl (cB, 80, .inl v_text))]) [0, 1] (by decide) rfl
  subst e_80
  refine lv_istore_n (lv' := [(1, .int o_80.1), (0, .ref h0)]) hx hb dX10_twoDigits_8 rfl hl (by decide) rfl (fun ls hl => ?_)
  refine lv_bipush (v := 10) hx hb dX10_twoDigits_9 (by decide) ?_
  refine lv_iload_n hx hb dX10_twoDigits_11 rfl (lv_at hl 0 rfl) ?_
  refine lv_imul hx hb dX10_twoDigits_12 ?_
  refine lv_aload_n hx hb dX10_twoDigits_13 rfl (lv_at hl 1 rfl) ?_
  refine lv_bipush (v := 48) hx hb dX10_twoDigits_14 (by decide) ?_
  refine lv_bipush (v := 10) hx hb dX10_twoDigits_16 (by decide) ?_
  obtain ⟨o_82, hr_82, h⟩ := ob h
  have hPc := hP.sub (ws' := [(h0, .inr (8, [.ref q_now, .ref q_text, .int v_typed, .ref q_row, .int v_rowMany, .int v_thrown, .int v_length, .int o_80.2.1, .int o_80.2.2, .ref q_read, .ref q_ranks, .ref q_distinct, .ref q_proper, .int v_properMany, .ref q_line, .ref q_order, .int v_orderMany, .ref q_then, .ref q_bestOrder, .ref q_lineThen, .ref q_undos, .ref q_was, .int v_undoMany, .int v_drawn, .ref q_kept, .ref q_isKept])), (q_text, .inl (cB, 80, .inl v_text))]) [0, 1] rfl
  have hDc := hD.sub (ws' := [(h0, .inr (8, [.ref q_now, .ref q_text, .int v_typed, .ref q_row, .int v_rowMany, .int v_thrown, .int v_length, .int o_80.2.1, .int o_80.2.2, .ref q_read, .ref q_ranks, .ref q_distinct, .ref q_proper, .int v_properMany, .ref q_line, .ref q_order, .int v_orderMany, .ref q_then, .ref q_bestOrder, .ref q_lineThen, .ref q_undos, .ref q_was, .int v_undoMany, .int v_drawn, .ref q_kept, .ref q_isKept])), (q_text, .inl (cB, 80, .inl v_text))]) [0, 1] (by decide) rfl
  have hFc := va_free (wc := [(h0, .inr (8, [.ref q_now, .ref q_text, .int v_typed, .ref q_row, .int v_rowMany, .int v_thrown, .int v_length, .int o_80.2.1, .int o_80.2.2, .ref q_read, .ref q_ranks, .ref q_distinct, .ref q_proper, .int v_properMany, .ref q_line, .ref q_order, .int v_orderMany, .ref q_then, .ref q_bestOrder, .ref q_lineThen, .ref q_undos, .ref q_was, .int v_undoMany, .int v_drawn, .ref q_kept, .ref q_isKept])), (q_text, .inl (cB, 80, .inl v_text))]) hD hS hA [0, 1] rfl
  refine va_calli (va_runV (As := [.int (48 : Int32), .int (10 : Int32)]) (rest := [.int ((10 : Int32) * o_80.1)]) ⟨hx, hb, hml, hown, hts⟩ (c_X10_oneOf l dC dI cB cC cI cJ cZ cT h0 q_now q_text q_row q_read q_ranks q_distinct q_proper q_line q_order q_then q_bestOrder q_lineThen q_undos q_was q_kept q_isKept H.size v_typed v_rowMany v_thrown v_length o_80.2.1 o_80.2.2 v_properMany v_orderMany v_undoMany v_drawn v_text (48 : Int32) (10 : Int32) o_82 hr_82) (cwV 2 hts gX10_twoDigits_X10_oneOf rfl rfl rfl (by decide +kernel) ⟨Nat.le_of_ble_eq_true rfl, Nat.le_of_ble_eq_true rfl⟩) ⟨blW, va_recv hK hP (ci := 8) (q0 := 0) rfl rfl, fun U hU hW => ⟨rfl, by rw [hU], by rw [hU]; exact hPc, va_K.moved hW.alike hK, hDc.weaken (fun _ _ _ _ => trivial)⟩⟩ rfl rfl hl.1 rfl (lv_room (Nat.le_of_ble_eq_true rfl)) dX10_twoDigits_18 ⟨Nat.le_of_ble_eq_true rfl, Nat.le_of_ble_eq_true rfl⟩) hS (fun q _ h => hFc q h) hFc (fun r_82 u_82 t_82 H locs ht hvm e_82 hB hz1 hk1 hS => ?_)
  obtain ⟨hP1, -, hD1⟩ := hB
  rw [ht] at hP1
  obtain ⟨hP, hD⟩ := va_join (wr := []) (w1 := [(h0, .inr (8, [.ref q_now, .ref q_text, .int v_typed, .ref q_row, .int v_rowMany, .int v_thrown, .int v_length, .int o_82.2.1, .int o_82.2.2, .ref q_read, .ref q_ranks, .ref q_distinct, .ref q_proper, .int v_properMany, .ref q_line, .ref q_order, .int v_orderMany, .ref q_then, .ref q_bestOrder, .ref q_lineThen, .ref q_undos, .ref q_was, .int v_undoMany, .int v_drawn, .ref q_kept, .ref q_isKept])), (q_text, .inl (cB, 80, .inl v_text))]) hP hD [0, 1] [] rfl rfl (by decide) (by decide) hk1 hFc hP1 hD1
  replace hP := hP.sub (ws' := [(h0, .inr (8, [.ref q_now, .ref q_text, .int v_typed, .ref q_row, .int v_rowMany, .int v_thrown, .int v_length, .int o_82.2.1, .int o_82.2.2, .ref q_read, .ref q_ranks, .ref q_distinct, .ref q_proper, .int v_properMany, .ref q_line, .ref q_order, .int v_orderMany, .ref q_then, .ref q_bestOrder, .ref q_lineThen, .ref q_undos, .ref q_was, .int v_undoMany, .int v_drawn, .ref q_kept, .ref q_isKept])), (q_text, .inl (cB, 80, .inl v_text))]) [0, 1] rfl
  replace hD := hD.sub (ws' := [(h0, .inr (8, [.ref q_now, .ref q_text, .int v_typed, .ref q_row, .int v_rowMany, .int v_thrown, .int v_length, .int o_82.2.1, .int o_82.2.2, .ref q_read, .ref q_ranks, .ref q_distinct, .ref q_proper, .int v_properMany, .ref q_line, .ref q_order, .int v_orderMany, .ref q_then, .ref q_bestOrder, .ref q_lineThen, .ref q_undos, .ref q_was, .int v_undoMany, .int v_drawn, .ref q_kept, .ref q_isKept])), (q_text, .inl (cB, 80, .inl v_text))]) [0, 1] (by decide) rfl
  subst e_82
  refine lv_iadd hx hb dX10_twoDigits_21 ?_
  rw [hQQ]
  have ho := Option.some.inj h
  subst ho
  exact W.iret hx hb hr (fun t ht hW => ⟨⟨_, (), rfl, rfl, by rw [ht]; exact hP, va_K.moved hW.alike hK, hD⟩, hS.F ht⟩) hS.2.2 dX10_twoDigits_22
def f_X10_wasRight (v_length : Int32) (v_at : Int32) (v_wrong : Int32) : Option (Bool × Int32) :=
  (((if v_length ≤ v_at then (some v_wrong) else ((f_X10_fault v_wrong v_at).bind (fun o_89 => (some o_89))))).bind (fun v_84 => ((f_X10_fine v_84).bind (fun o_91 => (some (o_91, v_84))))))
abbrev rm_X10_wasRight : Room := { frames := 2, cells := 0, slots := 0, locals := 41 }
set_option maxHeartbeats 4000000 in
set_option maxRecDepth 100000 in
theorem c_X10_wasRight (l : Launch) (dC : Nat → ClassId) (dI : Nat → Nat → Nat) (cB cC cI cJ cZ cT : ClassId) (h0 q_now q_text q_row q_read q_ranks q_distinct q_proper q_line q_order q_then q_bestOrder q_lineThen q_undos q_was q_kept q_isKept : Nat) (sz : Nat) (v_typed : Int32) (v_rowMany : Int32) (v_thrown : Int32) (v_length : Int32) (v_at : Int32) (v_wrong : Int32) (v_properMany : Int32) (v_orderMany : Int32) (v_undoMany : Int32) (v_drawn : Int32) (o : (Bool × Int32)) (hf : f_X10_wasRight v_length v_at v_wrong = some o) : Met l yX10_wasRight wsX10_wasRight rm_X10_wasRight (va_Pc [.ref h0] (fun U => U.heap.size = sz ∧ va_P (dC, dI) vwCl [(h0, .inr (8, [.ref q_now, .ref q_text, .int v_typed, .ref q_row, .int v_rowMany, .int v_thrown, .int v_length, .int v_at, .int v_wrong, .ref q_read, .ref q_ranks, .ref q_distinct, .ref q_proper, .int v_properMany, .ref q_line, .ref q_order, .int v_orderMany, .ref q_then, .ref q_bestOrder, .ref q_lineThen, .ref q_undos, .ref q_was, .int v_undoMany, .int v_drawn, .ref q_kept, .ref q_isKept]))] U.heap ∧ va_K (dC, dI) vwCl (tyA cB cC cI cJ cZ cT) U ∧ va_D (fun _ => True) [(h0, .inr (8, [.ref q_now, .ref q_text, .int v_typed, .ref q_row, .int v_rowMany, .int v_thrown, .int v_length, .int v_at, .int v_wrong, .ref q_read, .ref q_ranks, .ref q_distinct, .ref q_proper, .int v_properMany, .ref q_line, .ref q_order, .int v_orderMany, .ref q_then, .ref q_bestOrder, .ref q_lineThen, .ref q_undos, .ref q_was, .int v_undoMany, .int v_drawn, .ref q_kept, .ref q_isKept]))])) (va_Qi (fun (r : Int32) (_ : Unit) => b2i o.1 = r) (fun _ t => va_P (dC, dI) vwCl [(h0, .inr (8, [.ref q_now, .ref q_text, .int v_typed, .ref q_row, .int v_rowMany, .int v_thrown, .int v_length, .int v_at, .int o.2, .ref q_read, .ref q_ranks, .ref q_distinct, .ref q_proper, .int v_properMany, .ref q_line, .ref q_order, .int v_orderMany, .ref q_then, .ref q_bestOrder, .ref q_lineThen, .ref q_undos, .ref q_was, .int v_undoMany, .int v_drawn, .ref q_kept, .ref q_isKept]))] t.heap ∧ va_K (dC, dI) vwCl (tyA cB cC cI cJ cZ cT) t ∧ va_D (va_A [(h0, .inr (8, [.ref q_now, .ref q_text, .int v_typed, .ref q_row, .int v_rowMany, .int v_thrown, .int v_length, .int v_at, .int v_wrong, .ref q_read, .ref q_ranks, .ref q_distinct, .ref q_proper, .int v_properMany, .ref q_line, .ref q_order, .int v_orderMany, .ref q_then, .ref q_bestOrder, .ref q_lineThen, .ref q_undos, .ref q_was, .int v_undoMany, .int v_drawn, .ref q_kept, .ref q_isKept]))] sz) [(h0, .inr (8, [.ref q_now, .ref q_text, .int v_typed, .ref q_row, .int v_rowMany, .int v_thrown, .int v_length, .int v_at, .int o.2, .ref q_read, .ref q_ranks, .ref q_distinct, .ref q_proper, .int v_properMany, .ref q_line, .ref q_order, .int v_orderMany, .ref q_then, .ref q_bestOrder, .ref q_lineThen, .ref q_undos, .ref q_was, .int v_undoMany, .int v_drawn, .ref q_kept, .ref q_isKept]))]) (va_A [(h0, .inr (8, [.ref q_now, .ref q_text, .int v_typed, .ref q_row, .int v_rowMany, .int v_thrown, .int v_length, .int v_at, .int v_wrong, .ref q_read, .ref q_ranks, .ref q_distinct, .ref q_proper, .int v_properMany, .ref q_line, .ref q_order, .int v_orderMany, .ref q_then, .ref q_bestOrder, .ref q_lineThen, .ref q_undos, .ref q_was, .int v_undoMany, .int v_drawn, .ref q_kept, .ref q_isKept]))] sz)) 0 0 (va_A [(h0, .inr (8, [.ref q_now, .ref q_text, .int v_typed, .ref q_row, .int v_rowMany, .int v_thrown, .int v_length, .int v_at, .int v_wrong, .ref q_read, .ref q_ranks, .ref q_distinct, .ref q_proper, .int v_properMany, .ref q_line, .ref q_order, .int v_orderMany, .ref q_then, .ref q_bestOrder, .ref q_lineThen, .ref q_undos, .ref q_was, .int v_undoMany, .int v_drawn, .ref q_kept, .ref q_isKept]))] sz) := by
  refine Met.ofW (cc := cX10_wasRight) (maxL := 1) (ret := (some .boolean)) (by decide) rfl ?_
  intro p e s m args below meth c s₁ B hml hv
  obtain ⟨hav, hsz, hP, hK, hD0⟩ := hv
  have hx := B.exec
  have hb := B.bytes
  have hr := B.returns
  have hts := atoms_spec (ws := wsX10_wasRight) B.pre
  have hown : s.vm.findClass RX10 = some m.cls := findClass_of_methodNamed B.named
  have hlocks := B.notSynchronized
  subst hsz
  have hD := hD0.self (sz := s.heap.size)
  generalize hAe : va_A [(h0, .inr (8, [.ref q_now, .ref q_text, .int v_typed, .ref q_row, .int v_rowMany, .int v_thrown, .int v_length, .int v_at, .int v_wrong, .ref q_read, .ref q_ranks, .ref q_distinct, .ref q_proper, .int v_properMany, .ref q_line, .ref q_order, .int v_orderMany, .ref q_then, .ref q_bestOrder, .ref q_lineThen, .ref q_undos, .ref q_was, .int v_undoMany, .int v_drawn, .ref q_kept, .ref q_isKept]))] s.heap.size = A at hD ⊢
  have hA : ∀ q : Nat, s.heap.size ≤ q → A q := fun q h => by rw [← hAe]; exact Or.inr h
  have hS : va_S A s.heap s.heap [] := va_S.rf
  refine wstart (rm := rm_X10_wasRight) hav (Nat.le_of_ble_eq_true rfl) (fun QQ ls hQQ hl => ?_)
  have hl : lv_has ls 1 [(0, .ref h0)] := hl
  have hi_X10 : ∀ w ∈ u_ws RX10 TX10 26, w ∈ wsX10_wasRight := by decide +kernel
  have h := hf
  unfold f_X10_wasRight at h
  refine lv_aload_n hx hb dX10_wasRight_0 rfl (lv_at hl 0 rfl) ?_
  refine va_get (D := (dC, dI)) (ci := 8) (v := .int v_at) (C := RX10) (T := TX10) (N := 26) hx hb hts hi_X10 hown hK hP 0 rfl rfl 7 (by decide) (hts _ (List.mem_of_getElem? (i := 1) rfl)) (fun _ h9 => h9) rfl dX10_wasRight_1 ?_
  refine lv_aload_n hx hb dX10_wasRight_4 rfl (lv_at hl 0 rfl) ?_
  refine va_get (D := (dC, dI)) (ci := 8) (v := .int v_length) (C := RX10) (T := TX10) (N := 26) hx hb hts hi_X10 hown hK hP 0 rfl rfl 6 (by decide) (hts _ (List.mem_of_getElem? (i := 2) rfl)) (fun _ h9 => h9) rfl dX10_wasRight_5 ?_
  obtain ⟨v_84, hv_84, h⟩ := ob h
  have J_84 : ∀ (H : Heap) (locs : List Loc) (ls : Array Slot), va_P (dC, dI) vwCl [(h0, .inr (8, [.ref q_now, .ref q_text, .int v_typed, .ref q_row, .int v_rowMany, .int v_thrown, .int v_length, .int v_at, .int v_84, .ref q_read, .ref q_ranks, .ref q_distinct, .ref q_proper, .int v_properMany, .ref q_line, .ref q_order, .int v_orderMany, .ref q_then, .ref q_bestOrder, .ref q_lineThen, .ref q_undos, .ref q_was, .int v_undoMany, .int v_drawn, .ref q_kept, .ref q_isKept]))] H → va_D A [(h0, .inr (8, [.ref q_now, .ref q_text, .int v_typed, .ref q_row, .int v_rowMany, .int v_thrown, .int v_length, .int v_at, .int v_84, .ref q_read, .ref q_ranks, .ref q_distinct, .ref q_proper, .int v_properMany, .ref q_line, .ref q_order, .int v_orderMany, .ref q_then, .ref q_bestOrder, .ref q_lineThen, .ref q_undos, .ref q_was, .int v_undoMany, .int v_drawn, .ref q_kept, .ref q_isKept]))] → va_S A s.heap H locs → lv_has ls 1 [(0, .ref h0)] → W p l e rm_X10_wasRight s m args below meth c H locs 0 0 QQ (F0 m 19 ls []) := by
    intro H locs ls hP hD hS hl
    refine lv_aload_n hx hb dX10_wasRight_19 rfl (lv_at hl 0 rfl) ?_
    obtain ⟨o_91, hr_91, h⟩ := ob h
    refine vp_callSi (va_Run.run (va_runV (As := []) (rest := []) ⟨hx, hb, hml, hown, hts⟩ (c_X10_fine l dC dI cB cC cI cJ cZ cT h0 q_now q_text q_row q_read q_ranks q_distinct q_proper q_line q_order q_then q_bestOrder q_lineThen q_undos q_was q_kept q_isKept v_typed v_rowMany v_thrown v_length v_at v_84 v_properMany v_orderMany v_undoMany v_drawn o_91 hr_91) (cwV 0 hts gX10_wasRight_X10_fine rfl rfl rfl (by decide +kernel) ⟨Nat.le_of_ble_eq_true rfl, Nat.le_of_ble_eq_true rfl⟩) ⟨blR, va_recv hK hP (ci := 8) (q0 := 0) rfl rfl, fun U hU hW => ⟨rfl, by rw [hU]; exact hP.sub [0] rfl, va_K.moved hW.alike hK⟩⟩ rfl rfl hl.1 rfl (lv_room (Nat.le_of_ble_eq_true rfl)) dX10_wasRight_20 ⟨Nat.le_of_ble_eq_true rfl, Nat.le_of_ble_eq_true rfl⟩)) (fun r_91 e_91 => ?_)
    subst e_91
    rw [hQQ]
    have ho := Option.some.inj h
    subst ho
    exact W.zret hx hb hr (nzb _) (fun t ht hW => ⟨⟨_, (), rfl, rfl, by rw [ht]; exact hP, va_K.moved hW.alike hK, hD⟩, hS.F ht⟩) hS.2.2 dX10_wasRight_23
  replace h := hv_84
  refine lv_icmp_ge (tgt := 19) hx hb dX10_wasRight_8 (by decide) (fun c_88 => ?_) (fun c_88 => ?_)
  · replace h := op c_88 h
    have ho := Option.some.inj h
    subst ho
    exact J_84 s.heap _ ls hP hD hS (lv_sub hl [0] rfl)
  · replace h := on c_88 h
    refine lv_aload_n hx hb dX10_wasRight_11 rfl (lv_at hl 0 rfl) ?_
    refine lv_aload_n hx hb dX10_wasRight_12 rfl (lv_at hl 0 rfl) ?_
    refine va_get (D := (dC, dI)) (ci := 8) (v := .int v_at) (C := RX10) (T := TX10) (N := 26) hx hb hts hi_X10 hown hK hP 0 rfl rfl 7 (by decide) (hts _ (List.mem_of_getElem? (i := 1) rfl)) (fun _ h9 => h9) rfl dX10_wasRight_13 ?_
    obtain ⟨o_89, hr_89, h⟩ := ob h
    have hPc := hP.sub (ws' := [(h0, .inr (8, [.ref q_now, .ref q_text, .int v_typed, .ref q_row, .int v_rowMany, .int v_thrown, .int v_length, .int v_at, .int v_wrong, .ref q_read, .ref q_ranks, .ref q_distinct, .ref q_proper, .int v_properMany, .ref q_line, .ref q_order, .int v_orderMany, .ref q_then, .ref q_bestOrder, .ref q_lineThen, .ref q_undos, .ref q_was, .int v_undoMany, .int v_drawn, .ref q_kept, .ref q_isKept]))]) [0] rfl
    have hDc := hD.sub (ws' := [(h0, .inr (8, [.ref q_now, .ref q_text, .int v_typed, .ref q_row, .int v_rowMany, .int v_thrown, .int v_length, .int v_at, .int v_wrong, .ref q_read, .ref q_ranks, .ref q_distinct, .ref q_proper, .int v_properMany, .ref q_line, .ref q_order, .int v_orderMany, .ref q_then, .ref q_bestOrder, .ref q_lineThen, .ref q_undos, .ref q_was, .int v_undoMany, .int v_drawn, .ref q_kept, .ref q_isKept]))]) [0] (by decide) rfl
    have hFc := va_free (wc := [(h0, .inr (8, [.ref q_now, .ref q_text, .int v_typed, .ref q_row, .int v_rowMany, .int v_thrown, .int v_length, .int v_at, .int v_wrong, .ref q_read, .ref q_ranks, .ref q_distinct, .ref q_proper, .int v_properMany, .ref q_line, .ref q_order, .int v_orderMany, .ref q_then, .ref q_bestOrder, .ref q_lineThen, .ref q_undos, .ref q_was, .int v_undoMany, .int v_drawn, .ref q_kept, .ref q_isKept]))]) hD hS hA [0] rfl
    refine va_callv (va_runV (As := [.int v_at]) (rest := []) ⟨hx, hb, hml, hown, hts⟩ (c_X10_fault l dC dI cB cC cI cJ cZ cT h0 q_now q_text q_row q_read q_ranks q_distinct q_proper q_line q_order q_then q_bestOrder q_lineThen q_undos q_was q_kept q_isKept s.heap.size v_typed v_rowMany v_thrown v_length v_at v_wrong v_properMany v_orderMany v_undoMany v_drawn v_at o_89 hr_89) (cwV 1 hts gX10_wasRight_X10_fault rfl rfl rfl (by decide +kernel) ⟨Nat.le_of_ble_eq_true rfl, Nat.le_of_ble_eq_true rfl⟩) ⟨blW, va_recv hK hP (ci := 8) (q0 := 0) rfl rfl, fun U hU hW => ⟨rfl, by rw [hU], by rw [hU]; exact hPc, va_K.moved hW.alike hK, hDc.weaken (fun _ _ _ _ => trivial)⟩⟩ rfl rfl hl.1 rfl (lv_room (Nat.le_of_ble_eq_true rfl)) dX10_wasRight_16 ⟨Nat.le_of_ble_eq_true rfl, Nat.le_of_ble_eq_true rfl⟩) hS (fun q _ h => hFc q h) hFc (fun u_89 t_89 H locs ht hvm e_89 hB hz1 hk1 hS => ?_)
    obtain ⟨hP1, -, hD1⟩ := hB
    rw [ht] at hP1
    obtain ⟨hP, hD⟩ := va_join (wr := []) (w1 := [(h0, .inr (8, [.ref q_now, .ref q_text, .int v_typed, .ref q_row, .int v_rowMany, .int v_thrown, .int v_length, .int v_at, .int o_89, .ref q_read, .ref q_ranks, .ref q_distinct, .ref q_proper, .int v_properMany, .ref q_line, .ref q_order, .int v_orderMany, .ref q_then, .ref q_bestOrder, .ref q_lineThen, .ref q_undos, .ref q_was, .int v_undoMany, .int v_drawn, .ref q_kept, .ref q_isKept]))]) hP hD [0] [] rfl rfl (by decide) (by decide) hk1 hFc hP1 hD1
    replace hP := hP.sub (ws' := [(h0, .inr (8, [.ref q_now, .ref q_text, .int v_typed, .ref q_row, .int v_rowMany, .int v_thrown, .int v_length, .int v_at, .int o_89, .ref q_read, .ref q_ranks, .ref q_distinct, .ref q_proper, .int v_properMany, .ref q_line, .ref q_order, .int v_orderMany, .ref q_then, .ref q_bestOrder, .ref q_lineThen, .ref q_undos, .ref q_was, .int v_undoMany, .int v_drawn, .ref q_kept, .ref q_isKept]))]) [0] rfl
    replace hD := hD.sub (ws' := [(h0, .inr (8, [.ref q_now, .ref q_text, .int v_typed, .ref q_row, .int v_rowMany, .int v_thrown, .int v_length, .int v_at, .int o_89, .ref q_read, .ref q_ranks, .ref q_distinct, .ref q_proper, .int v_properMany, .ref q_line, .ref q_order, .int v_orderMany, .ref q_then, .ref q_bestOrder, .ref q_lineThen, .ref q_undos, .ref q_was, .int v_undoMany, .int v_drawn, .ref q_kept, .ref q_isKept]))]) [0] (by decide) rfl
    have ho := Option.some.inj h
    subst ho
    exact J_84 H _ ls hP hD hS (lv_sub hl [0] rfl)
def L_X10_layTable_2  : Nat → Int32 → (Nat → Int64) → Option (Nat → Int64)
  | 0, _, _ => none
  | n+1, x3_2, v_now_2 => (if (120 : Int32) ≤ x3_2 then (some v_now_2) else (if x3_2 < 0 ∨ 120 ≤ (x3_2).toNatClampNeg then none else (L_X10_layTable_2 n (x3_2 + 1) (vp_updL v_now_2 (x3_2).toNatClampNeg (0 : Int64)))))
def L_X10_layTable_62 (v_read : (Nat → Int32)) (x1 : Int32) (x3_39 : Int32) : Nat → Int32 → (Nat → Int64) → Option (Nat → Int64)
  | 0, _, _ => none
  | n+1, x4_62, v_now_62 => (if x1 ≤ x4_62 then (some v_now_62) else ((f_X10_cellAt x3_39 x4_62).bind (fun o_102 => (if x3_39 < 0 ∨ 480 ≤ (x3_39).toNatClampNeg then none else ((f_X10_in (v_read (x3_39).toNatClampNeg) (8 : Int32) (10 : Int32)).bind (fun o_105 => (if (b2i o_105) = 0 then (if o_102 < 0 ∨ 120 ≤ (o_102).toNatClampNeg then none else (L_X10_layTable_62 v_read x1 x3_39 n (x4_62 + 1) (vp_updL v_now_62 (o_102).toNatClampNeg (0 : Int64)))) else (if o_102 < 0 ∨ 120 ≤ (o_102).toNatClampNeg then none else (L_X10_layTable_62 v_read x1 x3_39 n (x4_62 + 1) (vp_updL v_now_62 (o_102).toNatClampNeg (-9223372036854775808 : Int64)))))))))))
def L_X10_layTable_39 (v_read : (Nat → Int32)) (x1 : Int32) (x2 : Int32) : Nat → Int32 → (Nat → Int64) → Option (Nat → Int64)
  | 0, _, _ => none
  | n+1, x3_39, v_now_39 => (if x2 ≤ x3_39 then (some v_now_39) else (if x3_39 < 0 ∨ 480 ≤ (x3_39).toNatClampNeg then none else (if ((2 : Int32) + x3_39) < 0 ∨ 120 ≤ (((2 : Int32) + x3_39)).toNatClampNeg then none else ((L_X10_layTable_62 v_read x1 x3_39 fu (0 : Int32) (vp_updL v_now_39 (((2 : Int32) + x3_39)).toNatClampNeg (v_read (x3_39).toNatClampNeg).toInt64)).bind (fun w_110 => (L_X10_layTable_39 v_read x1 x2 n (x3_39 + 1) w_110))))))
def L_X10_layTable_116 (x1 : Int32) : Nat → Int32 → (Nat → Int64) → Option (Nat → Int64)
  | 0, _, _ => none
  | n+1, x3_116, v_now_116 => (if x1 ≤ x3_116 then (some v_now_116) else (if ((8 : Int32) + x3_116) < 0 ∨ 120 ≤ (((8 : Int32) + x3_116)).toNatClampNeg then none else (L_X10_layTable_116 x1 n (x3_116 + 1) (vp_updL v_now_116 (((8 : Int32) + x3_116)).toNatClampNeg (x3_116).toInt64))))
def f_X10_layTable (v_now : Nat → Int64) (v_read : Nat → Int32) (x1 : Int32) (x2 : Int32) : Option (Nat → Int64) :=
  ((L_X10_layTable_2 fu (0 : Int32) v_now).bind (fun w_95 => ((L_X10_layTable_39 v_read x1 x2 fu (0 : Int32) (vp_updL (vp_updL w_95 ((0 : Int32)).toNatClampNeg (x1).toInt64) ((1 : Int32)).toNatClampNeg (x2).toInt64)).bind (fun w_111 => ((L_X10_layTable_116 x1 fu (0 : Int32) w_111).bind (fun w_114 => (some w_114)))))))
abbrev rm_X10_layTable : Room := { frames := 1, cells := 0, slots := 0, locals := 22 }
set_option maxHeartbeats 4000000 in
set_option maxRecDepth 100000 in
theorem c_X10_layTable (l : Launch) (dC : Nat → ClassId) (dI : Nat → Nat → Nat) (cB cC cI cJ cZ cT : ClassId) (h0 q_now q_text q_row q_read q_ranks q_distinct q_proper q_line q_order q_then q_bestOrder q_lineThen q_undos q_was q_kept q_isKept : Nat) (sz : Nat) (v_typed : Int32) (v_rowMany : Int32) (v_thrown : Int32) (v_length : Int32) (v_at : Int32) (v_wrong : Int32) (v_properMany : Int32) (v_orderMany : Int32) (v_undoMany : Int32) (v_drawn : Int32) (v_now : Nat → Int64) (v_read : Nat → Int32) (x1 : Int32) (x2 : Int32) (o : (Nat → Int64)) (hf : f_X10_layTable v_now v_read x1 x2 = some o) : Met l yX10_layTable wsX10_layTable rm_X10_layTable (va_Pc [.ref h0, .int x1, .int x2] (fun U => U.heap.size = sz ∧ va_P (dC, dI) vwCl [(h0, .inr (8, [.ref q_now, .ref q_text, .int v_typed, .ref q_row, .int v_rowMany, .int v_thrown, .int v_length, .int v_at, .int v_wrong, .ref q_read, .ref q_ranks, .ref q_distinct, .ref q_proper, .int v_properMany, .ref q_line, .ref q_order, .int v_orderMany, .ref q_then, .ref q_bestOrder, .ref q_lineThen, .ref q_undos, .ref q_was, .int v_undoMany, .int v_drawn, .ref q_kept, .ref q_isKept])), (q_now, .inl (cJ, 120, .inr (.inl v_now))), (q_read, .inl (cI, 480, .inl v_read))] U.heap ∧ va_K (dC, dI) vwCl (tyA cB cC cI cJ cZ cT) U ∧ va_D (fun _ => True) [(h0, .inr (8, [.ref q_now, .ref q_text, .int v_typed, .ref q_row, .int v_rowMany, .int v_thrown, .int v_length, .int v_at, .int v_wrong, .ref q_read, .ref q_ranks, .ref q_distinct, .ref q_proper, .int v_properMany, .ref q_line, .ref q_order, .int v_orderMany, .ref q_then, .ref q_bestOrder, .ref q_lineThen, .ref q_undos, .ref q_was, .int v_undoMany, .int v_drawn, .ref q_kept, .ref q_isKept])), (q_now, .inl (cJ, 120, .inr (.inl v_now))), (q_read, .inl (cI, 480, .inl v_read))])) (va_Qv (fun _ : Unit => True) (fun _ t => va_P (dC, dI) vwCl [(h0, .inr (8, [.ref q_now, .ref q_text, .int v_typed, .ref q_row, .int v_rowMany, .int v_thrown, .int v_length, .int v_at, .int v_wrong, .ref q_read, .ref q_ranks, .ref q_distinct, .ref q_proper, .int v_properMany, .ref q_line, .ref q_order, .int v_orderMany, .ref q_then, .ref q_bestOrder, .ref q_lineThen, .ref q_undos, .ref q_was, .int v_undoMany, .int v_drawn, .ref q_kept, .ref q_isKept])), (q_now, .inl (cJ, 120, .inr (.inl o))), (q_read, .inl (cI, 480, .inl v_read))] t.heap ∧ va_K (dC, dI) vwCl (tyA cB cC cI cJ cZ cT) t ∧ va_D (va_A [(h0, .inr (8, [.ref q_now, .ref q_text, .int v_typed, .ref q_row, .int v_rowMany, .int v_thrown, .int v_length, .int v_at, .int v_wrong, .ref q_read, .ref q_ranks, .ref q_distinct, .ref q_proper, .int v_properMany, .ref q_line, .ref q_order, .int v_orderMany, .ref q_then, .ref q_bestOrder, .ref q_lineThen, .ref q_undos, .ref q_was, .int v_undoMany, .int v_drawn, .ref q_kept, .ref q_isKept])), (q_now, .inl (cJ, 120, .inr (.inl v_now))), (q_read, .inl (cI, 480, .inl v_read))] sz) [(h0, .inr (8, [.ref q_now, .ref q_text, .int v_typed, .ref q_row, .int v_rowMany, .int v_thrown, .int v_length, .int v_at, .int v_wrong, .ref q_read, .ref q_ranks, .ref q_distinct, .ref q_proper, .int v_properMany, .ref q_line, .ref q_order, .int v_orderMany, .ref q_then, .ref q_bestOrder, .ref q_lineThen, .ref q_undos, .ref q_was, .int v_undoMany, .int v_drawn, .ref q_kept, .ref q_isKept])), (q_now, .inl (cJ, 120, .inr (.inl o))), (q_read, .inl (cI, 480, .inl v_read))]) (va_A [(h0, .inr (8, [.ref q_now, .ref q_text, .int v_typed, .ref q_row, .int v_rowMany, .int v_thrown, .int v_length, .int v_at, .int v_wrong, .ref q_read, .ref q_ranks, .ref q_distinct, .ref q_proper, .int v_properMany, .ref q_line, .ref q_order, .int v_orderMany, .ref q_then, .ref q_bestOrder, .ref q_lineThen, .ref q_undos, .ref q_was, .int v_undoMany, .int v_drawn, .ref q_kept, .ref q_isKept])), (q_now, .inl (cJ, 120, .inr (.inl v_now))), (q_read, .inl (cI, 480, .inl v_read))] sz)) 0 0 (va_A [(h0, .inr (8, [.ref q_now, .ref q_text, .int v_typed, .ref q_row, .int v_rowMany, .int v_thrown, .int v_length, .int v_at, .int v_wrong, .ref q_read, .ref q_ranks, .ref q_distinct, .ref q_proper, .int v_properMany, .ref q_line, .ref q_order, .int v_orderMany, .ref q_then, .ref q_bestOrder, .ref q_lineThen, .ref q_undos, .ref q_was, .int v_undoMany, .int v_drawn, .ref q_kept, .ref q_isKept])), (q_now, .inl (cJ, 120, .inr (.inl v_now))), (q_read, .inl (cI, 480, .inl v_read))] sz) := by
  refine Met.ofW (cc := cX10_layTable) (maxL := 5) (ret := none) (by decide) rfl ?_
  intro p e s m args below meth c s₁ B hml hv
  obtain ⟨hav, hsz, hP, hK, hD0⟩ := hv
  have hx := B.exec
  have hb := B.bytes
  have hr := B.returns
  have hts := atoms_spec (ws := wsX10_layTable) B.pre
  have hown : s.vm.findClass RX10 = some m.cls := findClass_of_methodNamed B.named
  have hlocks := B.notSynchronized
  subst hsz
  have hD := hD0.self (sz := s.heap.size)
  generalize hAe : va_A [(h0, .inr (8, [.ref q_now, .ref q_text, .int v_typed, .ref q_row, .int v_rowMany, .int v_thrown, .int v_length, .int v_at, .int v_wrong, .ref q_read, .ref q_ranks, .ref q_distinct, .ref q_proper, .int v_properMany, .ref q_line, .ref q_order, .int v_orderMany, .ref q_then, .ref q_bestOrder, .ref q_lineThen, .ref q_undos, .ref q_was, .int v_undoMany, .int v_drawn, .ref q_kept, .ref q_isKept])), (q_now, .inl (cJ, 120, .inr (.inl v_now))), (q_read, .inl (cI, 480, .inl v_read))] s.heap.size = A at hD ⊢
  have hA : ∀ q : Nat, s.heap.size ≤ q → A q := fun q h => by rw [← hAe]; exact Or.inr h
  have hS : va_S A s.heap s.heap [] := va_S.rf
  refine wstart (rm := rm_X10_layTable) hav (Nat.le_of_ble_eq_true rfl) (fun QQ ls hQQ hl => ?_)
  have hl : lv_has ls 5 [(0, .ref h0), (1, .int x1), (2, .int x2)] := hl
  have hi_X10 : ∀ w ∈ u_ws RX10 TX10 26, w ∈ wsX10_layTable := by decide +kernel
  have h := hf
  unfold f_X10_layTable at h
  refine lv_iconst (v := 0) hx hb dX10_layTable_0 (by decide) ?_
  refine lv_istore_n (lv' := [(3, .int (0 : Int32)), (0, .ref h0), (1, .int x1), (2, .int x2)]) hx hb dX10_layTable_1 rfl hl (by decide) rfl (fun ls hl => ?_)
  have LP_95 : ∀ (n : Nat) (x3_2 : Int32) (v_now_2 : (Nat → Int64)) (w : (Nat → Int64)) (H : Heap) (locs : List Loc) (ls : Array Slot), L_X10_layTable_2 n x3_2 v_now_2 = some w → va_P (dC, dI) vwCl [(h0, .inr (8, [.ref q_now, .ref q_text, .int v_typed, .ref q_row, .int v_rowMany, .int v_thrown, .int v_length, .int v_at, .int v_wrong, .ref q_read, .ref q_ranks, .ref q_distinct, .ref q_proper, .int v_properMany, .ref q_line, .ref q_order, .int v_orderMany, .ref q_then, .ref q_bestOrder, .ref q_lineThen, .ref q_undos, .ref q_was, .int v_undoMany, .int v_drawn, .ref q_kept, .ref q_isKept])), (q_now, .inl (cJ, 120, .inr (.inl v_now_2))), (q_read, .inl (cI, 480, .inl v_read))] H → va_D A [(h0, .inr (8, [.ref q_now, .ref q_text, .int v_typed, .ref q_row, .int v_rowMany, .int v_thrown, .int v_length, .int v_at, .int v_wrong, .ref q_read, .ref q_ranks, .ref q_distinct, .ref q_proper, .int v_properMany, .ref q_line, .ref q_order, .int v_orderMany, .ref q_then, .ref q_bestOrder, .ref q_lineThen, .ref q_undos, .ref q_was, .int v_undoMany, .int v_drawn, .ref q_kept, .ref q_isKept])), (q_now, .inl (cJ, 120, .inr (.inl v_now_2))), (q_read, .inl (cI, 480, .inl v_read))] → va_S A s.heap H locs → lv_has ls 5 [(0, .ref h0), (1, .int x1), (2, .int x2), (3, .int x3_2)] → (∀ (H : Heap) (locs : List Loc) (ls : Array Slot), va_P (dC, dI) vwCl [(h0, .inr (8, [.ref q_now, .ref q_text, .int v_typed, .ref q_row, .int v_rowMany, .int v_thrown, .int v_length, .int v_at, .int v_wrong, .ref q_read, .ref q_ranks, .ref q_distinct, .ref q_proper, .int v_properMany, .ref q_line, .ref q_order, .int v_orderMany, .ref q_then, .ref q_bestOrder, .ref q_lineThen, .ref q_undos, .ref q_was, .int v_undoMany, .int v_drawn, .ref q_kept, .ref q_isKept])), (q_now, .inl (cJ, 120, .inr (.inl w))), (q_read, .inl (cI, 480, .inl v_read))] H → va_D A [(h0, .inr (8, [.ref q_now, .ref q_text, .int v_typed, .ref q_row, .int v_rowMany, .int v_thrown, .int v_length, .int v_at, .int v_wrong, .ref q_read, .ref q_ranks, .ref q_distinct, .ref q_proper, .int v_properMany, .ref q_line, .ref q_order, .int v_orderMany, .ref q_then, .ref q_bestOrder, .ref q_lineThen, .ref q_undos, .ref q_was, .int v_undoMany, .int v_drawn, .ref q_kept, .ref q_isKept])), (q_now, .inl (cJ, 120, .inr (.inl w))), (q_read, .inl (cI, 480, .inl v_read))] → va_S A s.heap H locs → lv_has ls 5 [(0, .ref h0), (1, .int x1), (2, .int x2)] → W p l e rm_X10_layTable s m args below meth c H locs 0 0 QQ (F0 m 21 ls [])) → W p l e rm_X10_layTable s m args below meth c H locs 0 0 QQ (F0 m 2 ls []) := by
    intro n
    induction n with
    | zero => intro x3_2 v_now_2 w H locs ls h; exact absurd (show none = some w from h) nofun
    | succ n ih =>
      intro x3_2 v_now_2 w H locs ls h hP hD hS hl K
      rw [L_X10_layTable_2] at h
      refine lv_iload_n hx hb dX10_layTable_2 rfl (lv_at hl 3 rfl) ?_
      refine lv_bipush (v := 120) hx hb dX10_layTable_3 (by decide) ?_
      refine lv_icmp_ge (tgt := 21) hx hb dX10_layTable_5 (by decide) (fun c_93 => ?_) (fun c_93 => ?_)
      · replace h := op c_93 h
        have ho := Option.some.inj h
        subst ho
        exact K H _ ls hP hD hS (lv_sub hl [0, 1, 2] rfl)
      · replace h := on c_93 h
        refine lv_aload_n hx hb dX10_layTable_8 rfl (lv_at hl 0 rfl) ?_
        refine va_get (D := (dC, dI)) (ci := 8) (v := .ref q_now) (C := RX10) (T := TX10) (N := 26) hx hb hts hi_X10 hown hK hP 0 rfl rfl 0 (by decide) (hts _ (List.mem_of_getElem? (i := 1) rfl)) (fun _ h9 => h9) rfl dX10_layTable_9 ?_
        refine lv_iload_n hx hb dX10_layTable_12 rfl (lv_at hl 3 rfl) ?_
        refine lv_lconst (v := 0) hx hb dX10_layTable_13 (by decide) ?_
        obtain ⟨hi_94, h⟩ := og h
        refine va_last hx hb hK hP hD hS 1 1 rfl rfl hi_94 dX10_layTable_14 (fun H locs hP hD hS => ?_)
        replace hP : va_P (dC, dI) vwCl [(h0, .inr (8, [.ref q_now, .ref q_text, .int v_typed, .ref q_row, .int v_rowMany, .int v_thrown, .int v_length, .int v_at, .int v_wrong, .ref q_read, .ref q_ranks, .ref q_distinct, .ref q_proper, .int v_properMany, .ref q_line, .ref q_order, .int v_orderMany, .ref q_then, .ref q_bestOrder, .ref q_lineThen, .ref q_undos, .ref q_was, .int v_undoMany, .int v_drawn, .ref q_kept, .ref q_isKept])), (q_now, .inl (cJ, 120, .inr (.inl (vp_updL v_now_2 (x3_2).toNatClampNeg (0 : Int64))))), (q_read, .inl (cI, 480, .inl v_read))] H := hP
        replace hD : va_D A [(h0, .inr (8, [.ref q_now, .ref q_text, .int v_typed, .ref q_row, .int v_rowMany, .int v_thrown, .int v_length, .int v_at, .int v_wrong, .ref q_read, .ref q_ranks, .ref q_distinct, .ref q_proper, .int v_properMany, .ref q_line, .ref q_order, .int v_orderMany, .ref q_then, .ref q_bestOrder, .ref q_lineThen, .ref q_undos, .ref q_was, .int v_undoMany, .int v_drawn, .ref q_kept, .ref q_isKept])), (q_now, .inl (cJ, 120, .inr (.inl (vp_updL v_now_2 (x3_2).toNatClampNeg (0 : Int64))))), (q_read, .inl (cI, 480, .inl v_read))] := hD
        refine lv_iinc (v := (x3_2 + 1)) (lv' := [(3, .int (x3_2 + 1)), (0, .ref h0), (1, .int x1), (2, .int x2)]) hx hb dX10_layTable_15 hl (k := 3) rfl (by rfl) (by decide) rfl (fun ls hl => ?_)
        refine lv_goto (tgt := 2) hx hb dX10_layTable_18 (by decide) ?_
        exact ih (x3_2 + 1) (vp_updL v_now_2 (x3_2).toNatClampNeg (0 : Int64)) w H _ ls h hP hD hS (lv_sub hl [1, 2, 3, 0] rfl) K
  obtain ⟨w_95, hw_95, h⟩ := ob h
  refine LP_95 fu (0 : Int32) v_now w_95 s.heap _ ls hw_95 hP hD hS (lv_sub hl [1, 2, 3, 0] rfl) (fun H locs ls hP hD hS hl => ?_)
  refine lv_aload_n hx hb dX10_layTable_21 rfl (lv_at hl 0 rfl) ?_
  refine va_get (D := (dC, dI)) (ci := 8) (v := .ref q_now) (C := RX10) (T := TX10) (N := 26) hx hb hts hi_X10 hown hK hP 0 rfl rfl 0 (by decide) (hts _ (List.mem_of_getElem? (i := 1) rfl)) (fun _ h9 => h9) rfl dX10_layTable_22 ?_
  refine lv_iconst (v := 0) hx hb dX10_layTable_25 (by decide) ?_
  refine lv_iload_n hx hb dX10_layTable_26 rfl (lv_at hl 1 rfl) ?_
  refine lv_i2l (v := (x1).toInt64) hx hb dX10_layTable_27 rfl ?_
  refine va_last hx hb hK hP hD hS 1 1 rfl rfl (of_decide_eq_false rfl) dX10_layTable_28 (fun H locs hP hD hS => ?_)
  replace hP : va_P (dC, dI) vwCl [(h0, .inr (8, [.ref q_now, .ref q_text, .int v_typed, .ref q_row, .int v_rowMany, .int v_thrown, .int v_length, .int v_at, .int v_wrong, .ref q_read, .ref q_ranks, .ref q_distinct, .ref q_proper, .int v_properMany, .ref q_line, .ref q_order, .int v_orderMany, .ref q_then, .ref q_bestOrder, .ref q_lineThen, .ref q_undos, .ref q_was, .int v_undoMany, .int v_drawn, .ref q_kept, .ref q_isKept])), (q_now, .inl (cJ, 120, .inr (.inl (vp_updL w_95 ((0 : Int32)).toNatClampNeg (x1).toInt64)))), (q_read, .inl (cI, 480, .inl v_read))] H := hP
  replace hD : va_D A [(h0, .inr (8, [.ref q_now, .ref q_text, .int v_typed, .ref q_row, .int v_rowMany, .int v_thrown, .int v_length, .int v_at, .int v_wrong, .ref q_read, .ref q_ranks, .ref q_distinct, .ref q_proper, .int v_properMany, .ref q_line, .ref q_order, .int v_orderMany, .ref q_then, .ref q_bestOrder, .ref q_lineThen, .ref q_undos, .ref q_was, .int v_undoMany, .int v_drawn, .ref q_kept, .ref q_isKept])), (q_now, .inl (cJ, 120, .inr (.inl (vp_updL w_95 ((0 : Int32)).toNatClampNeg (x1).toInt64)))), (q_read, .inl (cI, 480, .inl v_read))] := hD
  refine lv_aload_n hx hb dX10_layTable_29 rfl (lv_at hl 0 rfl) ?_
  refine va_get (D := (dC, dI)) (ci := 8) (v := .ref q_now) (C := RX10) (T := TX10) (N := 26) hx hb hts hi_X10 hown hK hP 0 rfl rfl 0 (by decide) (hts _ (List.mem_of_getElem? (i := 1) rfl)) (fun _ h9 => h9) rfl dX10_layTable_30 ?_
  refine lv_iconst (v := 1) hx hb dX10_layTable_33 (by decide) ?_
  refine lv_iload_n hx hb dX10_layTable_34 rfl (lv_at hl 2 rfl) ?_
  refine lv_i2l (v := (x2).toInt64) hx hb dX10_layTable_35 rfl ?_
  refine va_last hx hb hK hP hD hS 1 1 rfl rfl (of_decide_eq_false rfl) dX10_layTable_36 (fun H locs hP hD hS => ?_)
  replace hP : va_P (dC, dI) vwCl [(h0, .inr (8, [.ref q_now, .ref q_text, .int v_typed, .ref q_row, .int v_rowMany, .int v_thrown, .int v_length, .int v_at, .int v_wrong, .ref q_read, .ref q_ranks, .ref q_distinct, .ref q_proper, .int v_properMany, .ref q_line, .ref q_order, .int v_orderMany, .ref q_then, .ref q_bestOrder, .ref q_lineThen, .ref q_undos, .ref q_was, .int v_undoMany, .int v_drawn, .ref q_kept, .ref q_isKept])), (q_now, .inl (cJ, 120, .inr (.inl (vp_updL (vp_updL w_95 ((0 : Int32)).toNatClampNeg (x1).toInt64) ((1 : Int32)).toNatClampNeg (x2).toInt64)))), (q_read, .inl (cI, 480, .inl v_read))] H := hP
  replace hD : va_D A [(h0, .inr (8, [.ref q_now, .ref q_text, .int v_typed, .ref q_row, .int v_rowMany, .int v_thrown, .int v_length, .int v_at, .int v_wrong, .ref q_read, .ref q_ranks, .ref q_distinct, .ref q_proper, .int v_properMany, .ref q_line, .ref q_order, .int v_orderMany, .ref q_then, .ref q_bestOrder, .ref q_lineThen, .ref q_undos, .ref q_was, .int v_undoMany, .int v_drawn, .ref q_kept, .ref q_isKept])), (q_now, .inl (cJ, 120, .inr (.inl (vp_updL (vp_updL w_95 ((0 : Int32)).toNatClampNeg (x1).toInt64) ((1 : Int32)).toNatClampNeg (x2).toInt64)))), (q_read, .inl (cI, 480, .inl v_read))] := hD
  refine lv_iconst (v := 0) hx hb dX10_layTable_37 (by decide) ?_
  refine lv_istore_n (lv' := [(3, .int (0 : Int32)), (0, .ref h0), (1, .int x1), (2, .int x2)]) hx hb dX10_layTable_38 rfl hl (by decide) rfl (fun ls hl => ?_)
  have LP_111 : ∀ (n : Nat) (x3_39 : Int32) (v_now_39 : (Nat → Int64)) (w : (Nat → Int64)) (H : Heap) (locs : List Loc) (ls : Array Slot), L_X10_layTable_39 v_read x1 x2 n x3_39 v_now_39 = some w → va_P (dC, dI) vwCl [(h0, .inr (8, [.ref q_now, .ref q_text, .int v_typed, .ref q_row, .int v_rowMany, .int v_thrown, .int v_length, .int v_at, .int v_wrong, .ref q_read, .ref q_ranks, .ref q_distinct, .ref q_proper, .int v_properMany, .ref q_line, .ref q_order, .int v_orderMany, .ref q_then, .ref q_bestOrder, .ref q_lineThen, .ref q_undos, .ref q_was, .int v_undoMany, .int v_drawn, .ref q_kept, .ref q_isKept])), (q_now, .inl (cJ, 120, .inr (.inl v_now_39))), (q_read, .inl (cI, 480, .inl v_read))] H → va_D A [(h0, .inr (8, [.ref q_now, .ref q_text, .int v_typed, .ref q_row, .int v_rowMany, .int v_thrown, .int v_length, .int v_at, .int v_wrong, .ref q_read, .ref q_ranks, .ref q_distinct, .ref q_proper, .int v_properMany, .ref q_line, .ref q_order, .int v_orderMany, .ref q_then, .ref q_bestOrder, .ref q_lineThen, .ref q_undos, .ref q_was, .int v_undoMany, .int v_drawn, .ref q_kept, .ref q_isKept])), (q_now, .inl (cJ, 120, .inr (.inl v_now_39))), (q_read, .inl (cI, 480, .inl v_read))] → va_S A s.heap H locs → lv_has ls 5 [(0, .ref h0), (1, .int x1), (2, .int x2), (3, .int x3_39)] → (∀ (H : Heap) (locs : List Loc) (ls : Array Slot), va_P (dC, dI) vwCl [(h0, .inr (8, [.ref q_now, .ref q_text, .int v_typed, .ref q_row, .int v_rowMany, .int v_thrown, .int v_length, .int v_at, .int v_wrong, .ref q_read, .ref q_ranks, .ref q_distinct, .ref q_proper, .int v_properMany, .ref q_line, .ref q_order, .int v_orderMany, .ref q_then, .ref q_bestOrder, .ref q_lineThen, .ref q_undos, .ref q_was, .int v_undoMany, .int v_drawn, .ref q_kept, .ref q_isKept])), (q_now, .inl (cJ, 120, .inr (.inl w))), (q_read, .inl (cI, 480, .inl v_read))] H → va_D A [(h0, .inr (8, [.ref q_now, .ref q_text, .int v_typed, .ref q_row, .int v_rowMany, .int v_thrown, .int v_length, .int v_at, .int v_wrong, .ref q_read, .ref q_ranks, .ref q_distinct, .ref q_proper, .int v_properMany, .ref q_line, .ref q_order, .int v_orderMany, .ref q_then, .ref q_bestOrder, .ref q_lineThen, .ref q_undos, .ref q_was, .int v_undoMany, .int v_drawn, .ref q_kept, .ref q_isKept])), (q_now, .inl (cJ, 120, .inr (.inl w))), (q_read, .inl (cI, 480, .inl v_read))] → va_S A s.heap H locs → lv_has ls 5 [(0, .ref h0), (1, .int x1)] → W p l e rm_X10_layTable s m args below meth c H locs 0 0 QQ (F0 m 114 ls [])) → W p l e rm_X10_layTable s m args below meth c H locs 0 0 QQ (F0 m 39 ls []) := by
    intro n
    induction n with
    | zero => intro x3_39 v_now_39 w H locs ls h; exact absurd (show none = some w from h) nofun
    | succ n ih =>
      intro x3_39 v_now_39 w H locs ls h hP hD hS hl K
      rw [L_X10_layTable_39] at h
      refine lv_iload_n hx hb dX10_layTable_39 rfl (lv_at hl 3 rfl) ?_
      refine lv_iload_n hx hb dX10_layTable_40 rfl (lv_at hl 2 rfl) ?_
      refine lv_icmp_ge (tgt := 114) hx hb dX10_layTable_41 (by decide) (fun c_98 => ?_) (fun c_98 => ?_)
      · replace h := op c_98 h
        have ho := Option.some.inj h
        subst ho
        exact K H _ ls hP hD hS (lv_sub hl [0, 1] rfl)
      · replace h := on c_98 h
        refine lv_aload_n hx hb dX10_layTable_44 rfl (lv_at hl 0 rfl) ?_
        refine va_get (D := (dC, dI)) (ci := 8) (v := .ref q_now) (C := RX10) (T := TX10) (N := 26) hx hb hts hi_X10 hown hK hP 0 rfl rfl 0 (by decide) (hts _ (List.mem_of_getElem? (i := 1) rfl)) (fun _ h9 => h9) rfl dX10_layTable_45 ?_
        refine lv_iconst (v := 2) hx hb dX10_layTable_48 (by decide) ?_
        refine lv_iload_n hx hb dX10_layTable_49 rfl (lv_at hl 3 rfl) ?_
        refine lv_iadd hx hb dX10_layTable_50 ?_
        refine lv_aload_n hx hb dX10_layTable_51 rfl (lv_at hl 0 rfl) ?_
        refine va_get (D := (dC, dI)) (ci := 8) (v := .ref q_read) (C := RX10) (T := TX10) (N := 26) hx hb hts hi_X10 hown hK hP 0 rfl rfl 9 (by decide) (hts _ (List.mem_of_getElem? (i := 2) rfl)) (fun _ h9 => h9) rfl dX10_layTable_52 ?_
        refine lv_iload_n hx hb dX10_layTable_55 rfl (lv_at hl 3 rfl) ?_
        obtain ⟨hi_99, h⟩ := og h
        refine va_iald hx hb hK hP 2 0 rfl rfl hi_99 dX10_layTable_56 ?_
        refine lv_i2l (v := (v_read (x3_39).toNatClampNeg).toInt64) hx hb dX10_layTable_57 rfl ?_
        obtain ⟨hi_100, h⟩ := og h
        refine va_last hx hb hK hP hD hS 1 1 rfl rfl hi_100 dX10_layTable_58 (fun H locs hP hD hS => ?_)
        replace hP : va_P (dC, dI) vwCl [(h0, .inr (8, [.ref q_now, .ref q_text, .int v_typed, .ref q_row, .int v_rowMany, .int v_thrown, .int v_length, .int v_at, .int v_wrong, .ref q_read, .ref q_ranks, .ref q_distinct, .ref q_proper, .int v_properMany, .ref q_line, .ref q_order, .int v_orderMany, .ref q_then, .ref q_bestOrder, .ref q_lineThen, .ref q_undos, .ref q_was, .int v_undoMany, .int v_drawn, .ref q_kept, .ref q_isKept])), (q_now, .inl (cJ, 120, .inr (.inl (vp_updL v_now_39 (((2 : Int32) + x3_39)).toNatClampNeg (v_read (x3_39).toNatClampNeg).toInt64)))), (q_read, .inl (cI, 480, .inl v_read))] H := hP
        replace hD : va_D A [(h0, .inr (8, [.ref q_now, .ref q_text, .int v_typed, .ref q_row, .int v_rowMany, .int v_thrown, .int v_length, .int v_at, .int v_wrong, .ref q_read, .ref q_ranks, .ref q_distinct, .ref q_proper, .int v_properMany, .ref q_line, .ref q_order, .int v_orderMany, .ref q_then, .ref q_bestOrder, .ref q_lineThen, .ref q_undos, .ref q_was, .int v_undoMany, .int v_drawn, .ref q_kept, .ref q_isKept])), (q_now, .inl (cJ, 120, .inr (.inl (vp_updL v_now_39 (((2 : Int32) + x3_39)).toNatClampNeg (v_read (x3_39).toNatClampNeg).toInt64)))), (q_read, .inl (cI, 480, .inl v_read))] := hD
        refine lv_iconst (v := 0) hx hb dX10_layTable_59 (by decide) ?_
        refine lv_istore (lv' := [(4, .int (0 : Int32)), (0, .ref h0), (1, .int x1), (2, .int x2), (3, .int x3_39)]) hx hb dX10_layTable_60 hl (by decide) rfl (fun ls hl => ?_)
        have LP_110 : ∀ (n : Nat) (x4_62 : Int32) (v_now_62 : (Nat → Int64)) (w : (Nat → Int64)) (H : Heap) (locs : List Loc) (ls : Array Slot), L_X10_layTable_62 v_read x1 x3_39 n x4_62 v_now_62 = some w → va_P (dC, dI) vwCl [(h0, .inr (8, [.ref q_now, .ref q_text, .int v_typed, .ref q_row, .int v_rowMany, .int v_thrown, .int v_length, .int v_at, .int v_wrong, .ref q_read, .ref q_ranks, .ref q_distinct, .ref q_proper, .int v_properMany, .ref q_line, .ref q_order, .int v_orderMany, .ref q_then, .ref q_bestOrder, .ref q_lineThen, .ref q_undos, .ref q_was, .int v_undoMany, .int v_drawn, .ref q_kept, .ref q_isKept])), (q_now, .inl (cJ, 120, .inr (.inl v_now_62))), (q_read, .inl (cI, 480, .inl v_read))] H → va_D A [(h0, .inr (8, [.ref q_now, .ref q_text, .int v_typed, .ref q_row, .int v_rowMany, .int v_thrown, .int v_length, .int v_at, .int v_wrong, .ref q_read, .ref q_ranks, .ref q_distinct, .ref q_proper, .int v_properMany, .ref q_line, .ref q_order, .int v_orderMany, .ref q_then, .ref q_bestOrder, .ref q_lineThen, .ref q_undos, .ref q_was, .int v_undoMany, .int v_drawn, .ref q_kept, .ref q_isKept])), (q_now, .inl (cJ, 120, .inr (.inl v_now_62))), (q_read, .inl (cI, 480, .inl v_read))] → va_S A s.heap H locs → lv_has ls 5 [(0, .ref h0), (1, .int x1), (2, .int x2), (3, .int x3_39), (4, .int x4_62)] → (∀ (H : Heap) (locs : List Loc) (ls : Array Slot), va_P (dC, dI) vwCl [(h0, .inr (8, [.ref q_now, .ref q_text, .int v_typed, .ref q_row, .int v_rowMany, .int v_thrown, .int v_length, .int v_at, .int v_wrong, .ref q_read, .ref q_ranks, .ref q_distinct, .ref q_proper, .int v_properMany, .ref q_line, .ref q_order, .int v_orderMany, .ref q_then, .ref q_bestOrder, .ref q_lineThen, .ref q_undos, .ref q_was, .int v_undoMany, .int v_drawn, .ref q_kept, .ref q_isKept])), (q_now, .inl (cJ, 120, .inr (.inl w))), (q_read, .inl (cI, 480, .inl v_read))] H → va_D A [(h0, .inr (8, [.ref q_now, .ref q_text, .int v_typed, .ref q_row, .int v_rowMany, .int v_thrown, .int v_length, .int v_at, .int v_wrong, .ref q_read, .ref q_ranks, .ref q_distinct, .ref q_proper, .int v_properMany, .ref q_line, .ref q_order, .int v_orderMany, .ref q_then, .ref q_bestOrder, .ref q_lineThen, .ref q_undos, .ref q_was, .int v_undoMany, .int v_drawn, .ref q_kept, .ref q_isKept])), (q_now, .inl (cJ, 120, .inr (.inl w))), (q_read, .inl (cI, 480, .inl v_read))] → va_S A s.heap H locs → lv_has ls 5 [(0, .ref h0), (1, .int x1), (2, .int x2), (3, .int x3_39)] → W p l e rm_X10_layTable s m args below meth c H locs 0 0 QQ (F0 m 108 ls [])) → W p l e rm_X10_layTable s m args below meth c H locs 0 0 QQ (F0 m 62 ls []) := by
          intro n
          induction n with
          | zero => intro x4_62 v_now_62 w H locs ls h; exact absurd (show none = some w from h) nofun
          | succ n ih =>
            intro x4_62 v_now_62 w H locs ls h hP hD hS hl K
            rw [L_X10_layTable_62] at h
            refine lv_iload hx hb dX10_layTable_62 (lv_at hl 4 rfl) ?_
            refine lv_iload_n hx hb dX10_layTable_64 rfl (lv_at hl 1 rfl) ?_
            refine lv_icmp_ge (tgt := 108) hx hb dX10_layTable_65 (by decide) (fun c_101 => ?_) (fun c_101 => ?_)
            · replace h := op c_101 h
              have ho := Option.some.inj h
              subst ho
              exact K H _ ls hP hD hS (lv_sub hl [0, 1, 2, 3] rfl)
            · replace h := on c_101 h
              refine lv_aload_n hx hb dX10_layTable_68 rfl (lv_at hl 0 rfl) ?_
              refine va_get (D := (dC, dI)) (ci := 8) (v := .ref q_now) (C := RX10) (T := TX10) (N := 26) hx hb hts hi_X10 hown hK hP 0 rfl rfl 0 (by decide) (hts _ (List.mem_of_getElem? (i := 1) rfl)) (fun _ h9 => h9) rfl dX10_layTable_69 ?_
              refine lv_iload_n hx hb dX10_layTable_72 rfl (lv_at hl 3 rfl) ?_
              refine lv_iload hx hb dX10_layTable_73 (lv_at hl 4 rfl) ?_
              obtain ⟨o_102, hr_102, h⟩ := ob h
              refine vp_callSi (va_Run.run (va_runS (As := [.int x3_39, .int x4_62]) (rest := [.ref q_now]) ⟨hx, hb, hml, hown, hts⟩ (c_X10_cellAt l dC dI cB cC cI cJ cZ cT x3_39 x4_62 o_102 hr_102) (va_cwS 2 hts gX10_layTable_X10_cellAt rfl rfl rfl (by decide +kernel) ⟨Nat.le_of_ble_eq_true rfl, Nat.le_of_ble_eq_true rfl⟩) ⟨blT, fun U hU hW => ⟨rfl, trivial⟩⟩ rfl rfl hl.1 rfl (lv_room (Nat.le_of_ble_eq_true rfl)) dX10_layTable_75 ⟨Nat.le_of_ble_eq_true rfl, Nat.le_of_ble_eq_true rfl⟩)) (fun r_102 e_102 => ?_)
              subst e_102
              refine lv_aload_n hx hb dX10_layTable_78 rfl (lv_at hl 0 rfl) ?_
              refine va_get (D := (dC, dI)) (ci := 8) (v := .ref q_read) (C := RX10) (T := TX10) (N := 26) hx hb hts hi_X10 hown hK hP 0 rfl rfl 9 (by decide) (hts _ (List.mem_of_getElem? (i := 2) rfl)) (fun _ h9 => h9) rfl dX10_layTable_79 ?_
              refine lv_iload_n hx hb dX10_layTable_82 rfl (lv_at hl 3 rfl) ?_
              obtain ⟨hi_104, h⟩ := og h
              refine va_iald hx hb hK hP 2 0 rfl rfl hi_104 dX10_layTable_83 ?_
              refine lv_bipush (v := 8) hx hb dX10_layTable_84 (by decide) ?_
              refine lv_bipush (v := 10) hx hb dX10_layTable_86 (by decide) ?_
              obtain ⟨o_105, hr_105, h⟩ := ob h
              refine vp_callSi (va_Run.run (va_runS (As := [.int (v_read (x3_39).toNatClampNeg), .int (8 : Int32), .int (10 : Int32)]) (rest := [.int o_102, .ref q_now]) ⟨hx, hb, hml, hown, hts⟩ (c_X10_in l dC dI cB cC cI cJ cZ cT (v_read (x3_39).toNatClampNeg) (8 : Int32) (10 : Int32) o_105 hr_105) (va_cwS 3 hts gX10_layTable_X10_in rfl rfl rfl (by decide +kernel) ⟨Nat.le_of_ble_eq_true rfl, Nat.le_of_ble_eq_true rfl⟩) ⟨blT, fun U hU hW => ⟨rfl, trivial⟩⟩ rfl rfl hl.1 rfl (lv_room (Nat.le_of_ble_eq_true rfl)) dX10_layTable_88 ⟨Nat.le_of_ble_eq_true rfl, Nat.le_of_ble_eq_true rfl⟩)) (fun r_105 e_105 => ?_)
              subst e_105
              refine lv_if_eq (tgt := 100) hx hb dX10_layTable_91 (by decide) (fun c_107 => ?_) (fun c_107 => ?_)
              · replace h := op c_107 h
                refine lv_lconst (v := 0) hx hb dX10_layTable_100 (by decide) ?_
                obtain ⟨hi_108, h⟩ := og h
                refine va_last hx hb hK hP hD hS 1 1 rfl rfl hi_108 dX10_layTable_101 (fun H locs hP hD hS => ?_)
                replace hP : va_P (dC, dI) vwCl [(h0, .inr (8, [.ref q_now, .ref q_text, .int v_typed, .ref q_row, .int v_rowMany, .int v_thrown, .int v_length, .int v_at, .int v_wrong, .ref q_read, .ref q_ranks, .ref q_distinct, .ref q_proper, .int v_properMany, .ref q_line, .ref q_order, .int v_orderMany, .ref q_then, .ref q_bestOrder, .ref q_lineThen, .ref q_undos, .ref q_was, .int v_undoMany, .int v_drawn, .ref q_kept, .ref q_isKept])), (q_now, .inl (cJ, 120, .inr (.inl (vp_updL v_now_62 (o_102).toNatClampNeg (0 : Int64))))), (q_read, .inl (cI, 480, .inl v_read))] H := hP
                replace hD : va_D A [(h0, .inr (8, [.ref q_now, .ref q_text, .int v_typed, .ref q_row, .int v_rowMany, .int v_thrown, .int v_length, .int v_at, .int v_wrong, .ref q_read, .ref q_ranks, .ref q_distinct, .ref q_proper, .int v_properMany, .ref q_line, .ref q_order, .int v_orderMany, .ref q_then, .ref q_bestOrder, .ref q_lineThen, .ref q_undos, .ref q_was, .int v_undoMany, .int v_drawn, .ref q_kept, .ref q_isKept])), (q_now, .inl (cJ, 120, .inr (.inl (vp_updL v_now_62 (o_102).toNatClampNeg (0 : Int64))))), (q_read, .inl (cI, 480, .inl v_read))] := hD
                refine lv_iinc (v := (x4_62 + 1)) (lv' := [(4, .int (x4_62 + 1)), (0, .ref h0), (1, .int x1), (2, .int x2), (3, .int x3_39)]) hx hb dX10_layTable_102 hl (k := 4) rfl (by rfl) (by decide) rfl (fun ls hl => ?_)
                refine lv_goto (tgt := 62) hx hb dX10_layTable_105 (by decide) ?_
                exact ih (x4_62 + 1) (vp_updL v_now_62 (o_102).toNatClampNeg (0 : Int64)) w H _ ls h hP hD hS (lv_sub hl [1, 2, 3, 4, 0] rfl) K
              · replace h := on c_107 h
                refine lv_ldc2 (v := -9223372036854775808) hx hb hown (hts _ (List.mem_of_getElem? (i := 3) rfl)) dX10_layTable_94 ?_
                refine lv_goto (tgt := 101) hx hb dX10_layTable_97 (by decide) ?_
                obtain ⟨hi_109, h⟩ := og h
                refine va_last hx hb hK hP hD hS 1 1 rfl rfl hi_109 dX10_layTable_101 (fun H locs hP hD hS => ?_)
                replace hP : va_P (dC, dI) vwCl [(h0, .inr (8, [.ref q_now, .ref q_text, .int v_typed, .ref q_row, .int v_rowMany, .int v_thrown, .int v_length, .int v_at, .int v_wrong, .ref q_read, .ref q_ranks, .ref q_distinct, .ref q_proper, .int v_properMany, .ref q_line, .ref q_order, .int v_orderMany, .ref q_then, .ref q_bestOrder, .ref q_lineThen, .ref q_undos, .ref q_was, .int v_undoMany, .int v_drawn, .ref q_kept, .ref q_isKept])), (q_now, .inl (cJ, 120, .inr (.inl (vp_updL v_now_62 (o_102).toNatClampNeg (-9223372036854775808 : Int64))))), (q_read, .inl (cI, 480, .inl v_read))] H := hP
                replace hD : va_D A [(h0, .inr (8, [.ref q_now, .ref q_text, .int v_typed, .ref q_row, .int v_rowMany, .int v_thrown, .int v_length, .int v_at, .int v_wrong, .ref q_read, .ref q_ranks, .ref q_distinct, .ref q_proper, .int v_properMany, .ref q_line, .ref q_order, .int v_orderMany, .ref q_then, .ref q_bestOrder, .ref q_lineThen, .ref q_undos, .ref q_was, .int v_undoMany, .int v_drawn, .ref q_kept, .ref q_isKept])), (q_now, .inl (cJ, 120, .inr (.inl (vp_updL v_now_62 (o_102).toNatClampNeg (-9223372036854775808 : Int64))))), (q_read, .inl (cI, 480, .inl v_read))] := hD
                refine lv_iinc (v := (x4_62 + 1)) (lv' := [(4, .int (x4_62 + 1)), (0, .ref h0), (1, .int x1), (2, .int x2), (3, .int x3_39)]) hx hb dX10_layTable_102 hl (k := 4) rfl (by rfl) (by decide) rfl (fun ls hl => ?_)
                refine lv_goto (tgt := 62) hx hb dX10_layTable_105 (by decide) ?_
                exact ih (x4_62 + 1) (vp_updL v_now_62 (o_102).toNatClampNeg (-9223372036854775808 : Int64)) w H _ ls h hP hD hS (lv_sub hl [1, 2, 3, 4, 0] rfl) K
        obtain ⟨w_110, hw_110, h⟩ := ob h
        refine LP_110 fu (0 : Int32) (vp_updL v_now_39 (((2 : Int32) + x3_39)).toNatClampNeg (v_read (x3_39).toNatClampNeg).toInt64) w_110 H _ ls hw_110 hP hD hS (lv_sub hl [1, 2, 3, 4, 0] rfl) (fun H locs ls hP hD hS hl => ?_)
        refine lv_iinc (v := (x3_39 + 1)) (lv' := [(3, .int (x3_39 + 1)), (0, .ref h0), (1, .int x1), (2, .int x2)]) hx hb dX10_layTable_108 hl (k := 3) rfl (by rfl) (by decide) rfl (fun ls hl => ?_)
        refine lv_goto (tgt := 39) hx hb dX10_layTable_111 (by decide) ?_
        exact ih (x3_39 + 1) w_110 w H _ ls h hP hD hS (lv_sub hl [1, 2, 3, 0] rfl) K
  obtain ⟨w_111, hw_111, h⟩ := ob h
  refine LP_111 fu (0 : Int32) (vp_updL (vp_updL w_95 ((0 : Int32)).toNatClampNeg (x1).toInt64) ((1 : Int32)).toNatClampNeg (x2).toInt64) w_111 H _ ls hw_111 hP hD hS (lv_sub hl [1, 2, 3, 0] rfl) (fun H locs ls hP hD hS hl => ?_)
  refine lv_iconst (v := 0) hx hb dX10_layTable_114 (by decide) ?_
  refine lv_istore_n (lv' := [(3, .int (0 : Int32)), (0, .ref h0), (1, .int x1)]) hx hb dX10_layTable_115 rfl hl (by decide) rfl (fun ls hl => ?_)
  have LP_114 : ∀ (n : Nat) (x3_116 : Int32) (v_now_116 : (Nat → Int64)) (w : (Nat → Int64)) (H : Heap) (locs : List Loc) (ls : Array Slot), L_X10_layTable_116 x1 n x3_116 v_now_116 = some w → va_P (dC, dI) vwCl [(h0, .inr (8, [.ref q_now, .ref q_text, .int v_typed, .ref q_row, .int v_rowMany, .int v_thrown, .int v_length, .int v_at, .int v_wrong, .ref q_read, .ref q_ranks, .ref q_distinct, .ref q_proper, .int v_properMany, .ref q_line, .ref q_order, .int v_orderMany, .ref q_then, .ref q_bestOrder, .ref q_lineThen, .ref q_undos, .ref q_was, .int v_undoMany, .int v_drawn, .ref q_kept, .ref q_isKept])), (q_now, .inl (cJ, 120, .inr (.inl v_now_116))), (q_read, .inl (cI, 480, .inl v_read))] H → va_D A [(h0, .inr (8, [.ref q_now, .ref q_text, .int v_typed, .ref q_row, .int v_rowMany, .int v_thrown, .int v_length, .int v_at, .int v_wrong, .ref q_read, .ref q_ranks, .ref q_distinct, .ref q_proper, .int v_properMany, .ref q_line, .ref q_order, .int v_orderMany, .ref q_then, .ref q_bestOrder, .ref q_lineThen, .ref q_undos, .ref q_was, .int v_undoMany, .int v_drawn, .ref q_kept, .ref q_isKept])), (q_now, .inl (cJ, 120, .inr (.inl v_now_116))), (q_read, .inl (cI, 480, .inl v_read))] → va_S A s.heap H locs → lv_has ls 5 [(0, .ref h0), (1, .int x1), (3, .int x3_116)] → (∀ (H : Heap) (locs : List Loc) (ls : Array Slot), va_P (dC, dI) vwCl [(h0, .inr (8, [.ref q_now, .ref q_text, .int v_typed, .ref q_row, .int v_rowMany, .int v_thrown, .int v_length, .int v_at, .int v_wrong, .ref q_read, .ref q_ranks, .ref q_distinct, .ref q_proper, .int v_properMany, .ref q_line, .ref q_order, .int v_orderMany, .ref q_then, .ref q_bestOrder, .ref q_lineThen, .ref q_undos, .ref q_was, .int v_undoMany, .int v_drawn, .ref q_kept, .ref q_isKept])), (q_now, .inl (cJ, 120, .inr (.inl w))), (q_read, .inl (cI, 480, .inl v_read))] H → va_D A [(h0, .inr (8, [.ref q_now, .ref q_text, .int v_typed, .ref q_row, .int v_rowMany, .int v_thrown, .int v_length, .int v_at, .int v_wrong, .ref q_read, .ref q_ranks, .ref q_distinct, .ref q_proper, .int v_properMany, .ref q_line, .ref q_order, .int v_orderMany, .ref q_then, .ref q_bestOrder, .ref q_lineThen, .ref q_undos, .ref q_was, .int v_undoMany, .int v_drawn, .ref q_kept, .ref q_isKept])), (q_now, .inl (cJ, 120, .inr (.inl w))), (q_read, .inl (cI, 480, .inl v_read))] → va_S A s.heap H locs → lv_has ls 5 [] → W p l e rm_X10_layTable s m args below meth c H locs 0 0 QQ (F0 m 138 ls [])) → W p l e rm_X10_layTable s m args below meth c H locs 0 0 QQ (F0 m 116 ls []) := by
    intro n
    induction n with
    | zero => intro x3_116 v_now_116 w H locs ls h; exact absurd (show none = some w from h) nofun
    | succ n ih =>
      intro x3_116 v_now_116 w H locs ls h hP hD hS hl K
      rw [L_X10_layTable_116] at h
      refine lv_iload_n hx hb dX10_layTable_116 rfl (lv_at hl 2 rfl) ?_
      refine lv_iload_n hx hb dX10_layTable_117 rfl (lv_at hl 1 rfl) ?_
      refine lv_icmp_ge (tgt := 138) hx hb dX10_layTable_118 (by decide) (fun c_112 => ?_) (fun c_112 => ?_)
      · replace h := op c_112 h
        have ho := Option.some.inj h
        subst ho
        exact K H _ ls hP hD hS (lv_sub hl [] rfl)
      · replace h := on c_112 h
        refine lv_aload_n hx hb dX10_layTable_121 rfl (lv_at hl 0 rfl) ?_
        refine va_get (D := (dC, dI)) (ci := 8) (v := .ref q_now) (C := RX10) (T := TX10) (N := 26) hx hb hts hi_X10 hown hK hP 0 rfl rfl 0 (by decide) (hts _ (List.mem_of_getElem? (i := 1) rfl)) (fun _ h9 => h9) rfl dX10_layTable_122 ?_
        refine lv_bipush (v := 8) hx hb dX10_layTable_125 (by decide) ?_
        refine lv_iload_n hx hb dX10_layTable_127 rfl (lv_at hl 2 rfl) ?_
        refine lv_iadd hx hb dX10_layTable_128 ?_
        refine lv_iload_n hx hb dX10_layTable_129 rfl (lv_at hl 2 rfl) ?_
        refine lv_i2l (v := (x3_116).toInt64) hx hb dX10_layTable_130 rfl ?_
        obtain ⟨hi_113, h⟩ := og h
        refine va_last hx hb hK hP hD hS 1 1 rfl rfl hi_113 dX10_layTable_131 (fun H locs hP hD hS => ?_)
        replace hP : va_P (dC, dI) vwCl [(h0, .inr (8, [.ref q_now, .ref q_text, .int v_typed, .ref q_row, .int v_rowMany, .int v_thrown, .int v_length, .int v_at, .int v_wrong, .ref q_read, .ref q_ranks, .ref q_distinct, .ref q_proper, .int v_properMany, .ref q_line, .ref q_order, .int v_orderMany, .ref q_then, .ref q_bestOrder, .ref q_lineThen, .ref q_undos, .ref q_was, .int v_undoMany, .int v_drawn, .ref q_kept, .ref q_isKept])), (q_now, .inl (cJ, 120, .inr (.inl (vp_updL v_now_116 (((8 : Int32) + x3_116)).toNatClampNeg (x3_116).toInt64)))), (q_read, .inl (cI, 480, .inl v_read))] H := hP
        replace hD : va_D A [(h0, .inr (8, [.ref q_now, .ref q_text, .int v_typed, .ref q_row, .int v_rowMany, .int v_thrown, .int v_length, .int v_at, .int v_wrong, .ref q_read, .ref q_ranks, .ref q_distinct, .ref q_proper, .int v_properMany, .ref q_line, .ref q_order, .int v_orderMany, .ref q_then, .ref q_bestOrder, .ref q_lineThen, .ref q_undos, .ref q_was, .int v_undoMany, .int v_drawn, .ref q_kept, .ref q_isKept])), (q_now, .inl (cJ, 120, .inr (.inl (vp_updL v_now_116 (((8 : Int32) + x3_116)).toNatClampNeg (x3_116).toInt64)))), (q_read, .inl (cI, 480, .inl v_read))] := hD
        refine lv_iinc (v := (x3_116 + 1)) (lv' := [(3, .int (x3_116 + 1)), (0, .ref h0), (1, .int x1)]) hx hb dX10_layTable_132 hl (k := 2) rfl (by rfl) (by decide) rfl (fun ls hl => ?_)
        refine lv_goto (tgt := 116) hx hb dX10_layTable_135 (by decide) ?_
        exact ih (x3_116 + 1) (vp_updL v_now_116 (((8 : Int32) + x3_116)).toNatClampNeg (x3_116).toInt64) w H _ ls h hP hD hS (lv_sub hl [1, 2, 0] rfl) K
  obtain ⟨w_114, hw_114, h⟩ := ob h
  refine LP_114 fu (0 : Int32) w_111 w_114 H _ ls hw_114 hP hD hS (lv_sub hl [1, 2, 0] rfl) (fun H locs ls hP hD hS hl => ?_)
  rw [hQQ]
  have ho := Option.some.inj h
  subst ho
  exact W.vret hx hb hr (fun t ht hW => ⟨⟨(), rfl, trivial, by rw [ht]; exact hP, va_K.moved hW.alike hK, hD⟩, hS.F ht⟩) hS.2.2 dX10_layTable_138
def f_X10_kindOfWay (x0 : Int32) : Option Int32 :=
  (if (8 : Int32) ≤ x0 then (if x0 = (18 : Int32) then (some (4 : Int32)) else (if (18 : Int32) ≤ x0 then (some (-1 : Int32)) else (some (x0 - (10 : Int32))))) else (some x0))
abbrev rm_X10_kindOfWay : Room := { frames := 0, cells := 0, slots := 0, locals := 0 }
set_option maxHeartbeats 4000000 in
set_option maxRecDepth 100000 in
theorem c_X10_kindOfWay (l : Launch) (dC : Nat → ClassId) (dI : Nat → Nat → Nat) (cB cC cI cJ cZ cT : ClassId) (x0 : Int32) (o : Int32) (hf : f_X10_kindOfWay x0 = some o) : Met l yX10_kindOfWay wsX10_kindOfWay rm_X10_kindOfWay (va_Pc [.int x0] (fun _ => True)) (vp_Si (fun r => o = r)) 0 0 (fun _ => False) := by
  refine Met.ofW (cc := cX10_kindOfWay) (maxL := 1) (ret := (some .int)) (by decide) rfl ?_
  intro p e s m args below meth c s₁ B hml hv
  obtain ⟨hav, -⟩ := hv
  have hx := B.exec
  have hb := B.bytes
  have hr := B.returns
  have hts := atoms_spec (ws := wsX10_kindOfWay) B.pre
  have hown : s.vm.findClass RX10 = some m.cls := findClass_of_methodNamed B.named
  have hlocks := B.notSynchronized
  refine wstart (rm := rm_X10_kindOfWay) hav (Nat.le_of_ble_eq_true rfl) (fun QQ ls hQQ hl => ?_)
  have hl : lv_has ls 1 [(0, .int x0)] := hl
  have h := hf
  unfold f_X10_kindOfWay at h
  refine lv_iload_n hx hb dX10_kindOfWay_0 rfl (lv_at hl 0 rfl) ?_
  refine lv_bipush (v := 8) hx hb dX10_kindOfWay_1 (by decide) ?_
  refine lv_icmp_ge (tgt := 10) hx hb dX10_kindOfWay_3 (by decide) (fun c_115 => ?_) (fun c_115 => ?_)
  · replace h := op c_115 h
    refine lv_iload_n hx hb dX10_kindOfWay_10 rfl (lv_at hl 0 rfl) ?_
    refine lv_bipush (v := 18) hx hb dX10_kindOfWay_11 (by decide) ?_
    refine lv_icmp_ne (tgt := 20) hx hb dX10_kindOfWay_13 (by decide) (fun c_116 => ?_) (fun c_116 => ?_)
    · replace h := on c_116 h
      refine lv_iload_n hx hb dX10_kindOfWay_20 rfl (lv_at hl 0 rfl) ?_
      refine lv_bipush (v := 18) hx hb dX10_kindOfWay_21 (by decide) ?_
      refine lv_icmp_ge (tgt := 33) hx hb dX10_kindOfWay_23 (by decide) (fun c_117 => ?_) (fun c_117 => ?_)
      · replace h := op c_117 h
        refine lv_iconst (v := -1) hx hb dX10_kindOfWay_33 (by decide) ?_
        rw [hQQ]
        exact W.iret hx hb hr (fun t ht hW => ⟨_, rfl, (Option.some.inj h).symm, ht⟩) (fun q hq => absurd hq List.not_mem_nil) dX10_kindOfWay_34
      · replace h := on c_117 h
        refine lv_iload_n hx hb dX10_kindOfWay_26 rfl (lv_at hl 0 rfl) ?_
        refine lv_bipush (v := 10) hx hb dX10_kindOfWay_27 (by decide) ?_
        refine lv_isub hx hb dX10_kindOfWay_29 ?_
        refine lv_goto (tgt := 34) hx hb dX10_kindOfWay_30 (by decide) ?_
        rw [hQQ]
        exact W.iret hx hb hr (fun t ht hW => ⟨_, rfl, (Option.some.inj h).symm, ht⟩) (fun q hq => absurd hq List.not_mem_nil) dX10_kindOfWay_34
    · replace h := op c_116 h
      refine lv_iconst (v := 4) hx hb dX10_kindOfWay_16 (by decide) ?_
      refine lv_goto (tgt := 34) hx hb dX10_kindOfWay_17 (by decide) ?_
      rw [hQQ]
      exact W.iret hx hb hr (fun t ht hW => ⟨_, rfl, (Option.some.inj h).symm, ht⟩) (fun q hq => absurd hq List.not_mem_nil) dX10_kindOfWay_34
  · replace h := on c_115 h
    refine lv_iload_n hx hb dX10_kindOfWay_6 rfl (lv_at hl 0 rfl) ?_
    refine lv_goto (tgt := 34) hx hb dX10_kindOfWay_7 (by decide) ?_
    rw [hQQ]
    exact W.iret hx hb hr (fun t ht hW => ⟨_, rfl, (Option.some.inj h).symm, ht⟩) (fun q hq => absurd hq List.not_mem_nil) dX10_kindOfWay_34
def f_X10_widens (x0 : Int32) (x1 : Int32) : Option Bool :=
  (if x0 < 0 ∨ 8 ≤ (x0).toNatClampNeg then none else (if (((wid (x0).toNatClampNeg) >>> (x1 &&& 31)) &&& (1 : Int32)) = (1 : Int32) then (some true) else (some false)))
abbrev rm_X10_widens : Room := { frames := 0, cells := 0, slots := 0, locals := 0 }
set_option maxHeartbeats 4000000 in
set_option maxRecDepth 100000 in
theorem c_X10_widens (l : Launch) (dC : Nat → ClassId) (dI : Nat → Nat → Nat) (cB cC cI cJ cZ cT : ClassId) (x0 : Int32) (x1 : Int32) (o : Bool) (hf : f_X10_widens x0 x1 = some o) : Met l yX10_widens wsX10_widens rm_X10_widens (va_Pc [.int x0, .int x1] (fun U => SX (fun _ => False) U U.heap)) (vp_Si (fun r => b2i o = r)) 0 0 (fun _ => False) := by
  refine Met.ofW (cc := cX10_widens) (maxL := 2) (ret := (some .boolean)) (by decide) rfl ?_
  intro p e s m args below meth c s₁ B hml hv
  obtain ⟨hav, hX⟩ := hv
  have hx := B.exec
  have hb := B.bytes
  have hr := B.returns
  have hts := atoms_spec (ws := wsX10_widens) B.pre
  have hown : s.vm.findClass RX10 = some m.cls := findClass_of_methodNamed B.named
  have hlocks := B.notSynchronized
  have hS : va_S (fun _ => False) s.heap s.heap [] := va_S.rf
  obtain ⟨⟨tM, hZM, hTM⟩, tC, hZC, hTC⟩ := id hX
  refine wstart (rm := rm_X10_widens) hav (Nat.le_of_ble_eq_true rfl) (fun QQ ls hQQ hl => ?_)
  have hl : lv_has ls 2 [(0, .int x0), (1, .int x1)] := hl
  have h := hf
  unfold f_X10_widens at h
  refine va_gets hx hb hZM hS hown (hts _ (List.mem_of_getElem? (i := 1) rfl)) (fun _ h9 => h9) dX10_widens_0 ?_
  refine lv_iload_n hx hb dX10_widens_3 rfl (lv_at hl 0 rfl) ?_
  obtain ⟨hi_118, h⟩ := og h
  refine va_ti (v := .int (wid (x0).toNatClampNeg)) hx hb hTM hS hi_118 rfl dX10_widens_4 ?_
  refine lv_iload_n hx hb dX10_widens_5 rfl (lv_at hl 1 rfl) ?_
  refine lv_ishr hx hb dX10_widens_6 ?_
  refine lv_iconst (v := 1) hx hb dX10_widens_7 (by decide) ?_
  refine lv_iand hx hb dX10_widens_8 ?_
  refine lv_iconst (v := 1) hx hb dX10_widens_9 (by decide) ?_
  refine lv_icmp_ne (tgt := 17) hx hb dX10_widens_10 (by decide) (fun c_119 => ?_) (fun c_119 => ?_)
  · replace h := on c_119 h
    refine lv_iconst (v := 0) hx hb dX10_widens_17 (by decide) ?_
    rw [hQQ]
    exact W.zret hx hb hr rfl (fun t ht hW => ⟨_, rfl, (congrArg b2i (Option.some.inj h).symm), ht⟩) (fun q hq => absurd hq List.not_mem_nil) dX10_widens_18
  · replace h := op c_119 h
    refine lv_iconst (v := 1) hx hb dX10_widens_13 (by decide) ?_
    refine lv_goto (tgt := 18) hx hb dX10_widens_14 (by decide) ?_
    rw [hQQ]
    exact W.zret hx hb hr rfl (fun t ht hW => ⟨_, rfl, (congrArg b2i (Option.some.inj h).symm), ht⟩) (fun q hq => absurd hq List.not_mem_nil) dX10_widens_18
def f_X10_canHold (x1 : Int32) (x2 : Int32) : Option Bool :=
  (if x1 ≤ (10 : Int32) then (if x1 < (8 : Int32) then (if x1 = (9 : Int32) then (if x2 = (19 : Int32) then (some true) else (some false)) else (if x1 = (10 : Int32) then (if x2 = (20 : Int32) then (some true) else (some false)) else ((f_X10_kindOfWay x2).bind (fun o_124 => (if x1 = (8 : Int32) then (if o_124 = (4 : Int32) then (if x2 ≤ (7 : Int32) then (some false) else (some true)) else (some false)) else (if o_124 = (-1 : Int32) then (some false) else ((f_X10_widens o_124 x1).bind (fun o_128 => (if (b2i o_128) = 0 then (some false) else (some true)))))))))) else (if x2 = (21 : Int32) then (some true) else (if x1 = (9 : Int32) then (if x2 = (19 : Int32) then (some true) else (some false)) else (if x1 = (10 : Int32) then (if x2 = (20 : Int32) then (some true) else (some false)) else ((f_X10_kindOfWay x2).bind (fun o_138 => (if x1 = (8 : Int32) then (if o_138 = (4 : Int32) then (if x2 ≤ (7 : Int32) then (some false) else (some true)) else (some false)) else (if o_138 = (-1 : Int32) then (some false) else ((f_X10_widens o_138 x1).bind (fun o_142 => (if (b2i o_142) = 0 then (some false) else (some true)))))))))))) else (some false))
abbrev rm_X10_canHold : Room := { frames := 1, cells := 0, slots := 0, locals := 21 }
set_option maxHeartbeats 4000000 in
set_option maxRecDepth 100000 in
theorem c_X10_canHold (l : Launch) (dC : Nat → ClassId) (dI : Nat → Nat → Nat) (cB cC cI cJ cZ cT : ClassId) (h0 : Nat) (x1 : Int32) (x2 : Int32) (o : Bool) (hf : f_X10_canHold x1 x2 = some o) : Met l yX10_canHold wsX10_canHold rm_X10_canHold (va_Pc [.ref h0, .int x1, .int x2] (fun U => SX (fun _ => False) U U.heap)) (vp_Si (fun r => b2i o = r)) 0 0 (fun _ => False) := by
  refine Met.ofW (cc := cX10_canHold) (maxL := 4) (ret := (some .boolean)) (by decide) rfl ?_
  intro p e s m args below meth c s₁ B hml hv
  obtain ⟨hav, hX⟩ := hv
  have hx := B.exec
  have hb := B.bytes
  have hr := B.returns
  have hts := atoms_spec (ws := wsX10_canHold) B.pre
  have hown : s.vm.findClass RX10 = some m.cls := findClass_of_methodNamed B.named
  have hlocks := B.notSynchronized
  have hS : va_S (fun _ => False) s.heap s.heap [] := va_S.rf
  refine wstart (rm := rm_X10_canHold) hav (Nat.le_of_ble_eq_true rfl) (fun QQ ls hQQ hl => ?_)
  have hl : lv_has ls 4 [(0, .ref h0), (1, .int x1), (2, .int x2)] := hl
  have h := hf
  unfold f_X10_canHold at h
  refine lv_iload_n hx hb dX10_canHold_0 rfl (lv_at hl 1 rfl) ?_
  refine lv_bipush (v := 10) hx hb dX10_canHold_1 (by decide) ?_
  refine lv_icmp_le (tgt := 8) hx hb dX10_canHold_3 (by decide) (fun c_120 => ?_) (fun c_120 => ?_)
  · replace h := op c_120 h
    refine lv_iload_n hx hb dX10_canHold_8 rfl (lv_at hl 1 rfl) ?_
    refine lv_bipush (v := 8) hx hb dX10_canHold_9 (by decide) ?_
    refine lv_icmp_lt (tgt := 22) hx hb dX10_canHold_11 (by decide) (fun c_121 => ?_) (fun c_121 => ?_)
    · replace h := op c_121 h
      refine lv_iload_n hx hb dX10_canHold_22 rfl (lv_at hl 1 rfl) ?_
      refine lv_bipush (v := 9) hx hb dX10_canHold_23 (by decide) ?_
      refine lv_icmp_ne (tgt := 40) hx hb dX10_canHold_25 (by decide) (fun c_122 => ?_) (fun c_122 => ?_)
      · replace h := on c_122 h
        refine lv_iload_n hx hb dX10_canHold_40 rfl (lv_at hl 1 rfl) ?_
        refine lv_bipush (v := 10) hx hb dX10_canHold_41 (by decide) ?_
        refine lv_icmp_ne (tgt := 58) hx hb dX10_canHold_43 (by decide) (fun c_123 => ?_) (fun c_123 => ?_)
        · replace h := on c_123 h
          refine lv_iload_n hx hb dX10_canHold_58 rfl (lv_at hl 2 rfl) ?_
          obtain ⟨o_124, hr_124, h⟩ := ob h
          refine vp_callSi (va_Run.run (va_runS (As := [.int x2]) (rest := []) ⟨hx, hb, hml, hown, hts⟩ (c_X10_kindOfWay l dC dI cB cC cI cJ cZ cT x2 o_124 hr_124) (va_cwS 1 hts gX10_canHold_X10_kindOfWay rfl rfl rfl (by decide +kernel) ⟨Nat.le_of_ble_eq_true rfl, Nat.le_of_ble_eq_true rfl⟩) ⟨blT, fun U hU hW => ⟨rfl, trivial⟩⟩ rfl rfl hl.1 rfl (lv_room (Nat.le_of_ble_eq_true rfl)) dX10_canHold_59 ⟨Nat.le_of_ble_eq_true rfl, Nat.le_of_ble_eq_true rfl⟩)) (fun r_124 e_124 => ?_)
          subst e_124
          refine lv_istore_n (lv' := [(3, .int o_124), (0, .ref h0), (1, .int x1), (2, .int x2)]) hx hb dX10_canHold_62 rfl hl (by decide) rfl (fun ls hl => ?_)
          refine lv_iload_n hx hb dX10_canHold_63 rfl (lv_at hl 2 rfl) ?_
          refine lv_bipush (v := 8) hx hb dX10_canHold_64 (by decide) ?_
          refine lv_icmp_ne (tgt := 86) hx hb dX10_canHold_66 (by decide) (fun c_126 => ?_) (fun c_126 => ?_)
          · replace h := on c_126 h
            refine lv_iload_n hx hb dX10_canHold_86 rfl (lv_at hl 0 rfl) ?_
            refine lv_iconst (v := -1) hx hb dX10_canHold_87 (by decide) ?_
            refine lv_icmp_eq (tgt := 103) hx hb dX10_canHold_88 (by decide) (fun c_127 => ?_) (fun c_127 => ?_)
            · replace h := op c_127 h
              refine lv_iconst (v := 0) hx hb dX10_canHold_103 (by decide) ?_
              rw [hQQ]
              exact W.zret hx hb hr rfl (fun t ht hW => ⟨_, rfl, (congrArg b2i (Option.some.inj h).symm), ht⟩) (fun q hq => absurd hq List.not_mem_nil) dX10_canHold_104
            · replace h := on c_127 h
              refine lv_iload_n hx hb dX10_canHold_91 rfl (lv_at hl 0 rfl) ?_
              refine lv_iload_n hx hb dX10_canHold_92 rfl (lv_at hl 2 rfl) ?_
              obtain ⟨o_128, hr_128, h⟩ := ob h
              refine vp_callSi (va_Run.run (va_runS (As := [.int o_124, .int x1]) (rest := []) ⟨hx, hb, hml, hown, hts⟩ (c_X10_widens l dC dI cB cC cI cJ cZ cT o_124 x1 o_128 hr_128) (va_cwS 2 hts gX10_canHold_X10_widens rfl rfl rfl (by decide +kernel) ⟨Nat.le_of_ble_eq_true rfl, Nat.le_of_ble_eq_true rfl⟩) ⟨blTX, fun U hU hW => ⟨rfl, by rw [hU]; exact SX.use hW.alike hS hX⟩⟩ rfl rfl hl.1 rfl (lv_room (Nat.le_of_ble_eq_true rfl)) dX10_canHold_93 ⟨Nat.le_of_ble_eq_true rfl, Nat.le_of_ble_eq_true rfl⟩)) (fun r_128 e_128 => ?_)
              subst e_128
              refine lv_if_eq (tgt := 103) hx hb dX10_canHold_96 (by decide) (fun c_130 => ?_) (fun c_130 => ?_)
              · replace h := op c_130 h
                refine lv_iconst (v := 0) hx hb dX10_canHold_103 (by decide) ?_
                rw [hQQ]
                exact W.zret hx hb hr rfl (fun t ht hW => ⟨_, rfl, (congrArg b2i (Option.some.inj h).symm), ht⟩) (fun q hq => absurd hq List.not_mem_nil) dX10_canHold_104
              · replace h := on c_130 h
                refine lv_iconst (v := 1) hx hb dX10_canHold_99 (by decide) ?_
                refine lv_goto (tgt := 104) hx hb dX10_canHold_100 (by decide) ?_
                rw [hQQ]
                exact W.zret hx hb hr rfl (fun t ht hW => ⟨_, rfl, (congrArg b2i (Option.some.inj h).symm), ht⟩) (fun q hq => absurd hq List.not_mem_nil) dX10_canHold_104
          · replace h := op c_126 h
            refine lv_iload_n hx hb dX10_canHold_69 rfl (lv_at hl 0 rfl) ?_
            refine lv_iconst (v := 4) hx hb dX10_canHold_70 (by decide) ?_
            refine lv_icmp_ne (tgt := 84) hx hb dX10_canHold_71 (by decide) (fun c_131 => ?_) (fun c_131 => ?_)
            · replace h := on c_131 h
              refine lv_iconst (v := 0) hx hb dX10_canHold_84 (by decide) ?_
              rw [hQQ]
              exact W.zret hx hb hr rfl (fun t ht hW => ⟨_, rfl, (congrArg b2i (Option.some.inj h).symm), ht⟩) (fun q hq => absurd hq List.not_mem_nil) dX10_canHold_85
            · replace h := op c_131 h
              refine lv_iload_n hx hb dX10_canHold_74 rfl (lv_at hl 3 rfl) ?_
              refine lv_bipush (v := 7) hx hb dX10_canHold_75 (by decide) ?_
              refine lv_icmp_le (tgt := 84) hx hb dX10_canHold_77 (by decide) (fun c_132 => ?_) (fun c_132 => ?_)
              · replace h := op c_132 h
                refine lv_iconst (v := 0) hx hb dX10_canHold_84 (by decide) ?_
                rw [hQQ]
                exact W.zret hx hb hr rfl (fun t ht hW => ⟨_, rfl, (congrArg b2i (Option.some.inj h).symm), ht⟩) (fun q hq => absurd hq List.not_mem_nil) dX10_canHold_85
              · replace h := on c_132 h
                refine lv_iconst (v := 1) hx hb dX10_canHold_80 (by decide) ?_
                refine lv_goto (tgt := 85) hx hb dX10_canHold_81 (by decide) ?_
                rw [hQQ]
                exact W.zret hx hb hr rfl (fun t ht hW => ⟨_, rfl, (congrArg b2i (Option.some.inj h).symm), ht⟩) (fun q hq => absurd hq List.not_mem_nil) dX10_canHold_85
        · replace h := op c_123 h
          refine lv_iload_n hx hb dX10_canHold_46 rfl (lv_at hl 2 rfl) ?_
          refine lv_bipush (v := 20) hx hb dX10_canHold_47 (by decide) ?_
          refine lv_icmp_ne (tgt := 56) hx hb dX10_canHold_49 (by decide) (fun c_133 => ?_) (fun c_133 => ?_)
          · replace h := on c_133 h
            refine lv_iconst (v := 0) hx hb dX10_canHold_56 (by decide) ?_
            rw [hQQ]
            exact W.zret hx hb hr rfl (fun t ht hW => ⟨_, rfl, (congrArg b2i (Option.some.inj h).symm), ht⟩) (fun q hq => absurd hq List.not_mem_nil) dX10_canHold_57
          · replace h := op c_133 h
            refine lv_iconst (v := 1) hx hb dX10_canHold_52 (by decide) ?_
            refine lv_goto (tgt := 57) hx hb dX10_canHold_53 (by decide) ?_
            rw [hQQ]
            exact W.zret hx hb hr rfl (fun t ht hW => ⟨_, rfl, (congrArg b2i (Option.some.inj h).symm), ht⟩) (fun q hq => absurd hq List.not_mem_nil) dX10_canHold_57
      · replace h := op c_122 h
        refine lv_iload_n hx hb dX10_canHold_28 rfl (lv_at hl 2 rfl) ?_
        refine lv_bipush (v := 19) hx hb dX10_canHold_29 (by decide) ?_
        refine lv_icmp_ne (tgt := 38) hx hb dX10_canHold_31 (by decide) (fun c_134 => ?_) (fun c_134 => ?_)
        · replace h := on c_134 h
          refine lv_iconst (v := 0) hx hb dX10_canHold_38 (by decide) ?_
          rw [hQQ]
          exact W.zret hx hb hr rfl (fun t ht hW => ⟨_, rfl, (congrArg b2i (Option.some.inj h).symm), ht⟩) (fun q hq => absurd hq List.not_mem_nil) dX10_canHold_39
        · replace h := op c_134 h
          refine lv_iconst (v := 1) hx hb dX10_canHold_34 (by decide) ?_
          refine lv_goto (tgt := 39) hx hb dX10_canHold_35 (by decide) ?_
          rw [hQQ]
          exact W.zret hx hb hr rfl (fun t ht hW => ⟨_, rfl, (congrArg b2i (Option.some.inj h).symm), ht⟩) (fun q hq => absurd hq List.not_mem_nil) dX10_canHold_39
    · replace h := on c_121 h
      refine lv_iload_n hx hb dX10_canHold_14 rfl (lv_at hl 2 rfl) ?_
      refine lv_bipush (v := 21) hx hb dX10_canHold_15 (by decide) ?_
      refine lv_icmp_ne (tgt := 22) hx hb dX10_canHold_17 (by decide) (fun c_135 => ?_) (fun c_135 => ?_)
      · replace h := on c_135 h
        refine lv_iload_n hx hb dX10_canHold_22 rfl (lv_at hl 1 rfl) ?_
        refine lv_bipush (v := 9) hx hb dX10_canHold_23 (by decide) ?_
        refine lv_icmp_ne (tgt := 40) hx hb dX10_canHold_25 (by decide) (fun c_136 => ?_) (fun c_136 => ?_)
        · replace h := on c_136 h
          refine lv_iload_n hx hb dX10_canHold_40 rfl (lv_at hl 1 rfl) ?_
          refine lv_bipush (v := 10) hx hb dX10_canHold_41 (by decide) ?_
          refine lv_icmp_ne (tgt := 58) hx hb dX10_canHold_43 (by decide) (fun c_137 => ?_) (fun c_137 => ?_)
          · replace h := on c_137 h
            refine lv_iload_n hx hb dX10_canHold_58 rfl (lv_at hl 2 rfl) ?_
            obtain ⟨o_138, hr_138, h⟩ := ob h
            refine vp_callSi (va_Run.run (va_runS (As := [.int x2]) (rest := []) ⟨hx, hb, hml, hown, hts⟩ (c_X10_kindOfWay l dC dI cB cC cI cJ cZ cT x2 o_138 hr_138) (va_cwS 1 hts gX10_canHold_X10_kindOfWay rfl rfl rfl (by decide +kernel) ⟨Nat.le_of_ble_eq_true rfl, Nat.le_of_ble_eq_true rfl⟩) ⟨blT, fun U hU hW => ⟨rfl, trivial⟩⟩ rfl rfl hl.1 rfl (lv_room (Nat.le_of_ble_eq_true rfl)) dX10_canHold_59 ⟨Nat.le_of_ble_eq_true rfl, Nat.le_of_ble_eq_true rfl⟩)) (fun r_138 e_138 => ?_)
            subst e_138
            refine lv_istore_n (lv' := [(3, .int o_138), (0, .ref h0), (1, .int x1), (2, .int x2)]) hx hb dX10_canHold_62 rfl hl (by decide) rfl (fun ls hl => ?_)
            refine lv_iload_n hx hb dX10_canHold_63 rfl (lv_at hl 2 rfl) ?_
            refine lv_bipush (v := 8) hx hb dX10_canHold_64 (by decide) ?_
            refine lv_icmp_ne (tgt := 86) hx hb dX10_canHold_66 (by decide) (fun c_140 => ?_) (fun c_140 => ?_)
            · replace h := on c_140 h
              refine lv_iload_n hx hb dX10_canHold_86 rfl (lv_at hl 0 rfl) ?_
              refine lv_iconst (v := -1) hx hb dX10_canHold_87 (by decide) ?_
              refine lv_icmp_eq (tgt := 103) hx hb dX10_canHold_88 (by decide) (fun c_141 => ?_) (fun c_141 => ?_)
              · replace h := op c_141 h
                refine lv_iconst (v := 0) hx hb dX10_canHold_103 (by decide) ?_
                rw [hQQ]
                exact W.zret hx hb hr rfl (fun t ht hW => ⟨_, rfl, (congrArg b2i (Option.some.inj h).symm), ht⟩) (fun q hq => absurd hq List.not_mem_nil) dX10_canHold_104
              · replace h := on c_141 h
                refine lv_iload_n hx hb dX10_canHold_91 rfl (lv_at hl 0 rfl) ?_
                refine lv_iload_n hx hb dX10_canHold_92 rfl (lv_at hl 2 rfl) ?_
                obtain ⟨o_142, hr_142, h⟩ := ob h
                refine vp_callSi (va_Run.run (va_runS (As := [.int o_138, .int x1]) (rest := []) ⟨hx, hb, hml, hown, hts⟩ (c_X10_widens l dC dI cB cC cI cJ cZ cT o_138 x1 o_142 hr_142) (va_cwS 2 hts gX10_canHold_X10_widens rfl rfl rfl (by decide +kernel) ⟨Nat.le_of_ble_eq_true rfl, Nat.le_of_ble_eq_true rfl⟩) ⟨blTX, fun U hU hW => ⟨rfl, by rw [hU]; exact SX.use hW.alike hS hX⟩⟩ rfl rfl hl.1 rfl (lv_room (Nat.le_of_ble_eq_true rfl)) dX10_canHold_93 ⟨Nat.le_of_ble_eq_true rfl, Nat.le_of_ble_eq_true rfl⟩)) (fun r_142 e_142 => ?_)
                subst e_142
                refine lv_if_eq (tgt := 103) hx hb dX10_canHold_96 (by decide) (fun c_144 => ?_) (fun c_144 => ?_)
                · replace h := op c_144 h
                  refine lv_iconst (v := 0) hx hb dX10_canHold_103 (by decide) ?_
                  rw [hQQ]
                  exact W.zret hx hb hr rfl (fun t ht hW => ⟨_, rfl, (congrArg b2i (Option.some.inj h).symm), ht⟩) (fun q hq => absurd hq List.not_mem_nil) dX10_canHold_104
                · replace h := on c_144 h
                  refine lv_iconst (v := 1) hx hb dX10_canHold_99 (by decide) ?_
                  refine lv_goto (tgt := 104) hx hb dX10_canHold_100 (by decide) ?_
                  rw [hQQ]
                  exact W.zret hx hb hr rfl (fun t ht hW => ⟨_, rfl, (congrArg b2i (Option.some.inj h).symm), ht⟩) (fun q hq => absurd hq List.not_mem_nil) dX10_canHold_104
            · replace h := op c_140 h
              refine lv_iload_n hx hb dX10_canHold_69 rfl (lv_at hl 0 rfl) ?_
              refine lv_iconst (v := 4) hx hb dX10_canHold_70 (by decide) ?_
              refine lv_icmp_ne (tgt := 84) hx hb dX10_canHold_71 (by decide) (fun c_145 => ?_) (fun c_145 => ?_)
              · replace h := on c_145 h
                refine lv_iconst (v := 0) hx hb dX10_canHold_84 (by decide) ?_
                rw [hQQ]
                exact W.zret hx hb hr rfl (fun t ht hW => ⟨_, rfl, (congrArg b2i (Option.some.inj h).symm), ht⟩) (fun q hq => absurd hq List.not_mem_nil) dX10_canHold_85
              · replace h := op c_145 h
                refine lv_iload_n hx hb dX10_canHold_74 rfl (lv_at hl 3 rfl) ?_
                refine lv_bipush (v := 7) hx hb dX10_canHold_75 (by decide) ?_
                refine lv_icmp_le (tgt := 84) hx hb dX10_canHold_77 (by decide) (fun c_146 => ?_) (fun c_146 => ?_)
                · replace h := op c_146 h
                  refine lv_iconst (v := 0) hx hb dX10_canHold_84 (by decide) ?_
                  rw [hQQ]
                  exact W.zret hx hb hr rfl (fun t ht hW => ⟨_, rfl, (congrArg b2i (Option.some.inj h).symm), ht⟩) (fun q hq => absurd hq List.not_mem_nil) dX10_canHold_85
                · replace h := on c_146 h
                  refine lv_iconst (v := 1) hx hb dX10_canHold_80 (by decide) ?_
                  refine lv_goto (tgt := 85) hx hb dX10_canHold_81 (by decide) ?_
                  rw [hQQ]
                  exact W.zret hx hb hr rfl (fun t ht hW => ⟨_, rfl, (congrArg b2i (Option.some.inj h).symm), ht⟩) (fun q hq => absurd hq List.not_mem_nil) dX10_canHold_85
          · replace h := op c_137 h
            refine lv_iload_n hx hb dX10_canHold_46 rfl (lv_at hl 2 rfl) ?_
            refine lv_bipush (v := 20) hx hb dX10_canHold_47 (by decide) ?_
            refine lv_icmp_ne (tgt := 56) hx hb dX10_canHold_49 (by decide) (fun c_147 => ?_) (fun c_147 => ?_)
            · replace h := on c_147 h
              refine lv_iconst (v := 0) hx hb dX10_canHold_56 (by decide) ?_
              rw [hQQ]
              exact W.zret hx hb hr rfl (fun t ht hW => ⟨_, rfl, (congrArg b2i (Option.some.inj h).symm), ht⟩) (fun q hq => absurd hq List.not_mem_nil) dX10_canHold_57
            · replace h := op c_147 h
              refine lv_iconst (v := 1) hx hb dX10_canHold_52 (by decide) ?_
              refine lv_goto (tgt := 57) hx hb dX10_canHold_53 (by decide) ?_
              rw [hQQ]
              exact W.zret hx hb hr rfl (fun t ht hW => ⟨_, rfl, (congrArg b2i (Option.some.inj h).symm), ht⟩) (fun q hq => absurd hq List.not_mem_nil) dX10_canHold_57
        · replace h := op c_136 h
          refine lv_iload_n hx hb dX10_canHold_28 rfl (lv_at hl 2 rfl) ?_
          refine lv_bipush (v := 19) hx hb dX10_canHold_29 (by decide) ?_
          refine lv_icmp_ne (tgt := 38) hx hb dX10_canHold_31 (by decide) (fun c_148 => ?_) (fun c_148 => ?_)
          · replace h := on c_148 h
            refine lv_iconst (v := 0) hx hb dX10_canHold_38 (by decide) ?_
            rw [hQQ]
            exact W.zret hx hb hr rfl (fun t ht hW => ⟨_, rfl, (congrArg b2i (Option.some.inj h).symm), ht⟩) (fun q hq => absurd hq List.not_mem_nil) dX10_canHold_39
          · replace h := op c_148 h
            refine lv_iconst (v := 1) hx hb dX10_canHold_34 (by decide) ?_
            refine lv_goto (tgt := 39) hx hb dX10_canHold_35 (by decide) ?_
            rw [hQQ]
            exact W.zret hx hb hr rfl (fun t ht hW => ⟨_, rfl, (congrArg b2i (Option.some.inj h).symm), ht⟩) (fun q hq => absurd hq List.not_mem_nil) dX10_canHold_39
      · replace h := op c_135 h
        refine lv_iconst (v := 1) hx hb dX10_canHold_20 (by decide) ?_
        rw [hQQ]
        exact W.zret hx hb hr rfl (fun t ht hW => ⟨_, rfl, (congrArg b2i (Option.some.inj h).symm), ht⟩) (fun q hq => absurd hq List.not_mem_nil) dX10_canHold_21
  · replace h := on c_120 h
    refine lv_iconst (v := 0) hx hb dX10_canHold_6 (by decide) ?_
    rw [hQQ]
    exact W.zret hx hb hr rfl (fun t ht hW => ⟨_, rfl, (congrArg b2i (Option.some.inj h).symm), ht⟩) (fun q hq => absurd hq List.not_mem_nil) dX10_canHold_7
def f_X10_whyNoRow (v_now : Nat → Int64) (x1 : Int32) : Option Int32 :=
  ((f_X10_kindOf v_now x1).bind (fun o_149 => (if o_149 = (11 : Int32) then (some (2 : Int32)) else ((f_X10_kindOf v_now x1).bind (fun o_152 => (if o_152 < (12 : Int32) then (some (0 : Int32)) else (some (3 : Int32))))))))
abbrev rm_X10_whyNoRow : Room := { frames := 1, cells := 0, slots := 0, locals := 21 }
set_option maxHeartbeats 4000000 in
set_option maxRecDepth 100000 in
theorem c_X10_whyNoRow (l : Launch) (dC : Nat → ClassId) (dI : Nat → Nat → Nat) (cB cC cI cJ cZ cT : ClassId) (h0 q_now q_text q_row q_read q_ranks q_distinct q_proper q_line q_order q_then q_bestOrder q_lineThen q_undos q_was q_kept q_isKept : Nat) (v_typed : Int32) (v_rowMany : Int32) (v_thrown : Int32) (v_length : Int32) (v_at : Int32) (v_wrong : Int32) (v_properMany : Int32) (v_orderMany : Int32) (v_undoMany : Int32) (v_drawn : Int32) (v_now : Nat → Int64) (x1 : Int32) (o : Int32) (hf : f_X10_whyNoRow v_now x1 = some o) : Met l yX10_whyNoRow wsX10_whyNoRow rm_X10_whyNoRow (va_Pc [.ref h0, .int x1] (fun U => va_P (dC, dI) vwCl [(h0, .inr (8, [.ref q_now, .ref q_text, .int v_typed, .ref q_row, .int v_rowMany, .int v_thrown, .int v_length, .int v_at, .int v_wrong, .ref q_read, .ref q_ranks, .ref q_distinct, .ref q_proper, .int v_properMany, .ref q_line, .ref q_order, .int v_orderMany, .ref q_then, .ref q_bestOrder, .ref q_lineThen, .ref q_undos, .ref q_was, .int v_undoMany, .int v_drawn, .ref q_kept, .ref q_isKept])), (q_now, .inl (cJ, 120, .inr (.inl v_now)))] U.heap ∧ va_K (dC, dI) vwCl (tyA cB cC cI cJ cZ cT) U)) (vp_Si (fun r => o = r)) 0 0 (fun _ => False) := by
  refine Met.ofW (cc := cX10_whyNoRow) (maxL := 2) (ret := (some .int)) (by decide) rfl ?_
  intro p e s m args below meth c s₁ B hml hv
  obtain ⟨hav, hP, hK⟩ := hv
  have hx := B.exec
  have hb := B.bytes
  have hr := B.returns
  have hts := atoms_spec (ws := wsX10_whyNoRow) B.pre
  have hown : s.vm.findClass RX10 = some m.cls := findClass_of_methodNamed B.named
  have hlocks := B.notSynchronized
  refine wstart (rm := rm_X10_whyNoRow) hav (Nat.le_of_ble_eq_true rfl) (fun QQ ls hQQ hl => ?_)
  have hl : lv_has ls 2 [(0, .ref h0), (1, .int x1)] := hl
  have h := hf
  unfold f_X10_whyNoRow at h
  refine lv_aload_n hx hb dX10_whyNoRow_0 rfl (lv_at hl 0 rfl) ?_
  refine lv_iload_n hx hb dX10_whyNoRow_1 rfl (lv_at hl 1 rfl) ?_
  obtain ⟨o_149, hr_149, h⟩ := ob h
  refine vp_callSi (va_Run.run (va_runV (As := [.int x1]) (rest := []) ⟨hx, hb, hml, hown, hts⟩ (c_X10_kindOf l dC dI cB cC cI cJ cZ cT h0 q_now q_text q_row q_read q_ranks q_distinct q_proper q_line q_order q_then q_bestOrder q_lineThen q_undos q_was q_kept q_isKept v_typed v_rowMany v_thrown v_length v_at v_wrong v_properMany v_orderMany v_undoMany v_drawn v_now x1 o_149 hr_149) (cwV 1 hts gX10_whyNoRow_X10_kindOf rfl rfl rfl (by decide +kernel) ⟨Nat.le_of_ble_eq_true rfl, Nat.le_of_ble_eq_true rfl⟩) ⟨blR, va_recv hK hP (ci := 8) (q0 := 0) rfl rfl, fun U hU hW => ⟨rfl, by rw [hU]; exact hP.sub [0, 1] rfl, va_K.moved hW.alike hK⟩⟩ rfl rfl hl.1 rfl (lv_room (Nat.le_of_ble_eq_true rfl)) dX10_whyNoRow_2 ⟨Nat.le_of_ble_eq_true rfl, Nat.le_of_ble_eq_true rfl⟩)) (fun r_149 e_149 => ?_)
  subst e_149
  refine lv_bipush (v := 11) hx hb dX10_whyNoRow_5 (by decide) ?_
  refine lv_icmp_ne (tgt := 14) hx hb dX10_whyNoRow_7 (by decide) (fun c_151 => ?_) (fun c_151 => ?_)
  · replace h := on c_151 h
    refine lv_aload_n hx hb dX10_whyNoRow_14 rfl (lv_at hl 0 rfl) ?_
    refine lv_iload_n hx hb dX10_whyNoRow_15 rfl (lv_at hl 1 rfl) ?_
    obtain ⟨o_152, hr_152, h⟩ := ob h
    refine vp_callSi (va_Run.run (va_runV (As := [.int x1]) (rest := []) ⟨hx, hb, hml, hown, hts⟩ (c_X10_kindOf l dC dI cB cC cI cJ cZ cT h0 q_now q_text q_row q_read q_ranks q_distinct q_proper q_line q_order q_then q_bestOrder q_lineThen q_undos q_was q_kept q_isKept v_typed v_rowMany v_thrown v_length v_at v_wrong v_properMany v_orderMany v_undoMany v_drawn v_now x1 o_152 hr_152) (cwV 1 hts gX10_whyNoRow_X10_kindOf rfl rfl rfl (by decide +kernel) ⟨Nat.le_of_ble_eq_true rfl, Nat.le_of_ble_eq_true rfl⟩) ⟨blR, va_recv hK hP (ci := 8) (q0 := 0) rfl rfl, fun U hU hW => ⟨rfl, by rw [hU]; exact hP.sub [0, 1] rfl, va_K.moved hW.alike hK⟩⟩ rfl rfl hl.1 rfl (lv_room (Nat.le_of_ble_eq_true rfl)) dX10_whyNoRow_16 ⟨Nat.le_of_ble_eq_true rfl, Nat.le_of_ble_eq_true rfl⟩)) (fun r_152 e_152 => ?_)
    subst e_152
    refine lv_bipush (v := 12) hx hb dX10_whyNoRow_19 (by decide) ?_
    refine lv_icmp_lt (tgt := 28) hx hb dX10_whyNoRow_21 (by decide) (fun c_154 => ?_) (fun c_154 => ?_)
    · replace h := op c_154 h
      refine lv_iconst (v := 0) hx hb dX10_whyNoRow_28 (by decide) ?_
      rw [hQQ]
      exact W.iret hx hb hr (fun t ht hW => ⟨_, rfl, (Option.some.inj h).symm, ht⟩) (fun q hq => absurd hq List.not_mem_nil) dX10_whyNoRow_29
    · replace h := on c_154 h
      refine lv_iconst (v := 3) hx hb dX10_whyNoRow_24 (by decide) ?_
      refine lv_goto (tgt := 29) hx hb dX10_whyNoRow_25 (by decide) ?_
      rw [hQQ]
      exact W.iret hx hb hr (fun t ht hW => ⟨_, rfl, (Option.some.inj h).symm, ht⟩) (fun q hq => absurd hq List.not_mem_nil) dX10_whyNoRow_29
  · replace h := op c_151 h
    refine lv_iconst (v := 2) hx hb dX10_whyNoRow_10 (by decide) ?_
    refine lv_goto (tgt := 29) hx hb dX10_whyNoRow_11 (by decide) ?_
    rw [hQQ]
    exact W.iret hx hb hr (fun t ht hW => ⟨_, rfl, (Option.some.inj h).symm, ht⟩) (fun q hq => absurd hq List.not_mem_nil) dX10_whyNoRow_29
def f_X10_whyNot (v_now : Nat → Int64) (x1 : Int32) (x2 : Int32) (x3 : Int32) (x4 : Int32) : Option Int32 :=
  ((f_X10_whyNoRow v_now x1).bind (fun o_155 => (if o_155 ≤ 0 then (if (8 : Int32) ≤ x3 then ((f_X10_isRow v_now x2).bind (fun o_159 => (if (b2i o_159) = 0 then (some (5 : Int32)) else (if x4 = 0 then (some (6 : Int32)) else (some (0 : Int32)))))) else ((f_X10_kindOf v_now x1).bind (fun o_163 => (if o_163 < (8 : Int32) then ((f_X10_isRow v_now x2).bind (fun o_166 => (if (b2i o_166) = 0 then (some (5 : Int32)) else (if x4 = 0 then (some (6 : Int32)) else (some (0 : Int32)))))) else (some (4 : Int32)))))) else (some o_155))))
abbrev rm_X10_whyNot : Room := { frames := 2, cells := 0, slots := 0, locals := 43 }
set_option maxHeartbeats 4000000 in
set_option maxRecDepth 100000 in
theorem c_X10_whyNot (l : Launch) (dC : Nat → ClassId) (dI : Nat → Nat → Nat) (cB cC cI cJ cZ cT : ClassId) (h0 q_now q_text q_row q_read q_ranks q_distinct q_proper q_line q_order q_then q_bestOrder q_lineThen q_undos q_was q_kept q_isKept : Nat) (v_typed : Int32) (v_rowMany : Int32) (v_thrown : Int32) (v_length : Int32) (v_at : Int32) (v_wrong : Int32) (v_properMany : Int32) (v_orderMany : Int32) (v_undoMany : Int32) (v_drawn : Int32) (v_now : Nat → Int64) (x1 : Int32) (x2 : Int32) (x3 : Int32) (x4 : Int32) (o : Int32) (hf : f_X10_whyNot v_now x1 x2 x3 x4 = some o) : Met l yX10_whyNot wsX10_whyNot rm_X10_whyNot (va_Pc [.ref h0, .int x1, .int x2, .int x3, .int x4] (fun U => va_P (dC, dI) vwCl [(h0, .inr (8, [.ref q_now, .ref q_text, .int v_typed, .ref q_row, .int v_rowMany, .int v_thrown, .int v_length, .int v_at, .int v_wrong, .ref q_read, .ref q_ranks, .ref q_distinct, .ref q_proper, .int v_properMany, .ref q_line, .ref q_order, .int v_orderMany, .ref q_then, .ref q_bestOrder, .ref q_lineThen, .ref q_undos, .ref q_was, .int v_undoMany, .int v_drawn, .ref q_kept, .ref q_isKept])), (q_now, .inl (cJ, 120, .inr (.inl v_now)))] U.heap ∧ va_K (dC, dI) vwCl (tyA cB cC cI cJ cZ cT) U)) (vp_Si (fun r => o = r)) 0 0 (fun _ => False) := by
  refine Met.ofW (cc := cX10_whyNot) (maxL := 6) (ret := (some .int)) (by decide) rfl ?_
  intro p e s m args below meth c s₁ B hml hv
  obtain ⟨hav, hP, hK⟩ := hv
  have hx := B.exec
  have hb := B.bytes
  have hr := B.returns
  have hts := atoms_spec (ws := wsX10_whyNot) B.pre
  have hown : s.vm.findClass RX10 = some m.cls := findClass_of_methodNamed B.named
  have hlocks := B.notSynchronized
  refine wstart (rm := rm_X10_whyNot) hav (Nat.le_of_ble_eq_true rfl) (fun QQ ls hQQ hl => ?_)
  have hl : lv_has ls 6 [(0, .ref h0), (1, .int x1), (2, .int x2), (3, .int x3), (4, .int x4)] := hl
  have h := hf
  unfold f_X10_whyNot at h
  refine lv_aload_n hx hb dX10_whyNot_0 rfl (lv_at hl 0 rfl) ?_
  refine lv_iload_n hx hb dX10_whyNot_1 rfl (lv_at hl 1 rfl) ?_
  obtain ⟨o_155, hr_155, h⟩ := ob h
  refine vp_callSi (va_Run.run (va_runV (As := [.int x1]) (rest := []) ⟨hx, hb, hml, hown, hts⟩ (c_X10_whyNoRow l dC dI cB cC cI cJ cZ cT h0 q_now q_text q_row q_read q_ranks q_distinct q_proper q_line q_order q_then q_bestOrder q_lineThen q_undos q_was q_kept q_isKept v_typed v_rowMany v_thrown v_length v_at v_wrong v_properMany v_orderMany v_undoMany v_drawn v_now x1 o_155 hr_155) (cwV 1 hts gX10_whyNot_X10_whyNoRow rfl rfl rfl (by decide +kernel) ⟨Nat.le_of_ble_eq_true rfl, Nat.le_of_ble_eq_true rfl⟩) ⟨blR, va_recv hK hP (ci := 8) (q0 := 0) rfl rfl, fun U hU hW => ⟨rfl, by rw [hU]; exact hP.sub [0, 1] rfl, va_K.moved hW.alike hK⟩⟩ rfl rfl hl.1 rfl (lv_room (Nat.le_of_ble_eq_true rfl)) dX10_whyNot_2 ⟨Nat.le_of_ble_eq_true rfl, Nat.le_of_ble_eq_true rfl⟩)) (fun r_155 e_155 => ?_)
  subst e_155
  refine lv_istore (lv' := [(5, .int o_155), (0, .ref h0), (1, .int x1), (2, .int x2), (3, .int x3), (4, .int x4)]) hx hb dX10_whyNot_5 hl (by decide) rfl (fun ls hl => ?_)
  refine lv_iload hx hb dX10_whyNot_7 (lv_at hl 0 rfl) ?_
  refine lv_if_le (tgt := 15) hx hb dX10_whyNot_9 (by decide) (fun c_157 => ?_) (fun c_157 => ?_)
  · replace h := op c_157 h
    refine lv_iload_n hx hb dX10_whyNot_15 rfl (lv_at hl 4 rfl) ?_
    refine lv_bipush (v := 8) hx hb dX10_whyNot_16 (by decide) ?_
    refine lv_icmp_ge (tgt := 33) hx hb dX10_whyNot_18 (by decide) (fun c_158 => ?_) (fun c_158 => ?_)
    · replace h := op c_158 h
      refine lv_aload_n hx hb dX10_whyNot_33 rfl (lv_at hl 1 rfl) ?_
      refine lv_iload_n hx hb dX10_whyNot_34 rfl (lv_at hl 3 rfl) ?_
      obtain ⟨o_159, hr_159, h⟩ := ob h
      refine vp_callSi (va_Run.run (va_runV (As := [.int x2]) (rest := []) ⟨hx, hb, hml, hown, hts⟩ (c_X10_isRow l dC dI cB cC cI cJ cZ cT h0 q_now q_text q_row q_read q_ranks q_distinct q_proper q_line q_order q_then q_bestOrder q_lineThen q_undos q_was q_kept q_isKept v_typed v_rowMany v_thrown v_length v_at v_wrong v_properMany v_orderMany v_undoMany v_drawn v_now x2 o_159 hr_159) (cwV 1 hts gX10_whyNot_X10_isRow rfl rfl rfl (by decide +kernel) ⟨Nat.le_of_ble_eq_true rfl, Nat.le_of_ble_eq_true rfl⟩) ⟨blR, va_recv hK hP (ci := 8) (q0 := 0) rfl rfl, fun U hU hW => ⟨rfl, by rw [hU]; exact hP.sub [0, 1] rfl, va_K.moved hW.alike hK⟩⟩ rfl rfl hl.1 rfl (lv_room (Nat.le_of_ble_eq_true rfl)) dX10_whyNot_35 ⟨Nat.le_of_ble_eq_true rfl, Nat.le_of_ble_eq_true rfl⟩)) (fun r_159 e_159 => ?_)
      subst e_159
      refine lv_if_ne (tgt := 45) hx hb dX10_whyNot_38 (by decide) (fun c_161 => ?_) (fun c_161 => ?_)
      · replace h := on c_161 h
        refine lv_iload hx hb dX10_whyNot_45 (lv_at hl 5 rfl) ?_
        refine lv_if_eq (tgt := 54) hx hb dX10_whyNot_47 (by decide) (fun c_162 => ?_) (fun c_162 => ?_)
        · replace h := op c_162 h
          refine lv_bipush (v := 6) hx hb dX10_whyNot_54 (by decide) ?_
          rw [hQQ]
          exact W.iret hx hb hr (fun t ht hW => ⟨_, rfl, (Option.some.inj h).symm, ht⟩) (fun q hq => absurd hq List.not_mem_nil) dX10_whyNot_56
        · replace h := on c_162 h
          refine lv_iconst (v := 0) hx hb dX10_whyNot_50 (by decide) ?_
          refine lv_goto (tgt := 56) hx hb dX10_whyNot_51 (by decide) ?_
          rw [hQQ]
          exact W.iret hx hb hr (fun t ht hW => ⟨_, rfl, (Option.some.inj h).symm, ht⟩) (fun q hq => absurd hq List.not_mem_nil) dX10_whyNot_56
      · replace h := op c_161 h
        refine lv_iconst (v := 5) hx hb dX10_whyNot_41 (by decide) ?_
        refine lv_goto (tgt := 56) hx hb dX10_whyNot_42 (by decide) ?_
        rw [hQQ]
        exact W.iret hx hb hr (fun t ht hW => ⟨_, rfl, (Option.some.inj h).symm, ht⟩) (fun q hq => absurd hq List.not_mem_nil) dX10_whyNot_56
    · replace h := on c_158 h
      refine lv_aload_n hx hb dX10_whyNot_21 rfl (lv_at hl 1 rfl) ?_
      refine lv_iload_n hx hb dX10_whyNot_22 rfl (lv_at hl 2 rfl) ?_
      obtain ⟨o_163, hr_163, h⟩ := ob h
      refine vp_callSi (va_Run.run (va_runV (As := [.int x1]) (rest := []) ⟨hx, hb, hml, hown, hts⟩ (c_X10_kindOf l dC dI cB cC cI cJ cZ cT h0 q_now q_text q_row q_read q_ranks q_distinct q_proper q_line q_order q_then q_bestOrder q_lineThen q_undos q_was q_kept q_isKept v_typed v_rowMany v_thrown v_length v_at v_wrong v_properMany v_orderMany v_undoMany v_drawn v_now x1 o_163 hr_163) (cwV 1 hts gX10_whyNot_X10_kindOf rfl rfl rfl (by decide +kernel) ⟨Nat.le_of_ble_eq_true rfl, Nat.le_of_ble_eq_true rfl⟩) ⟨blR, va_recv hK hP (ci := 8) (q0 := 0) rfl rfl, fun U hU hW => ⟨rfl, by rw [hU]; exact hP.sub [0, 1] rfl, va_K.moved hW.alike hK⟩⟩ rfl rfl hl.1 rfl (lv_room (Nat.le_of_ble_eq_true rfl)) dX10_whyNot_23 ⟨Nat.le_of_ble_eq_true rfl, Nat.le_of_ble_eq_true rfl⟩)) (fun r_163 e_163 => ?_)
      subst e_163
      refine lv_bipush (v := 8) hx hb dX10_whyNot_26 (by decide) ?_
      refine lv_icmp_lt (tgt := 33) hx hb dX10_whyNot_28 (by decide) (fun c_165 => ?_) (fun c_165 => ?_)
      · replace h := op c_165 h
        refine lv_aload_n hx hb dX10_whyNot_33 rfl (lv_at hl 1 rfl) ?_
        refine lv_iload_n hx hb dX10_whyNot_34 rfl (lv_at hl 3 rfl) ?_
        obtain ⟨o_166, hr_166, h⟩ := ob h
        refine vp_callSi (va_Run.run (va_runV (As := [.int x2]) (rest := []) ⟨hx, hb, hml, hown, hts⟩ (c_X10_isRow l dC dI cB cC cI cJ cZ cT h0 q_now q_text q_row q_read q_ranks q_distinct q_proper q_line q_order q_then q_bestOrder q_lineThen q_undos q_was q_kept q_isKept v_typed v_rowMany v_thrown v_length v_at v_wrong v_properMany v_orderMany v_undoMany v_drawn v_now x2 o_166 hr_166) (cwV 1 hts gX10_whyNot_X10_isRow rfl rfl rfl (by decide +kernel) ⟨Nat.le_of_ble_eq_true rfl, Nat.le_of_ble_eq_true rfl⟩) ⟨blR, va_recv hK hP (ci := 8) (q0 := 0) rfl rfl, fun U hU hW => ⟨rfl, by rw [hU]; exact hP.sub [0, 1] rfl, va_K.moved hW.alike hK⟩⟩ rfl rfl hl.1 rfl (lv_room (Nat.le_of_ble_eq_true rfl)) dX10_whyNot_35 ⟨Nat.le_of_ble_eq_true rfl, Nat.le_of_ble_eq_true rfl⟩)) (fun r_166 e_166 => ?_)
        subst e_166
        refine lv_if_ne (tgt := 45) hx hb dX10_whyNot_38 (by decide) (fun c_168 => ?_) (fun c_168 => ?_)
        · replace h := on c_168 h
          refine lv_iload hx hb dX10_whyNot_45 (lv_at hl 5 rfl) ?_
          refine lv_if_eq (tgt := 54) hx hb dX10_whyNot_47 (by decide) (fun c_169 => ?_) (fun c_169 => ?_)
          · replace h := op c_169 h
            refine lv_bipush (v := 6) hx hb dX10_whyNot_54 (by decide) ?_
            rw [hQQ]
            exact W.iret hx hb hr (fun t ht hW => ⟨_, rfl, (Option.some.inj h).symm, ht⟩) (fun q hq => absurd hq List.not_mem_nil) dX10_whyNot_56
          · replace h := on c_169 h
            refine lv_iconst (v := 0) hx hb dX10_whyNot_50 (by decide) ?_
            refine lv_goto (tgt := 56) hx hb dX10_whyNot_51 (by decide) ?_
            rw [hQQ]
            exact W.iret hx hb hr (fun t ht hW => ⟨_, rfl, (Option.some.inj h).symm, ht⟩) (fun q hq => absurd hq List.not_mem_nil) dX10_whyNot_56
        · replace h := op c_168 h
          refine lv_iconst (v := 5) hx hb dX10_whyNot_41 (by decide) ?_
          refine lv_goto (tgt := 56) hx hb dX10_whyNot_42 (by decide) ?_
          rw [hQQ]
          exact W.iret hx hb hr (fun t ht hW => ⟨_, rfl, (Option.some.inj h).symm, ht⟩) (fun q hq => absurd hq List.not_mem_nil) dX10_whyNot_56
      · replace h := on c_165 h
        refine lv_iconst (v := 4) hx hb dX10_whyNot_31 (by decide) ?_
        rw [hQQ]
        exact W.iret hx hb hr (fun t ht hW => ⟨_, rfl, (Option.some.inj h).symm, ht⟩) (fun q hq => absurd hq List.not_mem_nil) dX10_whyNot_32
  · replace h := on c_157 h
    refine lv_iload hx hb dX10_whyNot_12 (lv_at hl 0 rfl) ?_
    rw [hQQ]
    exact W.iret hx hb hr (fun t ht hW => ⟨_, rfl, (Option.some.inj h).symm, ht⟩) (fun q hq => absurd hq List.not_mem_nil) dX10_whyNot_14
def f_X10_textOf (x0 : Int32) : Option Int64 :=
  (some (((x0 &&& (2147483647 : Int32)) - (x0 &&& (2147483647 : Int32)) / (26 : Int32) * (26 : Int32)) + ((26 : Int32) * (((x0 &&& (2147483647 : Int32)) / (26 : Int32)) - ((x0 &&& (2147483647 : Int32)) / (26 : Int32)) / (3 : Int32) * (3 : Int32)))).toInt64)
abbrev rm_X10_textOf : Room := { frames := 0, cells := 0, slots := 0, locals := 0 }
set_option maxHeartbeats 4000000 in
set_option maxRecDepth 100000 in
theorem c_X10_textOf (l : Launch) (dC : Nat → ClassId) (dI : Nat → Nat → Nat) (cB cC cI cJ cZ cT : ClassId) (x0 : Int32) (o : Int64) (hf : f_X10_textOf x0 = some o) : Met l yX10_textOf wsX10_textOf rm_X10_textOf (va_Pc [.int x0] (fun _ => True)) (vp_Sl (fun r => o = r)) 0 0 (fun _ => False) := by
  refine Met.ofW (cc := cX10_textOf) (maxL := 2) (ret := (some .long)) (by decide) rfl ?_
  intro p e s m args below meth c s₁ B hml hv
  obtain ⟨hav, -⟩ := hv
  have hx := B.exec
  have hb := B.bytes
  have hr := B.returns
  have hts := atoms_spec (ws := wsX10_textOf) B.pre
  have hown : s.vm.findClass RX10 = some m.cls := findClass_of_methodNamed B.named
  have hlocks := B.notSynchronized
  refine wstart (rm := rm_X10_textOf) hav (Nat.le_of_ble_eq_true rfl) (fun QQ ls hQQ hl => ?_)
  have hl : lv_has ls 2 [(0, .int x0)] := hl
  have h := hf
  unfold f_X10_textOf at h
  refine lv_iload_n hx hb dX10_textOf_0 rfl (lv_at hl 0 rfl) ?_
  refine lv_ldc (v := 2147483647) hx hb hown (hts _ (List.mem_of_getElem? (i := 1) rfl)) dX10_textOf_1 ?_
  refine lv_iand hx hb dX10_textOf_3 ?_
  refine lv_istore_n (lv' := [(1, .int (x0 &&& (2147483647 : Int32))), (0, .int x0)]) hx hb dX10_textOf_4 rfl hl (by decide) rfl (fun ls hl => ?_)
  refine lv_iload_n hx hb dX10_textOf_5 rfl (lv_at hl 0 rfl) ?_
  refine lv_bipush (v := 26) hx hb dX10_textOf_6 (by decide) ?_
  refine lv_irem hx hb dX10_textOf_8 (by decide) ?_
  refine lv_bipush (v := 26) hx hb dX10_textOf_9 (by decide) ?_
  refine lv_iload_n hx hb dX10_textOf_11 rfl (lv_at hl 0 rfl) ?_
  refine lv_bipush (v := 26) hx hb dX10_textOf_12 (by decide) ?_
  refine lv_idiv hx hb dX10_textOf_14 (by decide) ?_
  refine lv_iconst (v := 3) hx hb dX10_textOf_15 (by decide) ?_
  refine lv_irem hx hb dX10_textOf_16 (by decide) ?_
  refine lv_imul hx hb dX10_textOf_17 ?_
  refine lv_iadd hx hb dX10_textOf_18 ?_
  refine lv_i2l (v := (((x0 &&& (2147483647 : Int32)) - (x0 &&& (2147483647 : Int32)) / (26 : Int32) * (26 : Int32)) + ((26 : Int32) * (((x0 &&& (2147483647 : Int32)) / (26 : Int32)) - ((x0 &&& (2147483647 : Int32)) / (26 : Int32)) / (3 : Int32) * (3 : Int32)))).toInt64) hx hb dX10_textOf_19 rfl ?_
  rw [hQQ]
  exact W.lret hx hb hr (fun t ht hW => ⟨_, rfl, (Option.some.inj h).symm, ht⟩) (fun q hq => absurd hq List.not_mem_nil) dX10_textOf_20
def f_X10_toldBy (x0 : Int32) (x1 : Int32) : Option Int64 :=
  (if x0 = 0 then (some (x1 &&& (1 : Int32)).toInt64) else (if x0 = 1 then (some (to_b x1).toInt64) else (if x0 = 2 then (some (to_c x1).toInt64) else (if x0 = 3 then (some (to_s x1).toInt64) else (if x0 = 4 then (some (x1).toInt64) else (if x0 = 5 then (some ((x1).toInt64 * (1000003 : Int64))) else (if x0 = 6 then (if ¬ ((FP.fdiv (FP.i2f x1) (1082130432 : UInt32)) &&& 0x7fffffff ≤ 0x7f800000) then none else ((f_Jxf58ca_floatToIntBits_5c35a (FP.fdiv (FP.i2f x1) (1082130432 : UInt32))).bind (fun o_178 => (some (o_178).toInt64)))) else (if ¬ ((FP.ddiv (FP.i2d x1) (4620693217682128896 : UInt64)) &&& 0x7fffffffffffffff ≤ 0x7ff0000000000000) then none else ((f_Jxe99ae_doubleToLongBits_ccdee (FP.ddiv (FP.i2d x1) (4620693217682128896 : UInt64))).bind (fun o_181 => (some o_181)))))))))))
abbrev rm_X10_toldBy : Room := { frames := 2, cells := 0, slots := 0, locals := 44 }
set_option maxHeartbeats 4000000 in
set_option maxRecDepth 100000 in
theorem c_X10_toldBy (l : Launch) (dC : Nat → ClassId) (dI : Nat → Nat → Nat) (cB cC cI cJ cZ cT : ClassId) (x0 : Int32) (x1 : Int32) (o : Int64) (hf : f_X10_toldBy x0 x1 = some o) : Met l yX10_toldBy wsX10_toldBy rm_X10_toldBy (va_Pc [.int x0, .int x1] (fun _ => True)) (vp_Sl (fun r => o = r)) 0 0 (fun _ => False) := by
  refine Met.ofW (cc := cX10_toldBy) (maxL := 2) (ret := (some .long)) (by decide) rfl ?_
  intro p e s m args below meth c s₁ B hml hv
  obtain ⟨hav, -⟩ := hv
  have hx := B.exec
  have hb := B.bytes
  have hr := B.returns
  have hts := atoms_spec (ws := wsX10_toldBy) B.pre
  have hown : s.vm.findClass RX10 = some m.cls := findClass_of_methodNamed B.named
  have hlocks := B.notSynchronized
  refine wstart (rm := rm_X10_toldBy) hav (Nat.le_of_ble_eq_true rfl) (fun QQ ls hQQ hl => ?_)
  have hl : lv_has ls 2 [(0, .int x0), (1, .int x1)] := hl
  have h := hf
  unfold f_X10_toldBy at h
  refine lv_iload_n hx hb dX10_toldBy_0 rfl (lv_at hl 0 rfl) ?_
  by_cases c_170 : x0 = 0
  · replace h := op c_170 h
    refine lv_tableIn (off := 43) (tgt := 44) hx hb dX10_toldBy_1 (by rw [c_170]; decide) (by rw [c_170]; decide) (by rw [c_170]; rfl) (by decide) ?_
    refine lv_iload_n hx hb dX10_toldBy_44 rfl (lv_at hl 1 rfl) ?_
    refine lv_iconst (v := 1) hx hb dX10_toldBy_45 (by decide) ?_
    refine lv_iand hx hb dX10_toldBy_46 ?_
    refine lv_i2l (v := (x1 &&& (1 : Int32)).toInt64) hx hb dX10_toldBy_47 rfl ?_
    rw [hQQ]
    exact W.lret hx hb hr (fun t ht hW => ⟨_, rfl, (Option.some.inj h).symm, ht⟩) (fun q hq => absurd hq List.not_mem_nil) dX10_toldBy_48
  replace h := on c_170 h
  by_cases c_171 : x0 = 1
  · replace h := op c_171 h
    refine lv_tableIn (off := 48) (tgt := 49) hx hb dX10_toldBy_1 (by rw [c_171]; decide) (by rw [c_171]; decide) (by rw [c_171]; rfl) (by decide) ?_
    refine lv_iload_n hx hb dX10_toldBy_49 rfl (lv_at hl 1 rfl) ?_
    refine lv_i2b (v := (to_b x1)) hx hb dX10_toldBy_50 rfl ?_
    refine lv_i2l (v := (to_b x1).toInt64) hx hb dX10_toldBy_51 rfl ?_
    rw [hQQ]
    exact W.lret hx hb hr (fun t ht hW => ⟨_, rfl, (Option.some.inj h).symm, ht⟩) (fun q hq => absurd hq List.not_mem_nil) dX10_toldBy_52
  replace h := on c_171 h
  by_cases c_172 : x0 = 2
  · replace h := op c_172 h
    refine lv_tableIn (off := 52) (tgt := 53) hx hb dX10_toldBy_1 (by rw [c_172]; decide) (by rw [c_172]; decide) (by rw [c_172]; rfl) (by decide) ?_
    refine lv_iload_n hx hb dX10_toldBy_53 rfl (lv_at hl 1 rfl) ?_
    refine lv_i2c (v := (to_c x1)) hx hb dX10_toldBy_54 rfl ?_
    refine lv_i2l (v := (to_c x1).toInt64) hx hb dX10_toldBy_55 rfl ?_
    rw [hQQ]
    exact W.lret hx hb hr (fun t ht hW => ⟨_, rfl, (Option.some.inj h).symm, ht⟩) (fun q hq => absurd hq List.not_mem_nil) dX10_toldBy_56
  replace h := on c_172 h
  by_cases c_173 : x0 = 3
  · replace h := op c_173 h
    refine lv_tableIn (off := 56) (tgt := 57) hx hb dX10_toldBy_1 (by rw [c_173]; decide) (by rw [c_173]; decide) (by rw [c_173]; rfl) (by decide) ?_
    refine lv_iload_n hx hb dX10_toldBy_57 rfl (lv_at hl 1 rfl) ?_
    refine lv_i2s (v := (to_s x1)) hx hb dX10_toldBy_58 rfl ?_
    refine lv_i2l (v := (to_s x1).toInt64) hx hb dX10_toldBy_59 rfl ?_
    rw [hQQ]
    exact W.lret hx hb hr (fun t ht hW => ⟨_, rfl, (Option.some.inj h).symm, ht⟩) (fun q hq => absurd hq List.not_mem_nil) dX10_toldBy_60
  replace h := on c_173 h
  by_cases c_174 : x0 = 4
  · replace h := op c_174 h
    refine lv_tableIn (off := 60) (tgt := 61) hx hb dX10_toldBy_1 (by rw [c_174]; decide) (by rw [c_174]; decide) (by rw [c_174]; rfl) (by decide) ?_
    refine lv_iload_n hx hb dX10_toldBy_61 rfl (lv_at hl 1 rfl) ?_
    refine lv_i2l (v := (x1).toInt64) hx hb dX10_toldBy_62 rfl ?_
    rw [hQQ]
    exact W.lret hx hb hr (fun t ht hW => ⟨_, rfl, (Option.some.inj h).symm, ht⟩) (fun q hq => absurd hq List.not_mem_nil) dX10_toldBy_63
  replace h := on c_174 h
  by_cases c_175 : x0 = 5
  · replace h := op c_175 h
    refine lv_tableIn (off := 63) (tgt := 64) hx hb dX10_toldBy_1 (by rw [c_175]; decide) (by rw [c_175]; decide) (by rw [c_175]; rfl) (by decide) ?_
    refine lv_iload_n hx hb dX10_toldBy_64 rfl (lv_at hl 1 rfl) ?_
    refine lv_i2l (v := (x1).toInt64) hx hb dX10_toldBy_65 rfl ?_
    refine lv_ldc2 (v := 1000003) hx hb hown (hts _ (List.mem_of_getElem? (i := 1) rfl)) dX10_toldBy_66 ?_
    refine lv_lmul hx hb dX10_toldBy_69 ?_
    rw [hQQ]
    exact W.lret hx hb hr (fun t ht hW => ⟨_, rfl, (Option.some.inj h).symm, ht⟩) (fun q hq => absurd hq List.not_mem_nil) dX10_toldBy_70
  replace h := on c_175 h
  by_cases c_176 : x0 = 6
  · replace h := op c_176 h
    refine lv_tableIn (off := 70) (tgt := 71) hx hb dX10_toldBy_1 (by rw [c_176]; decide) (by rw [c_176]; decide) (by rw [c_176]; rfl) (by decide) ?_
    refine lv_iload_n hx hb dX10_toldBy_71 rfl (lv_at hl 1 rfl) ?_
    refine lv_i2f hx hb dX10_toldBy_72 ?_
    refine lv_ldcf (v := 1082130432) hx hb hown (hts _ (List.mem_of_getElem? (i := 2) rfl)) dX10_toldBy_73 ?_
    obtain ⟨hi_177, h⟩ := og h
    refine lv_fdiv hx hb dX10_toldBy_75 (Decidable.not_not.mp hi_177) ?_
    obtain ⟨o_178, hr_178, h⟩ := ob h
    refine vp_callSi (va_Run.run (va_runS (As := [.float (FP.fdiv (FP.i2f x1) (1082130432 : UInt32))]) (rest := []) ⟨hx, hb, hml, hown, hts⟩ (c_Jxf58ca_floatToIntBits_5c35a l dC dI cB cC cI cJ cZ cT (FP.fdiv (FP.i2f x1) (1082130432 : UInt32)) o_178 hr_178) (va_cwS 1 hts gX10_toldBy_Jxf58ca_floatToIntBits_5c35a rfl rfl rfl (by decide +kernel) ⟨Nat.le_of_ble_eq_true rfl, Nat.le_of_ble_eq_true rfl⟩) ⟨blT, fun U hU hW => ⟨rfl, trivial⟩⟩ rfl rfl hl.1 rfl (lv_room (Nat.le_of_ble_eq_true rfl)) dX10_toldBy_76 ⟨Nat.le_of_ble_eq_true rfl, Nat.le_of_ble_eq_true rfl⟩)) (fun r_178 e_178 => ?_)
    subst e_178
    refine lv_i2l (v := (o_178).toInt64) hx hb dX10_toldBy_79 rfl ?_
    rw [hQQ]
    exact W.lret hx hb hr (fun t ht hW => ⟨_, rfl, (Option.some.inj h).symm, ht⟩) (fun q hq => absurd hq List.not_mem_nil) dX10_toldBy_80
  replace h := on c_176 h
  have ct_170 : (x0).toInt < 0 ∨ 6 < (x0).toInt := by
    have q_170 := i32_ne c_170
    have q_171 := i32_ne c_171
    have q_172 := i32_ne c_172
    have q_173 := i32_ne c_173
    have q_174 := i32_ne c_174
    have q_175 := i32_ne c_175
    have q_176 := i32_ne c_176
    have z_170 : ((0 : Int32)).toInt = 0 ∧ ((1 : Int32)).toInt = 1 ∧ ((2 : Int32)).toInt = 2 ∧ ((3 : Int32)).toInt = 3 ∧ ((4 : Int32)).toInt = 4 ∧ ((5 : Int32)).toInt = 5 ∧ ((6 : Int32)).toInt = 6 := by decide
    omega
  refine lv_tableOut (tgt := 81) hx hb dX10_toldBy_1 ct_170 (by decide) ?_
  refine lv_iload_n hx hb dX10_toldBy_81 rfl (lv_at hl 1 rfl) ?_
  refine lv_i2d hx hb dX10_toldBy_82 ?_
  refine lv_ldc2d (v := 4620693217682128896) hx hb hown (hts _ (List.mem_of_getElem? (i := 3) rfl)) dX10_toldBy_83 ?_
  obtain ⟨hi_180, h⟩ := og h
  refine lv_ddiv hx hb dX10_toldBy_86 (Decidable.not_not.mp hi_180) ?_
  obtain ⟨o_181, hr_181, h⟩ := ob h
  refine vp_callSl (va_Run.run (va_runS (As := [.double (FP.ddiv (FP.i2d x1) (4620693217682128896 : UInt64))]) (rest := []) ⟨hx, hb, hml, hown, hts⟩ (c_Jxe99ae_doubleToLongBits_ccdee l dC dI cB cC cI cJ cZ cT (FP.ddiv (FP.i2d x1) (4620693217682128896 : UInt64)) o_181 hr_181) (va_cwS 1 hts gX10_toldBy_Jxe99ae_doubleToLongBits_ccdee rfl rfl rfl (by decide +kernel) ⟨Nat.le_of_ble_eq_true rfl, Nat.le_of_ble_eq_true rfl⟩) ⟨blT, fun U hU hW => ⟨rfl, trivial⟩⟩ rfl rfl hl.1 rfl (lv_room (Nat.le_of_ble_eq_true rfl)) dX10_toldBy_87 ⟨Nat.le_of_ble_eq_true rfl, Nat.le_of_ble_eq_true rfl⟩)) (fun r_181 e_181 => ?_)
  subst e_181
  rw [hQQ]
  exact W.lret hx hb hr (fun t ht hW => ⟨_, rfl, (Option.some.inj h).symm, ht⟩) (fun q hq => absurd hq List.not_mem_nil) dX10_toldBy_90
def f_X10_thingOf (x0 : Int32) (x1 : Int32) : Option Int64 :=
  (if x0 = (19 : Int32) then ((f_X10_textOf x1).bind (fun o_190 => (some o_190))) else (if x0 = (20 : Int32) then (some (x1).toInt64) else (if x0 = (21 : Int32) then (some (-9223372036854775808 : Int64)) else ((f_X10_kindOfWay x0).bind (fun o_186 => ((f_X10_toldBy o_186 x1).bind (fun o_188 => (some o_188))))))))
abbrev rm_X10_thingOf : Room := { frames := 3, cells := 0, slots := 0, locals := 65 }
set_option maxHeartbeats 4000000 in
set_option maxRecDepth 100000 in
theorem c_X10_thingOf (l : Launch) (dC : Nat → ClassId) (dI : Nat → Nat → Nat) (cB cC cI cJ cZ cT : ClassId) (x0 : Int32) (x1 : Int32) (o : Int64) (hf : f_X10_thingOf x0 x1 = some o) : Met l yX10_thingOf wsX10_thingOf rm_X10_thingOf (va_Pc [.int x0, .int x1] (fun _ => True)) (vp_Sl (fun r => o = r)) 0 0 (fun _ => False) := by
  refine Met.ofW (cc := cX10_thingOf) (maxL := 2) (ret := (some .long)) (by decide) rfl ?_
  intro p e s m args below meth c s₁ B hml hv
  obtain ⟨hav, -⟩ := hv
  have hx := B.exec
  have hb := B.bytes
  have hr := B.returns
  have hts := atoms_spec (ws := wsX10_thingOf) B.pre
  have hown : s.vm.findClass RX10 = some m.cls := findClass_of_methodNamed B.named
  have hlocks := B.notSynchronized
  refine wstart (rm := rm_X10_thingOf) hav (Nat.le_of_ble_eq_true rfl) (fun QQ ls hQQ hl => ?_)
  have hl : lv_has ls 2 [(0, .int x0), (1, .int x1)] := hl
  have h := hf
  unfold f_X10_thingOf at h
  refine lv_iload_n hx hb dX10_thingOf_0 rfl (lv_at hl 0 rfl) ?_
  refine lv_bipush (v := 19) hx hb dX10_thingOf_1 (by decide) ?_
  refine lv_icmp_ne (tgt := 13) hx hb dX10_thingOf_3 (by decide) (fun c_183 => ?_) (fun c_183 => ?_)
  · replace h := on c_183 h
    refine lv_iload_n hx hb dX10_thingOf_13 rfl (lv_at hl 0 rfl) ?_
    refine lv_bipush (v := 20) hx hb dX10_thingOf_14 (by decide) ?_
    refine lv_icmp_ne (tgt := 24) hx hb dX10_thingOf_16 (by decide) (fun c_184 => ?_) (fun c_184 => ?_)
    · replace h := on c_184 h
      refine lv_iload_n hx hb dX10_thingOf_24 rfl (lv_at hl 0 rfl) ?_
      refine lv_bipush (v := 21) hx hb dX10_thingOf_25 (by decide) ?_
      refine lv_icmp_ne (tgt := 36) hx hb dX10_thingOf_27 (by decide) (fun c_185 => ?_) (fun c_185 => ?_)
      · replace h := on c_185 h
        refine lv_iload_n hx hb dX10_thingOf_36 rfl (lv_at hl 0 rfl) ?_
        obtain ⟨o_186, hr_186, h⟩ := ob h
        refine vp_callSi (va_Run.run (va_runS (As := [.int x0]) (rest := []) ⟨hx, hb, hml, hown, hts⟩ (c_X10_kindOfWay l dC dI cB cC cI cJ cZ cT x0 o_186 hr_186) (va_cwS 1 hts gX10_thingOf_X10_kindOfWay rfl rfl rfl (by decide +kernel) ⟨Nat.le_of_ble_eq_true rfl, Nat.le_of_ble_eq_true rfl⟩) ⟨blT, fun U hU hW => ⟨rfl, trivial⟩⟩ rfl rfl hl.1 rfl (lv_room (Nat.le_of_ble_eq_true rfl)) dX10_thingOf_37 ⟨Nat.le_of_ble_eq_true rfl, Nat.le_of_ble_eq_true rfl⟩)) (fun r_186 e_186 => ?_)
        subst e_186
        refine lv_iload_n hx hb dX10_thingOf_40 rfl (lv_at hl 1 rfl) ?_
        obtain ⟨o_188, hr_188, h⟩ := ob h
        refine vp_callSl (va_Run.run (va_runS (As := [.int o_186, .int x1]) (rest := []) ⟨hx, hb, hml, hown, hts⟩ (c_X10_toldBy l dC dI cB cC cI cJ cZ cT o_186 x1 o_188 hr_188) (va_cwS 2 hts gX10_thingOf_X10_toldBy rfl rfl rfl (by decide +kernel) ⟨Nat.le_of_ble_eq_true rfl, Nat.le_of_ble_eq_true rfl⟩) ⟨blT, fun U hU hW => ⟨rfl, trivial⟩⟩ rfl rfl hl.1 rfl (lv_room (Nat.le_of_ble_eq_true rfl)) dX10_thingOf_41 ⟨Nat.le_of_ble_eq_true rfl, Nat.le_of_ble_eq_true rfl⟩)) (fun r_188 e_188 => ?_)
        subst e_188
        rw [hQQ]
        exact W.lret hx hb hr (fun t ht hW => ⟨_, rfl, (Option.some.inj h).symm, ht⟩) (fun q hq => absurd hq List.not_mem_nil) dX10_thingOf_44
      · replace h := op c_185 h
        refine lv_ldc2 (v := -9223372036854775808) hx hb hown (hts _ (List.mem_of_getElem? (i := 1) rfl)) dX10_thingOf_30 ?_
        refine lv_goto (tgt := 44) hx hb dX10_thingOf_33 (by decide) ?_
        rw [hQQ]
        exact W.lret hx hb hr (fun t ht hW => ⟨_, rfl, (Option.some.inj h).symm, ht⟩) (fun q hq => absurd hq List.not_mem_nil) dX10_thingOf_44
    · replace h := op c_184 h
      refine lv_iload_n hx hb dX10_thingOf_19 rfl (lv_at hl 1 rfl) ?_
      refine lv_i2l (v := (x1).toInt64) hx hb dX10_thingOf_20 rfl ?_
      refine lv_goto (tgt := 44) hx hb dX10_thingOf_21 (by decide) ?_
      rw [hQQ]
      exact W.lret hx hb hr (fun t ht hW => ⟨_, rfl, (Option.some.inj h).symm, ht⟩) (fun q hq => absurd hq List.not_mem_nil) dX10_thingOf_44
  · replace h := op c_183 h
    refine lv_iload_n hx hb dX10_thingOf_6 rfl (lv_at hl 1 rfl) ?_
    obtain ⟨o_190, hr_190, h⟩ := ob h
    refine vp_callSl (va_Run.run (va_runS (As := [.int x1]) (rest := []) ⟨hx, hb, hml, hown, hts⟩ (c_X10_textOf l dC dI cB cC cI cJ cZ cT x1 o_190 hr_190) (va_cwS 1 hts gX10_thingOf_X10_textOf rfl rfl rfl (by decide +kernel) ⟨Nat.le_of_ble_eq_true rfl, Nat.le_of_ble_eq_true rfl⟩) ⟨blT, fun U hU hW => ⟨rfl, trivial⟩⟩ rfl rfl hl.1 rfl (lv_room (Nat.le_of_ble_eq_true rfl)) dX10_thingOf_7 ⟨Nat.le_of_ble_eq_true rfl, Nat.le_of_ble_eq_true rfl⟩)) (fun r_190 e_190 => ?_)
    subst e_190
    refine lv_goto (tgt := 44) hx hb dX10_thingOf_10 (by decide) ?_
    rw [hQQ]
    exact W.lret hx hb hr (fun t ht hW => ⟨_, rfl, (Option.some.inj h).symm, ht⟩) (fun q hq => absurd hq List.not_mem_nil) dX10_thingOf_44
def f_X10_widened (x0 : Int64) (x2 : Int32) (x3 : Int32) : Option Int64 :=
  (if x2 = x3 then (some x0) else (if (6 : Int32) ≤ x3 then (if x3 = (6 : Int32) then ((f_Jxf58ca_floatToIntBits_5c35a (FP.l2f x0)).bind (fun o_204 => (some (o_204).toInt64))) else (((if x2 = (6 : Int32) then (if vn_sni2f (x0).toInt32 = true then none else (if ¬ ((FP.f2d ((x0).toInt32).toUInt32) &&& 0x7fffffffffffffff ≤ 0x7ff0000000000000) then none else (some (FP.f2d ((x0).toInt32).toUInt32)))) else (some (FP.l2d x0)))).bind (fun v_195 => ((f_Jxe99ae_doubleToLongBits_ccdee v_195).bind (fun o_202 => (some o_202)))))) else (some x0)))
abbrev rm_X10_widened : Room := { frames := 2, cells := 0, slots := 0, locals := 44 }
set_option maxHeartbeats 4000000 in
set_option maxRecDepth 100000 in
theorem c_X10_widened (l : Launch) (dC : Nat → ClassId) (dI : Nat → Nat → Nat) (cB cC cI cJ cZ cT : ClassId) (x0 : Int64) (x2 : Int32) (x3 : Int32) (o : Int64) (hf : f_X10_widened x0 x2 x3 = some o) : Met l yX10_widened wsX10_widened rm_X10_widened (va_Pc [.long x0, .int x2, .int x3] (fun _ => True)) (vp_Sl (fun r => o = r)) 0 0 (fun _ => False) := by
  refine Met.ofW (cc := cX10_widened) (maxL := 4) (ret := (some .long)) (by decide) rfl ?_
  intro p e s m args below meth c s₁ B hml hv
  obtain ⟨hav, -⟩ := hv
  have hx := B.exec
  have hb := B.bytes
  have hr := B.returns
  have hts := atoms_spec (ws := wsX10_widened) B.pre
  have hown : s.vm.findClass RX10 = some m.cls := findClass_of_methodNamed B.named
  have hlocks := B.notSynchronized
  refine wstart (rm := rm_X10_widened) hav (Nat.le_of_ble_eq_true rfl) (fun QQ ls hQQ hl => ?_)
  have hl : lv_has ls 4 [(0, .long x0), (2, .int x2), (3, .int x3)] := hl
  have h := hf
  unfold f_X10_widened at h
  refine lv_iload_n hx hb dX10_widened_0 rfl (lv_at hl 1 rfl) ?_
  refine lv_iload_n hx hb dX10_widened_1 rfl (lv_at hl 2 rfl) ?_
  refine lv_icmp_eq (tgt := 11) hx hb dX10_widened_2 (by decide) (fun c_192 => ?_) (fun c_192 => ?_)
  · replace h := op c_192 h
    refine lv_lload_n hx hb dX10_widened_11 rfl (lv_at hl 0 rfl) ?_
    rw [hQQ]
    exact W.lret hx hb hr (fun t ht hW => ⟨_, rfl, (Option.some.inj h).symm, ht⟩) (fun q hq => absurd hq List.not_mem_nil) dX10_widened_12
  · replace h := on c_192 h
    refine lv_iload_n hx hb dX10_widened_5 rfl (lv_at hl 2 rfl) ?_
    refine lv_bipush (v := 6) hx hb dX10_widened_6 (by decide) ?_
    refine lv_icmp_ge (tgt := 13) hx hb dX10_widened_8 (by decide) (fun c_193 => ?_) (fun c_193 => ?_)
    · replace h := op c_193 h
      refine lv_iload_n hx hb dX10_widened_13 rfl (lv_at hl 2 rfl) ?_
      refine lv_bipush (v := 6) hx hb dX10_widened_14 (by decide) ?_
      refine lv_icmp_ne (tgt := 26) hx hb dX10_widened_16 (by decide) (fun c_194 => ?_) (fun c_194 => ?_)
      · replace h := on c_194 h
        refine lv_iload_n hx hb dX10_widened_26 rfl (lv_at hl 1 rfl) ?_
        refine lv_bipush (v := 6) hx hb dX10_widened_27 (by decide) ?_
        obtain ⟨v_195, hv_195, h⟩ := ob h
        have J_195 : ∀ (ls : Array Slot), lv_has ls 4 [] → W p l e rm_X10_widened s m args below meth c s.heap [] 0 0 QQ (F0 m 43 ls [.double v_195]) := by
          intro ls hl
          obtain ⟨o_202, hr_202, h⟩ := ob h
          refine vp_callSl (va_Run.run (va_runS (As := [.double v_195]) (rest := []) ⟨hx, hb, hml, hown, hts⟩ (c_Jxe99ae_doubleToLongBits_ccdee l dC dI cB cC cI cJ cZ cT v_195 o_202 hr_202) (va_cwS 1 hts gX10_widened_Jxe99ae_doubleToLongBits_ccdee rfl rfl rfl (by decide +kernel) ⟨Nat.le_of_ble_eq_true rfl, Nat.le_of_ble_eq_true rfl⟩) ⟨blT, fun U hU hW => ⟨rfl, trivial⟩⟩ rfl rfl hl.1 rfl (lv_room (Nat.le_of_ble_eq_true rfl)) dX10_widened_43 ⟨Nat.le_of_ble_eq_true rfl, Nat.le_of_ble_eq_true rfl⟩)) (fun r_202 e_202 => ?_)
          subst e_202
          rw [hQQ]
          exact W.lret hx hb hr (fun t ht hW => ⟨_, rfl, (Option.some.inj h).symm, ht⟩) (fun q hq => absurd hq List.not_mem_nil) dX10_widened_46
        replace h := hv_195
        refine lv_icmp_ne (tgt := 41) hx hb dX10_widened_29 (by decide) (fun c_199 => ?_) (fun c_199 => ?_)
        · replace h := on c_199 h
          refine lv_lload_n hx hb dX10_widened_41 rfl (lv_at hl 0 rfl) ?_
          refine lv_l2d hx hb dX10_widened_42 ?_
          have ho := Option.some.inj h
          subst ho
          exact J_195 ls (lv_sub hl [] rfl)
        · replace h := op c_199 h
          refine lv_lload_n hx hb dX10_widened_32 rfl (lv_at hl 0 rfl) ?_
          refine lv_l2i (v := (x0).toInt32) hx hb dX10_widened_33 rfl ?_
          obtain ⟨hi_200, h⟩ := og h
          refine vn_i2f hx hb (hml.trans hl.1.symm) hown (hts _ (List.mem_of_getElem? (i := 1) rfl)) (hts _ (List.mem_of_getElem? (i := 2) rfl)) (hts _ (List.mem_of_getElem? (i := 3) rfl)) (hts _ (List.mem_of_getElem? (i := 4) rfl)) (Bool.eq_false_iff.mpr hi_200) (Nat.le_of_ble_eq_true rfl) (Nat.le_of_ble_eq_true rfl) dX10_widened_34 ?_
          obtain ⟨hi_201, h⟩ := og h
          refine lv_f2d hx hb dX10_widened_37 (Decidable.not_not.mp hi_201) ?_
          refine lv_goto (tgt := 43) hx hb dX10_widened_38 (by decide) ?_
          have ho := Option.some.inj h
          subst ho
          exact J_195 ls (lv_sub hl [] rfl)
      · replace h := op c_194 h
        refine lv_lload_n hx hb dX10_widened_19 rfl (lv_at hl 0 rfl) ?_
        refine lv_l2f hx hb dX10_widened_20 ?_
        obtain ⟨o_204, hr_204, h⟩ := ob h
        refine vp_callSi (va_Run.run (va_runS (As := [.float (FP.l2f x0)]) (rest := []) ⟨hx, hb, hml, hown, hts⟩ (c_Jxf58ca_floatToIntBits_5c35a l dC dI cB cC cI cJ cZ cT (FP.l2f x0) o_204 hr_204) (va_cwS 1 hts gX10_widened_Jxf58ca_floatToIntBits_5c35a rfl rfl rfl (by decide +kernel) ⟨Nat.le_of_ble_eq_true rfl, Nat.le_of_ble_eq_true rfl⟩) ⟨blT, fun U hU hW => ⟨rfl, trivial⟩⟩ rfl rfl hl.1 rfl (lv_room (Nat.le_of_ble_eq_true rfl)) dX10_widened_21 ⟨Nat.le_of_ble_eq_true rfl, Nat.le_of_ble_eq_true rfl⟩)) (fun r_204 e_204 => ?_)
        subst e_204
        refine lv_i2l (v := (o_204).toInt64) hx hb dX10_widened_24 rfl ?_
        rw [hQQ]
        exact W.lret hx hb hr (fun t ht hW => ⟨_, rfl, (Option.some.inj h).symm, ht⟩) (fun q hq => absurd hq List.not_mem_nil) dX10_widened_25
    · replace h := on c_193 h
      refine lv_lload_n hx hb dX10_widened_11 rfl (lv_at hl 0 rfl) ?_
      rw [hQQ]
      exact W.lret hx hb hr (fun t ht hW => ⟨_, rfl, (Option.some.inj h).symm, ht⟩) (fun q hq => absurd hq List.not_mem_nil) dX10_widened_12
