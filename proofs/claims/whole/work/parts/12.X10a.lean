def f_X10_thrown (v_thrown : Int32) : Option Int32 :=
  (some v_thrown)
abbrev rm_X10_thrown : Room := { frames := 0, cells := 0, slots := 0, locals := 0 }
set_option maxHeartbeats 4000000 in
set_option maxRecDepth 100000 in
theorem c_X10_thrown (l : Launch) (dC : Nat → ClassId) (dI : Nat → Nat → Nat) (cB cC cI cJ cZ cT : ClassId) (h0 q_now q_text q_row q_read q_ranks q_distinct q_proper q_line q_order q_then q_bestOrder q_lineThen q_undos q_was q_kept q_isKept : Nat) (v_typed : Int32) (v_rowMany : Int32) (v_thrown : Int32) (v_length : Int32) (v_at : Int32) (v_wrong : Int32) (v_properMany : Int32) (v_orderMany : Int32) (v_undoMany : Int32) (v_drawn : Int32) (o : Int32) (hf : f_X10_thrown v_thrown = some o) : Met l yX10_thrown wsX10_thrown rm_X10_thrown (va_Pc [.ref h0] (fun U => va_P (dC, dI) vwCl [(h0, .inr (8, [.ref q_now, .ref q_text, .int v_typed, .ref q_row, .int v_rowMany, .int v_thrown, .int v_length, .int v_at, .int v_wrong, .ref q_read, .ref q_ranks, .ref q_distinct, .ref q_proper, .int v_properMany, .ref q_line, .ref q_order, .int v_orderMany, .ref q_then, .ref q_bestOrder, .ref q_lineThen, .ref q_undos, .ref q_was, .int v_undoMany, .int v_drawn, .ref q_kept, .ref q_isKept]))] U.heap ∧ va_K (dC, dI) vwCl (tyA cB cC cI cJ cZ cT) U)) (vp_Si (fun r => o = r)) 0 0 (fun _ => False) := by
  refine Met.ofW (cc := cX10_thrown) (maxL := 1) (ret := (some .int)) (by decide +kernel) rfl ?_
  intro p e s m args below meth c s₁ B hml hv
  obtain ⟨hav, hP, hK⟩ := hv
  have hx := B.exec
  have hb := B.bytes
  have hr := B.returns
  have hts := atoms_spec (ws := wsX10_thrown) B.pre
  have hown : s.vm.findClass RX10 = some m.cls := findClass_of_methodNamed B.named
  have hlocks := B.notSynchronized
  refine wstart (rm := rm_X10_thrown) hav (Nat.le_of_ble_eq_true rfl) (fun QQ ls hQQ hl => ?_)
  have hl : lv_has ls 1 [(0, .ref h0)] := hl
  have hi_X10 : ∀ w ∈ u_ws RX10 TX10 26, w ∈ wsX10_thrown := by decide +kernel
  have h := hf
  unfold f_X10_thrown at h
  refine lv_aload_n hx hb dX10_thrown_0 rfl (lv_at hl 0 rfl) ?_
  refine va_get (D := (dC, dI)) (ci := 8) (v := .int v_thrown) (C := RX10) (T := TX10) (N := 26) hx hb hts hi_X10 hown hK hP 0 rfl rfl 5 (by decide) (hts _ (List.mem_of_getElem? (i := 1) rfl)) (fun _ h9 => h9) rfl dX10_thrown_1 ?_
  rw [hQQ]
  exact W.iret hx hb hr (fun t ht hW => ⟨_, rfl, (Option.some.inj h).symm, ht⟩) (fun q hq => absurd hq List.not_mem_nil) dX10_thrown_4
def f_X10_in (x0 : Int32) (x1 : Int32) (x2 : Int32) : Option Bool :=
  (if x0 < x1 then (some false) else (if x2 < x0 then (some false) else (some true)))
abbrev rm_X10_in : Room := { frames := 0, cells := 0, slots := 0, locals := 0 }
set_option maxHeartbeats 4000000 in
set_option maxRecDepth 100000 in
theorem c_X10_in (l : Launch) (dC : Nat → ClassId) (dI : Nat → Nat → Nat) (cB cC cI cJ cZ cT : ClassId) (x0 : Int32) (x1 : Int32) (x2 : Int32) (o : Bool) (hf : f_X10_in x0 x1 x2 = some o) : Met l yX10_in wsX10_in rm_X10_in (va_Pc [.int x0, .int x1, .int x2] (fun _ => True)) (vp_Si (fun r => b2i o = r)) 0 0 (fun _ => False) := by
  refine Met.ofW (cc := cX10_in) (maxL := 3) (ret := (some .boolean)) (by decide +kernel) rfl ?_
  intro p e s m args below meth c s₁ B hml hv
  obtain ⟨hav, -⟩ := hv
  have hx := B.exec
  have hb := B.bytes
  have hr := B.returns
  have hts := atoms_spec (ws := wsX10_in) B.pre
  have hown : s.vm.findClass RX10 = some m.cls := findClass_of_methodNamed B.named
  have hlocks := B.notSynchronized
  refine wstart (rm := rm_X10_in) hav (Nat.le_of_ble_eq_true rfl) (fun QQ ls hQQ hl => ?_)
  have hl : lv_has ls 3 [(0, .int x0), (1, .int x1), (2, .int x2)] := hl
  have h := hf
  unfold f_X10_in at h
  refine lv_iload_n hx hb dX10_in_0 rfl (lv_at hl 0 rfl) ?_
  refine lv_iload_n hx hb dX10_in_1 rfl (lv_at hl 1 rfl) ?_
  refine lv_icmp_lt (tgt := 14) hx hb dX10_in_2 (by decide) (fun c_69 => ?_) (fun c_69 => ?_)
  · replace h := op c_69 h
    refine lv_iconst (v := 0) hx hb dX10_in_14 (by decide) ?_
    rw [hQQ]
    exact W.zret hx hb hr rfl (fun t ht hW => ⟨_, rfl, (congrArg b2i (Option.some.inj h).symm), ht⟩) (fun q hq => absurd hq List.not_mem_nil) dX10_in_15
  · replace h := on c_69 h
    refine lv_iload_n hx hb dX10_in_5 rfl (lv_at hl 0 rfl) ?_
    refine lv_iload_n hx hb dX10_in_6 rfl (lv_at hl 2 rfl) ?_
    refine lv_icmp_gt (tgt := 14) hx hb dX10_in_7 (by decide) (fun c_70 => ?_) (fun c_70 => ?_)
    · replace h := op c_70 h
      refine lv_iconst (v := 0) hx hb dX10_in_14 (by decide) ?_
      rw [hQQ]
      exact W.zret hx hb hr rfl (fun t ht hW => ⟨_, rfl, (congrArg b2i (Option.some.inj h).symm), ht⟩) (fun q hq => absurd hq List.not_mem_nil) dX10_in_15
    · replace h := on c_70 h
      refine lv_iconst (v := 1) hx hb dX10_in_10 (by decide) ?_
      refine lv_goto (tgt := 15) hx hb dX10_in_11 (by decide) ?_
      rw [hQQ]
      exact W.zret hx hb hr rfl (fun t ht hW => ⟨_, rfl, (congrArg b2i (Option.some.inj h).symm), ht⟩) (fun q hq => absurd hq List.not_mem_nil) dX10_in_15
def f_X10_lost  : Option (Int32 × Int32) :=
  (some ((0 : Int32), (1 : Int32)))
abbrev rm_X10_lost : Room := { frames := 0, cells := 0, slots := 0, locals := 0 }
set_option maxHeartbeats 4000000 in
set_option maxRecDepth 100000 in
theorem c_X10_lost (l : Launch) (dC : Nat → ClassId) (dI : Nat → Nat → Nat) (cB cC cI cJ cZ cT : ClassId) (h0 q_now q_text q_row q_read q_ranks q_distinct q_proper q_line q_order q_then q_bestOrder q_lineThen q_undos q_was q_kept q_isKept : Nat) (sz : Nat) (v_typed : Int32) (v_rowMany : Int32) (v_thrown : Int32) (v_length : Int32) (v_at : Int32) (v_wrong : Int32) (v_properMany : Int32) (v_orderMany : Int32) (v_undoMany : Int32) (v_drawn : Int32) (o : (Int32 × Int32)) (hf : f_X10_lost = some o) : Met l yX10_lost wsX10_lost rm_X10_lost (va_Pc [.ref h0] (fun U => U.heap.size = sz ∧ va_P (dC, dI) vwCl [(h0, .inr (8, [.ref q_now, .ref q_text, .int v_typed, .ref q_row, .int v_rowMany, .int v_thrown, .int v_length, .int v_at, .int v_wrong, .ref q_read, .ref q_ranks, .ref q_distinct, .ref q_proper, .int v_properMany, .ref q_line, .ref q_order, .int v_orderMany, .ref q_then, .ref q_bestOrder, .ref q_lineThen, .ref q_undos, .ref q_was, .int v_undoMany, .int v_drawn, .ref q_kept, .ref q_isKept]))] U.heap ∧ va_K (dC, dI) vwCl (tyA cB cC cI cJ cZ cT) U ∧ va_D (fun _ => True) [(h0, .inr (8, [.ref q_now, .ref q_text, .int v_typed, .ref q_row, .int v_rowMany, .int v_thrown, .int v_length, .int v_at, .int v_wrong, .ref q_read, .ref q_ranks, .ref q_distinct, .ref q_proper, .int v_properMany, .ref q_line, .ref q_order, .int v_orderMany, .ref q_then, .ref q_bestOrder, .ref q_lineThen, .ref q_undos, .ref q_was, .int v_undoMany, .int v_drawn, .ref q_kept, .ref q_isKept]))])) (va_Qi (fun (r : Int32) (_ : Unit) => o.1 = r) (fun _ t => va_P (dC, dI) vwCl [(h0, .inr (8, [.ref q_now, .ref q_text, .int v_typed, .ref q_row, .int v_rowMany, .int o.2, .int v_length, .int v_at, .int v_wrong, .ref q_read, .ref q_ranks, .ref q_distinct, .ref q_proper, .int v_properMany, .ref q_line, .ref q_order, .int v_orderMany, .ref q_then, .ref q_bestOrder, .ref q_lineThen, .ref q_undos, .ref q_was, .int v_undoMany, .int v_drawn, .ref q_kept, .ref q_isKept]))] t.heap ∧ va_K (dC, dI) vwCl (tyA cB cC cI cJ cZ cT) t ∧ va_D (va_A [(h0, .inr (8, [.ref q_now, .ref q_text, .int v_typed, .ref q_row, .int v_rowMany, .int v_thrown, .int v_length, .int v_at, .int v_wrong, .ref q_read, .ref q_ranks, .ref q_distinct, .ref q_proper, .int v_properMany, .ref q_line, .ref q_order, .int v_orderMany, .ref q_then, .ref q_bestOrder, .ref q_lineThen, .ref q_undos, .ref q_was, .int v_undoMany, .int v_drawn, .ref q_kept, .ref q_isKept]))] sz) [(h0, .inr (8, [.ref q_now, .ref q_text, .int v_typed, .ref q_row, .int v_rowMany, .int o.2, .int v_length, .int v_at, .int v_wrong, .ref q_read, .ref q_ranks, .ref q_distinct, .ref q_proper, .int v_properMany, .ref q_line, .ref q_order, .int v_orderMany, .ref q_then, .ref q_bestOrder, .ref q_lineThen, .ref q_undos, .ref q_was, .int v_undoMany, .int v_drawn, .ref q_kept, .ref q_isKept]))]) (va_A [(h0, .inr (8, [.ref q_now, .ref q_text, .int v_typed, .ref q_row, .int v_rowMany, .int v_thrown, .int v_length, .int v_at, .int v_wrong, .ref q_read, .ref q_ranks, .ref q_distinct, .ref q_proper, .int v_properMany, .ref q_line, .ref q_order, .int v_orderMany, .ref q_then, .ref q_bestOrder, .ref q_lineThen, .ref q_undos, .ref q_was, .int v_undoMany, .int v_drawn, .ref q_kept, .ref q_isKept]))] sz)) 0 0 (va_A [(h0, .inr (8, [.ref q_now, .ref q_text, .int v_typed, .ref q_row, .int v_rowMany, .int v_thrown, .int v_length, .int v_at, .int v_wrong, .ref q_read, .ref q_ranks, .ref q_distinct, .ref q_proper, .int v_properMany, .ref q_line, .ref q_order, .int v_orderMany, .ref q_then, .ref q_bestOrder, .ref q_lineThen, .ref q_undos, .ref q_was, .int v_undoMany, .int v_drawn, .ref q_kept, .ref q_isKept]))] sz) := by
  refine Met.ofW (cc := cX10_lost) (maxL := 1) (ret := (some .int)) (by decide +kernel) rfl ?_
  intro p e s m args below meth c s₁ B hml hv
  obtain ⟨hav, hsz, hP, hK, hD0⟩ := hv
  have hx := B.exec
  have hb := B.bytes
  have hr := B.returns
  have hts := atoms_spec (ws := wsX10_lost) B.pre
  have hown : s.vm.findClass RX10 = some m.cls := findClass_of_methodNamed B.named
  have hlocks := B.notSynchronized
  subst hsz
  have hD := hD0.self (sz := s.heap.size)
  generalize hAe : va_A [(h0, .inr (8, [.ref q_now, .ref q_text, .int v_typed, .ref q_row, .int v_rowMany, .int v_thrown, .int v_length, .int v_at, .int v_wrong, .ref q_read, .ref q_ranks, .ref q_distinct, .ref q_proper, .int v_properMany, .ref q_line, .ref q_order, .int v_orderMany, .ref q_then, .ref q_bestOrder, .ref q_lineThen, .ref q_undos, .ref q_was, .int v_undoMany, .int v_drawn, .ref q_kept, .ref q_isKept]))] s.heap.size = A at hD ⊢
  have hA : ∀ q : Nat, s.heap.size ≤ q → A q := fun q h => by rw [← hAe]; exact Or.inr h
  have hS : va_S A s.heap s.heap [] := va_S.rf
  refine wstart (rm := rm_X10_lost) hav (Nat.le_of_ble_eq_true rfl) (fun QQ ls hQQ hl => ?_)
  have hl : lv_has ls 1 [(0, .ref h0)] := hl
  have hi_X10 : ∀ w ∈ u_ws RX10 TX10 26, w ∈ wsX10_lost := by decide +kernel
  have h := hf
  unfold f_X10_lost at h
  refine lv_aload_n hx hb dX10_lost_0 rfl (lv_at hl 0 rfl) ?_
  refine lv_iconst (v := 1) hx hb dX10_lost_1 (by decide) ?_
  refine va_put (D := (dC, dI)) (ci := 8) (v := .int (1 : Int32)) (ty := .int) (C := RX10) (T := TX10) (N := 26) hx hb hts hi_X10 tyX10 tyX10_ok nmX10 hown hK hP hD hS 0 rfl rfl 5 (by decide) (hts _ (List.mem_of_getElem? (i := 1) rfl)) (fun _ h9 => h9) rfl (by decide +kernel) rfl rfl (Nat.le_of_ble_eq_true rfl) dX10_lost_2 (fun H locs hP hD hS => ?_)
  replace hP : va_P (dC, dI) vwCl [(h0, .inr (8, [.ref q_now, .ref q_text, .int v_typed, .ref q_row, .int v_rowMany, .int (1 : Int32), .int v_length, .int v_at, .int v_wrong, .ref q_read, .ref q_ranks, .ref q_distinct, .ref q_proper, .int v_properMany, .ref q_line, .ref q_order, .int v_orderMany, .ref q_then, .ref q_bestOrder, .ref q_lineThen, .ref q_undos, .ref q_was, .int v_undoMany, .int v_drawn, .ref q_kept, .ref q_isKept]))] H := hP
  replace hD : va_D A [(h0, .inr (8, [.ref q_now, .ref q_text, .int v_typed, .ref q_row, .int v_rowMany, .int (1 : Int32), .int v_length, .int v_at, .int v_wrong, .ref q_read, .ref q_ranks, .ref q_distinct, .ref q_proper, .int v_properMany, .ref q_line, .ref q_order, .int v_orderMany, .ref q_then, .ref q_bestOrder, .ref q_lineThen, .ref q_undos, .ref q_was, .int v_undoMany, .int v_drawn, .ref q_kept, .ref q_isKept]))] := hD
  refine lv_iconst (v := 0) hx hb dX10_lost_5 (by decide) ?_
  rw [hQQ]
  have ho := Option.some.inj h
  subst ho
  exact W.iret hx hb hr (fun t ht hW => ⟨⟨_, (), rfl, rfl, by rw [ht]; exact hP, va_K.moved hW.alike hK, hD⟩, hS.F ht⟩) hS.2.2 dX10_lost_6
def f_X10_tell (v_rowMany : Int32) (v_row : Nat → Int64) (x1 : Int64) : Option (Int32 × (Nat → Int64)) :=
  (if v_rowMany < 0 ∨ 64 ≤ (v_rowMany).toNatClampNeg then none else (some ((v_rowMany + (1 : Int32)), (vp_updL v_row (v_rowMany).toNatClampNeg x1))))
abbrev rm_X10_tell : Room := { frames := 0, cells := 0, slots := 0, locals := 0 }
set_option maxHeartbeats 4000000 in
set_option maxRecDepth 100000 in
theorem c_X10_tell (l : Launch) (dC : Nat → ClassId) (dI : Nat → Nat → Nat) (cB cC cI cJ cZ cT : ClassId) (h0 q_now q_text q_row q_read q_ranks q_distinct q_proper q_line q_order q_then q_bestOrder q_lineThen q_undos q_was q_kept q_isKept : Nat) (sz : Nat) (v_typed : Int32) (v_rowMany : Int32) (v_thrown : Int32) (v_length : Int32) (v_at : Int32) (v_wrong : Int32) (v_properMany : Int32) (v_orderMany : Int32) (v_undoMany : Int32) (v_drawn : Int32) (v_row : Nat → Int64) (x1 : Int64) (o : (Int32 × (Nat → Int64))) (hf : f_X10_tell v_rowMany v_row x1 = some o) : Met l yX10_tell wsX10_tell rm_X10_tell (va_Pc [.ref h0, .long x1] (fun U => U.heap.size = sz ∧ va_P (dC, dI) vwCl [(h0, .inr (8, [.ref q_now, .ref q_text, .int v_typed, .ref q_row, .int v_rowMany, .int v_thrown, .int v_length, .int v_at, .int v_wrong, .ref q_read, .ref q_ranks, .ref q_distinct, .ref q_proper, .int v_properMany, .ref q_line, .ref q_order, .int v_orderMany, .ref q_then, .ref q_bestOrder, .ref q_lineThen, .ref q_undos, .ref q_was, .int v_undoMany, .int v_drawn, .ref q_kept, .ref q_isKept])), (q_row, .inl (cJ, 64, .inr (.inl v_row)))] U.heap ∧ va_K (dC, dI) vwCl (tyA cB cC cI cJ cZ cT) U ∧ va_D (fun _ => True) [(h0, .inr (8, [.ref q_now, .ref q_text, .int v_typed, .ref q_row, .int v_rowMany, .int v_thrown, .int v_length, .int v_at, .int v_wrong, .ref q_read, .ref q_ranks, .ref q_distinct, .ref q_proper, .int v_properMany, .ref q_line, .ref q_order, .int v_orderMany, .ref q_then, .ref q_bestOrder, .ref q_lineThen, .ref q_undos, .ref q_was, .int v_undoMany, .int v_drawn, .ref q_kept, .ref q_isKept])), (q_row, .inl (cJ, 64, .inr (.inl v_row)))])) (va_Qv (fun _ : Unit => True) (fun _ t => va_P (dC, dI) vwCl [(h0, .inr (8, [.ref q_now, .ref q_text, .int v_typed, .ref q_row, .int o.1, .int v_thrown, .int v_length, .int v_at, .int v_wrong, .ref q_read, .ref q_ranks, .ref q_distinct, .ref q_proper, .int v_properMany, .ref q_line, .ref q_order, .int v_orderMany, .ref q_then, .ref q_bestOrder, .ref q_lineThen, .ref q_undos, .ref q_was, .int v_undoMany, .int v_drawn, .ref q_kept, .ref q_isKept])), (q_row, .inl (cJ, 64, .inr (.inl o.2)))] t.heap ∧ va_K (dC, dI) vwCl (tyA cB cC cI cJ cZ cT) t ∧ va_D (va_A [(h0, .inr (8, [.ref q_now, .ref q_text, .int v_typed, .ref q_row, .int v_rowMany, .int v_thrown, .int v_length, .int v_at, .int v_wrong, .ref q_read, .ref q_ranks, .ref q_distinct, .ref q_proper, .int v_properMany, .ref q_line, .ref q_order, .int v_orderMany, .ref q_then, .ref q_bestOrder, .ref q_lineThen, .ref q_undos, .ref q_was, .int v_undoMany, .int v_drawn, .ref q_kept, .ref q_isKept])), (q_row, .inl (cJ, 64, .inr (.inl v_row)))] sz) [(h0, .inr (8, [.ref q_now, .ref q_text, .int v_typed, .ref q_row, .int o.1, .int v_thrown, .int v_length, .int v_at, .int v_wrong, .ref q_read, .ref q_ranks, .ref q_distinct, .ref q_proper, .int v_properMany, .ref q_line, .ref q_order, .int v_orderMany, .ref q_then, .ref q_bestOrder, .ref q_lineThen, .ref q_undos, .ref q_was, .int v_undoMany, .int v_drawn, .ref q_kept, .ref q_isKept])), (q_row, .inl (cJ, 64, .inr (.inl o.2)))]) (va_A [(h0, .inr (8, [.ref q_now, .ref q_text, .int v_typed, .ref q_row, .int v_rowMany, .int v_thrown, .int v_length, .int v_at, .int v_wrong, .ref q_read, .ref q_ranks, .ref q_distinct, .ref q_proper, .int v_properMany, .ref q_line, .ref q_order, .int v_orderMany, .ref q_then, .ref q_bestOrder, .ref q_lineThen, .ref q_undos, .ref q_was, .int v_undoMany, .int v_drawn, .ref q_kept, .ref q_isKept])), (q_row, .inl (cJ, 64, .inr (.inl v_row)))] sz)) 0 0 (va_A [(h0, .inr (8, [.ref q_now, .ref q_text, .int v_typed, .ref q_row, .int v_rowMany, .int v_thrown, .int v_length, .int v_at, .int v_wrong, .ref q_read, .ref q_ranks, .ref q_distinct, .ref q_proper, .int v_properMany, .ref q_line, .ref q_order, .int v_orderMany, .ref q_then, .ref q_bestOrder, .ref q_lineThen, .ref q_undos, .ref q_was, .int v_undoMany, .int v_drawn, .ref q_kept, .ref q_isKept])), (q_row, .inl (cJ, 64, .inr (.inl v_row)))] sz) := by
  refine Met.ofW (cc := cX10_tell) (maxL := 3) (ret := none) (by decide +kernel) rfl ?_
  intro p e s m args below meth c s₁ B hml hv
  obtain ⟨hav, hsz, hP, hK, hD0⟩ := hv
  have hx := B.exec
  have hb := B.bytes
  have hr := B.returns
  have hts := atoms_spec (ws := wsX10_tell) B.pre
  have hown : s.vm.findClass RX10 = some m.cls := findClass_of_methodNamed B.named
  have hlocks := B.notSynchronized
  subst hsz
  have hD := hD0.self (sz := s.heap.size)
  generalize hAe : va_A [(h0, .inr (8, [.ref q_now, .ref q_text, .int v_typed, .ref q_row, .int v_rowMany, .int v_thrown, .int v_length, .int v_at, .int v_wrong, .ref q_read, .ref q_ranks, .ref q_distinct, .ref q_proper, .int v_properMany, .ref q_line, .ref q_order, .int v_orderMany, .ref q_then, .ref q_bestOrder, .ref q_lineThen, .ref q_undos, .ref q_was, .int v_undoMany, .int v_drawn, .ref q_kept, .ref q_isKept])), (q_row, .inl (cJ, 64, .inr (.inl v_row)))] s.heap.size = A at hD ⊢
  have hA : ∀ q : Nat, s.heap.size ≤ q → A q := fun q h => by rw [← hAe]; exact Or.inr h
  have hS : va_S A s.heap s.heap [] := va_S.rf
  refine wstart (rm := rm_X10_tell) hav (Nat.le_of_ble_eq_true rfl) (fun QQ ls hQQ hl => ?_)
  have hl : lv_has ls 3 [(0, .ref h0), (1, .long x1)] := hl
  have hi_X10 : ∀ w ∈ u_ws RX10 TX10 26, w ∈ wsX10_tell := by decide +kernel
  have h := hf
  unfold f_X10_tell at h
  refine lv_aload_n hx hb dX10_tell_0 rfl (lv_at hl 0 rfl) ?_
  refine va_get (D := (dC, dI)) (ci := 8) (v := .ref q_row) (C := RX10) (T := TX10) (N := 26) hx hb hts hi_X10 hown hK hP 0 rfl rfl 3 (by decide) (hts _ (List.mem_of_getElem? (i := 1) rfl)) (fun _ h9 => h9) rfl dX10_tell_1 ?_
  refine lv_aload_n hx hb dX10_tell_4 rfl (lv_at hl 0 rfl) ?_
  refine va_get (D := (dC, dI)) (ci := 8) (v := .int v_rowMany) (C := RX10) (T := TX10) (N := 26) hx hb hts hi_X10 hown hK hP 0 rfl rfl 4 (by decide) (hts _ (List.mem_of_getElem? (i := 2) rfl)) (fun _ h9 => h9) rfl dX10_tell_5 ?_
  refine lv_lload_n hx hb dX10_tell_8 rfl (lv_at hl 1 rfl) ?_
  obtain ⟨hi_71, h⟩ := og h
  refine va_last hx hb hK hP hD hS 1 1 rfl rfl hi_71 dX10_tell_9 (fun H locs hP hD hS => ?_)
  replace hP : va_P (dC, dI) vwCl [(h0, .inr (8, [.ref q_now, .ref q_text, .int v_typed, .ref q_row, .int v_rowMany, .int v_thrown, .int v_length, .int v_at, .int v_wrong, .ref q_read, .ref q_ranks, .ref q_distinct, .ref q_proper, .int v_properMany, .ref q_line, .ref q_order, .int v_orderMany, .ref q_then, .ref q_bestOrder, .ref q_lineThen, .ref q_undos, .ref q_was, .int v_undoMany, .int v_drawn, .ref q_kept, .ref q_isKept])), (q_row, .inl (cJ, 64, .inr (.inl (vp_updL v_row (v_rowMany).toNatClampNeg x1))))] H := hP
  replace hD : va_D A [(h0, .inr (8, [.ref q_now, .ref q_text, .int v_typed, .ref q_row, .int v_rowMany, .int v_thrown, .int v_length, .int v_at, .int v_wrong, .ref q_read, .ref q_ranks, .ref q_distinct, .ref q_proper, .int v_properMany, .ref q_line, .ref q_order, .int v_orderMany, .ref q_then, .ref q_bestOrder, .ref q_lineThen, .ref q_undos, .ref q_was, .int v_undoMany, .int v_drawn, .ref q_kept, .ref q_isKept])), (q_row, .inl (cJ, 64, .inr (.inl (vp_updL v_row (v_rowMany).toNatClampNeg x1))))] := hD
  refine lv_aload_n hx hb dX10_tell_10 rfl (lv_at hl 0 rfl) ?_
  refine lv_dup hx hb dX10_tell_11 rfl ?_
  refine va_get (D := (dC, dI)) (ci := 8) (v := .int v_rowMany) (C := RX10) (T := TX10) (N := 26) hx hb hts hi_X10 hown hK hP 0 rfl rfl 4 (by decide) (hts _ (List.mem_of_getElem? (i := 2) rfl)) (fun _ h9 => h9) rfl dX10_tell_12 ?_
  refine lv_iconst (v := 1) hx hb dX10_tell_15 (by decide) ?_
  refine lv_iadd hx hb dX10_tell_16 ?_
  refine va_put (D := (dC, dI)) (ci := 8) (v := .int (v_rowMany + (1 : Int32))) (ty := .int) (C := RX10) (T := TX10) (N := 26) hx hb hts hi_X10 tyX10 tyX10_ok nmX10 hown hK hP hD hS 0 rfl rfl 4 (by decide) (hts _ (List.mem_of_getElem? (i := 2) rfl)) (fun _ h9 => h9) rfl (by decide +kernel) rfl rfl (Nat.le_of_ble_eq_true rfl) dX10_tell_17 (fun H locs hP hD hS => ?_)
  replace hP : va_P (dC, dI) vwCl [(h0, .inr (8, [.ref q_now, .ref q_text, .int v_typed, .ref q_row, .int (v_rowMany + (1 : Int32)), .int v_thrown, .int v_length, .int v_at, .int v_wrong, .ref q_read, .ref q_ranks, .ref q_distinct, .ref q_proper, .int v_properMany, .ref q_line, .ref q_order, .int v_orderMany, .ref q_then, .ref q_bestOrder, .ref q_lineThen, .ref q_undos, .ref q_was, .int v_undoMany, .int v_drawn, .ref q_kept, .ref q_isKept])), (q_row, .inl (cJ, 64, .inr (.inl (vp_updL v_row (v_rowMany).toNatClampNeg x1))))] H := hP
  replace hD : va_D A [(h0, .inr (8, [.ref q_now, .ref q_text, .int v_typed, .ref q_row, .int (v_rowMany + (1 : Int32)), .int v_thrown, .int v_length, .int v_at, .int v_wrong, .ref q_read, .ref q_ranks, .ref q_distinct, .ref q_proper, .int v_properMany, .ref q_line, .ref q_order, .int v_orderMany, .ref q_then, .ref q_bestOrder, .ref q_lineThen, .ref q_undos, .ref q_was, .int v_undoMany, .int v_drawn, .ref q_kept, .ref q_isKept])), (q_row, .inl (cJ, 64, .inr (.inl (vp_updL v_row (v_rowMany).toNatClampNeg x1))))] := hD
  rw [hQQ]
  have ho := Option.some.inj h
  subst ho
  exact W.vret hx hb hr (fun t ht hW => ⟨⟨(), rfl, trivial, by rw [ht]; exact hP, va_K.moved hW.alike hK, hD⟩, hS.F ht⟩) hS.2.2 dX10_tell_20
def f_X10_rows (v_now : Nat → Int64) : Option Int32 :=
  (some ((v_now ((0 : Int32)).toNatClampNeg)).toInt32)
abbrev rm_X10_rows : Room := { frames := 0, cells := 0, slots := 0, locals := 0 }
set_option maxHeartbeats 4000000 in
set_option maxRecDepth 100000 in
theorem c_X10_rows (l : Launch) (dC : Nat → ClassId) (dI : Nat → Nat → Nat) (cB cC cI cJ cZ cT : ClassId) (h0 q_now q_text q_row q_read q_ranks q_distinct q_proper q_line q_order q_then q_bestOrder q_lineThen q_undos q_was q_kept q_isKept : Nat) (v_typed : Int32) (v_rowMany : Int32) (v_thrown : Int32) (v_length : Int32) (v_at : Int32) (v_wrong : Int32) (v_properMany : Int32) (v_orderMany : Int32) (v_undoMany : Int32) (v_drawn : Int32) (v_now : Nat → Int64) (o : Int32) (hf : f_X10_rows v_now = some o) : Met l yX10_rows wsX10_rows rm_X10_rows (va_Pc [.ref h0] (fun U => va_P (dC, dI) vwCl [(h0, .inr (8, [.ref q_now, .ref q_text, .int v_typed, .ref q_row, .int v_rowMany, .int v_thrown, .int v_length, .int v_at, .int v_wrong, .ref q_read, .ref q_ranks, .ref q_distinct, .ref q_proper, .int v_properMany, .ref q_line, .ref q_order, .int v_orderMany, .ref q_then, .ref q_bestOrder, .ref q_lineThen, .ref q_undos, .ref q_was, .int v_undoMany, .int v_drawn, .ref q_kept, .ref q_isKept])), (q_now, .inl (cJ, 120, .inr (.inl v_now)))] U.heap ∧ va_K (dC, dI) vwCl (tyA cB cC cI cJ cZ cT) U)) (vp_Si (fun r => o = r)) 0 0 (fun _ => False) := by
  refine Met.ofW (cc := cX10_rows) (maxL := 1) (ret := (some .int)) (by decide +kernel) rfl ?_
  intro p e s m args below meth c s₁ B hml hv
  obtain ⟨hav, hP, hK⟩ := hv
  have hx := B.exec
  have hb := B.bytes
  have hr := B.returns
  have hts := atoms_spec (ws := wsX10_rows) B.pre
  have hown : s.vm.findClass RX10 = some m.cls := findClass_of_methodNamed B.named
  have hlocks := B.notSynchronized
  refine wstart (rm := rm_X10_rows) hav (Nat.le_of_ble_eq_true rfl) (fun QQ ls hQQ hl => ?_)
  have hl : lv_has ls 1 [(0, .ref h0)] := hl
  have hi_X10 : ∀ w ∈ u_ws RX10 TX10 26, w ∈ wsX10_rows := by decide +kernel
  have h := hf
  unfold f_X10_rows at h
  refine lv_aload_n hx hb dX10_rows_0 rfl (lv_at hl 0 rfl) ?_
  refine va_get (D := (dC, dI)) (ci := 8) (v := .ref q_now) (C := RX10) (T := TX10) (N := 26) hx hb hts hi_X10 hown hK hP 0 rfl rfl 0 (by decide) (hts _ (List.mem_of_getElem? (i := 1) rfl)) (fun _ h9 => h9) rfl dX10_rows_1 ?_
  refine lv_iconst (v := 0) hx hb dX10_rows_4 (by decide) ?_
  refine va_lald hx hb hK hP 1 1 rfl rfl (of_decide_eq_false rfl) dX10_rows_5 ?_
  refine lv_l2i (v := ((v_now ((0 : Int32)).toNatClampNeg)).toInt32) hx hb dX10_rows_6 rfl ?_
  rw [hQQ]
  exact W.iret hx hb hr (fun t ht hW => ⟨_, rfl, (Option.some.inj h).symm, ht⟩) (fun q hq => absurd hq List.not_mem_nil) dX10_rows_7
def f_X10_columns (v_now : Nat → Int64) : Option Int32 :=
  (some ((v_now ((1 : Int32)).toNatClampNeg)).toInt32)
abbrev rm_X10_columns : Room := { frames := 0, cells := 0, slots := 0, locals := 0 }
set_option maxHeartbeats 4000000 in
set_option maxRecDepth 100000 in
theorem c_X10_columns (l : Launch) (dC : Nat → ClassId) (dI : Nat → Nat → Nat) (cB cC cI cJ cZ cT : ClassId) (h0 q_now q_text q_row q_read q_ranks q_distinct q_proper q_line q_order q_then q_bestOrder q_lineThen q_undos q_was q_kept q_isKept : Nat) (v_typed : Int32) (v_rowMany : Int32) (v_thrown : Int32) (v_length : Int32) (v_at : Int32) (v_wrong : Int32) (v_properMany : Int32) (v_orderMany : Int32) (v_undoMany : Int32) (v_drawn : Int32) (v_now : Nat → Int64) (o : Int32) (hf : f_X10_columns v_now = some o) : Met l yX10_columns wsX10_columns rm_X10_columns (va_Pc [.ref h0] (fun U => va_P (dC, dI) vwCl [(h0, .inr (8, [.ref q_now, .ref q_text, .int v_typed, .ref q_row, .int v_rowMany, .int v_thrown, .int v_length, .int v_at, .int v_wrong, .ref q_read, .ref q_ranks, .ref q_distinct, .ref q_proper, .int v_properMany, .ref q_line, .ref q_order, .int v_orderMany, .ref q_then, .ref q_bestOrder, .ref q_lineThen, .ref q_undos, .ref q_was, .int v_undoMany, .int v_drawn, .ref q_kept, .ref q_isKept])), (q_now, .inl (cJ, 120, .inr (.inl v_now)))] U.heap ∧ va_K (dC, dI) vwCl (tyA cB cC cI cJ cZ cT) U)) (vp_Si (fun r => o = r)) 0 0 (fun _ => False) := by
  refine Met.ofW (cc := cX10_columns) (maxL := 1) (ret := (some .int)) (by decide +kernel) rfl ?_
  intro p e s m args below meth c s₁ B hml hv
  obtain ⟨hav, hP, hK⟩ := hv
  have hx := B.exec
  have hb := B.bytes
  have hr := B.returns
  have hts := atoms_spec (ws := wsX10_columns) B.pre
  have hown : s.vm.findClass RX10 = some m.cls := findClass_of_methodNamed B.named
  have hlocks := B.notSynchronized
  refine wstart (rm := rm_X10_columns) hav (Nat.le_of_ble_eq_true rfl) (fun QQ ls hQQ hl => ?_)
  have hl : lv_has ls 1 [(0, .ref h0)] := hl
  have hi_X10 : ∀ w ∈ u_ws RX10 TX10 26, w ∈ wsX10_columns := by decide +kernel
  have h := hf
  unfold f_X10_columns at h
  refine lv_aload_n hx hb dX10_columns_0 rfl (lv_at hl 0 rfl) ?_
  refine va_get (D := (dC, dI)) (ci := 8) (v := .ref q_now) (C := RX10) (T := TX10) (N := 26) hx hb hts hi_X10 hown hK hP 0 rfl rfl 0 (by decide) (hts _ (List.mem_of_getElem? (i := 1) rfl)) (fun _ h9 => h9) rfl dX10_columns_1 ?_
  refine lv_iconst (v := 1) hx hb dX10_columns_4 (by decide) ?_
  refine va_lald hx hb hK hP 1 1 rfl rfl (of_decide_eq_false rfl) dX10_columns_5 ?_
  refine lv_l2i (v := ((v_now ((1 : Int32)).toNatClampNeg)).toInt32) hx hb dX10_columns_6 rfl ?_
  rw [hQQ]
  exact W.iret hx hb hr (fun t ht hW => ⟨_, rfl, (Option.some.inj h).symm, ht⟩) (fun q hq => absurd hq List.not_mem_nil) dX10_columns_7
def f_X10_kindOf (v_now : Nat → Int64) (x1 : Int32) : Option Int32 :=
  (if ((2 : Int32) + x1) < 0 ∨ 120 ≤ (((2 : Int32) + x1)).toNatClampNeg then none else (some ((v_now (((2 : Int32) + x1)).toNatClampNeg)).toInt32))
abbrev rm_X10_kindOf : Room := { frames := 0, cells := 0, slots := 0, locals := 0 }
set_option maxHeartbeats 4000000 in
set_option maxRecDepth 100000 in
theorem c_X10_kindOf (l : Launch) (dC : Nat → ClassId) (dI : Nat → Nat → Nat) (cB cC cI cJ cZ cT : ClassId) (h0 q_now q_text q_row q_read q_ranks q_distinct q_proper q_line q_order q_then q_bestOrder q_lineThen q_undos q_was q_kept q_isKept : Nat) (v_typed : Int32) (v_rowMany : Int32) (v_thrown : Int32) (v_length : Int32) (v_at : Int32) (v_wrong : Int32) (v_properMany : Int32) (v_orderMany : Int32) (v_undoMany : Int32) (v_drawn : Int32) (v_now : Nat → Int64) (x1 : Int32) (o : Int32) (hf : f_X10_kindOf v_now x1 = some o) : Met l yX10_kindOf wsX10_kindOf rm_X10_kindOf (va_Pc [.ref h0, .int x1] (fun U => va_P (dC, dI) vwCl [(h0, .inr (8, [.ref q_now, .ref q_text, .int v_typed, .ref q_row, .int v_rowMany, .int v_thrown, .int v_length, .int v_at, .int v_wrong, .ref q_read, .ref q_ranks, .ref q_distinct, .ref q_proper, .int v_properMany, .ref q_line, .ref q_order, .int v_orderMany, .ref q_then, .ref q_bestOrder, .ref q_lineThen, .ref q_undos, .ref q_was, .int v_undoMany, .int v_drawn, .ref q_kept, .ref q_isKept])), (q_now, .inl (cJ, 120, .inr (.inl v_now)))] U.heap ∧ va_K (dC, dI) vwCl (tyA cB cC cI cJ cZ cT) U)) (vp_Si (fun r => o = r)) 0 0 (fun _ => False) := by
  refine Met.ofW (cc := cX10_kindOf) (maxL := 2) (ret := (some .int)) (by decide +kernel) rfl ?_
  intro p e s m args below meth c s₁ B hml hv
  obtain ⟨hav, hP, hK⟩ := hv
  have hx := B.exec
  have hb := B.bytes
  have hr := B.returns
  have hts := atoms_spec (ws := wsX10_kindOf) B.pre
  have hown : s.vm.findClass RX10 = some m.cls := findClass_of_methodNamed B.named
  have hlocks := B.notSynchronized
  refine wstart (rm := rm_X10_kindOf) hav (Nat.le_of_ble_eq_true rfl) (fun QQ ls hQQ hl => ?_)
  have hl : lv_has ls 2 [(0, .ref h0), (1, .int x1)] := hl
  have hi_X10 : ∀ w ∈ u_ws RX10 TX10 26, w ∈ wsX10_kindOf := by decide +kernel
  have h := hf
  unfold f_X10_kindOf at h
  refine lv_aload_n hx hb dX10_kindOf_0 rfl (lv_at hl 0 rfl) ?_
  refine va_get (D := (dC, dI)) (ci := 8) (v := .ref q_now) (C := RX10) (T := TX10) (N := 26) hx hb hts hi_X10 hown hK hP 0 rfl rfl 0 (by decide) (hts _ (List.mem_of_getElem? (i := 1) rfl)) (fun _ h9 => h9) rfl dX10_kindOf_1 ?_
  refine lv_iconst (v := 2) hx hb dX10_kindOf_4 (by decide) ?_
  refine lv_iload_n hx hb dX10_kindOf_5 rfl (lv_at hl 1 rfl) ?_
  refine lv_iadd hx hb dX10_kindOf_6 ?_
  obtain ⟨hi_74, h⟩ := og h
  refine va_lald hx hb hK hP 1 1 rfl rfl hi_74 dX10_kindOf_7 ?_
  refine lv_l2i (v := ((v_now (((2 : Int32) + x1)).toNatClampNeg)).toInt32) hx hb dX10_kindOf_8 rfl ?_
  rw [hQQ]
  exact W.iret hx hb hr (fun t ht hW => ⟨_, rfl, (Option.some.inj h).symm, ht⟩) (fun q hq => absurd hq List.not_mem_nil) dX10_kindOf_9
def f_X10_isColumn (v_now : Nat → Int64) (x1 : Int32) : Option Bool :=
  ((f_X10_columns v_now).bind (fun o_75 => ((f_X10_in x1 (0 : Int32) (o_75 - (1 : Int32))).bind (fun o_77 => (some o_77)))))
abbrev rm_X10_isColumn : Room := { frames := 1, cells := 0, slots := 0, locals := 22 }
set_option maxHeartbeats 4000000 in
set_option maxRecDepth 100000 in
theorem c_X10_isColumn (l : Launch) (dC : Nat → ClassId) (dI : Nat → Nat → Nat) (cB cC cI cJ cZ cT : ClassId) (h0 q_now q_text q_row q_read q_ranks q_distinct q_proper q_line q_order q_then q_bestOrder q_lineThen q_undos q_was q_kept q_isKept : Nat) (v_typed : Int32) (v_rowMany : Int32) (v_thrown : Int32) (v_length : Int32) (v_at : Int32) (v_wrong : Int32) (v_properMany : Int32) (v_orderMany : Int32) (v_undoMany : Int32) (v_drawn : Int32) (v_now : Nat → Int64) (x1 : Int32) (o : Bool) (hf : f_X10_isColumn v_now x1 = some o) : Met l yX10_isColumn wsX10_isColumn rm_X10_isColumn (va_Pc [.ref h0, .int x1] (fun U => va_P (dC, dI) vwCl [(h0, .inr (8, [.ref q_now, .ref q_text, .int v_typed, .ref q_row, .int v_rowMany, .int v_thrown, .int v_length, .int v_at, .int v_wrong, .ref q_read, .ref q_ranks, .ref q_distinct, .ref q_proper, .int v_properMany, .ref q_line, .ref q_order, .int v_orderMany, .ref q_then, .ref q_bestOrder, .ref q_lineThen, .ref q_undos, .ref q_was, .int v_undoMany, .int v_drawn, .ref q_kept, .ref q_isKept])), (q_now, .inl (cJ, 120, .inr (.inl v_now)))] U.heap ∧ va_K (dC, dI) vwCl (tyA cB cC cI cJ cZ cT) U)) (vp_Si (fun r => b2i o = r)) 0 0 (fun _ => False) := by
  refine Met.ofW (cc := cX10_isColumn) (maxL := 2) (ret := (some .boolean)) (by decide +kernel) rfl ?_
  intro p e s m args below meth c s₁ B hml hv
  obtain ⟨hav, hP, hK⟩ := hv
  have hx := B.exec
  have hb := B.bytes
  have hr := B.returns
  have hts := atoms_spec (ws := wsX10_isColumn) B.pre
  have hown : s.vm.findClass RX10 = some m.cls := findClass_of_methodNamed B.named
  have hlocks := B.notSynchronized
  refine wstart (rm := rm_X10_isColumn) hav (Nat.le_of_ble_eq_true rfl) (fun QQ ls hQQ hl => ?_)
  have hl : lv_has ls 2 [(0, .ref h0), (1, .int x1)] := hl
  have h := hf
  unfold f_X10_isColumn at h
  refine lv_iload_n hx hb dX10_isColumn_0 rfl (lv_at hl 1 rfl) ?_
  refine lv_iconst (v := 0) hx hb dX10_isColumn_1 (by decide) ?_
  refine lv_aload_n hx hb dX10_isColumn_2 rfl (lv_at hl 0 rfl) ?_
  obtain ⟨o_75, hr_75, h⟩ := ob h
  refine vp_callSi (va_Run.run (va_runV (As := []) (rest := [.int (0 : Int32), .int x1]) ⟨hx, hb, hml, hown, hts⟩ (c_X10_columns l dC dI cB cC cI cJ cZ cT h0 q_now q_text q_row q_read q_ranks q_distinct q_proper q_line q_order q_then q_bestOrder q_lineThen q_undos q_was q_kept q_isKept v_typed v_rowMany v_thrown v_length v_at v_wrong v_properMany v_orderMany v_undoMany v_drawn v_now o_75 hr_75) (cwV 0 hts gX10_isColumn_X10_columns rfl rfl rfl (by decide +kernel) ⟨Nat.le_of_ble_eq_true rfl, Nat.le_of_ble_eq_true rfl⟩) ⟨blR, va_recv hK hP (ci := 8) (q0 := 0) rfl rfl, fun U hU hW => ⟨rfl, by rw [hU]; exact hP.sub [0, 1] rfl, va_K.moved hW.alike hK⟩⟩ rfl rfl hl.1 rfl (lv_room (Nat.le_of_ble_eq_true rfl)) dX10_isColumn_3 ⟨Nat.le_of_ble_eq_true rfl, Nat.le_of_ble_eq_true rfl⟩)) (fun r_75 e_75 => ?_)
  subst e_75
  refine lv_iconst (v := 1) hx hb dX10_isColumn_6 (by decide) ?_
  refine lv_isub hx hb dX10_isColumn_7 ?_
  obtain ⟨o_77, hr_77, h⟩ := ob h
  refine vp_callSi (va_Run.run (va_runS (As := [.int x1, .int (0 : Int32), .int (o_75 - (1 : Int32))]) (rest := []) ⟨hx, hb, hml, hown, hts⟩ (c_X10_in l dC dI cB cC cI cJ cZ cT x1 (0 : Int32) (o_75 - (1 : Int32)) o_77 hr_77) (va_cwS 3 hts gX10_isColumn_X10_in rfl rfl rfl (by decide +kernel) ⟨Nat.le_of_ble_eq_true rfl, Nat.le_of_ble_eq_true rfl⟩) ⟨blT, fun U hU hW => ⟨rfl, trivial⟩⟩ rfl rfl hl.1 rfl (lv_room (Nat.le_of_ble_eq_true rfl)) dX10_isColumn_8 ⟨Nat.le_of_ble_eq_true rfl, Nat.le_of_ble_eq_true rfl⟩)) (fun r_77 e_77 => ?_)
  subst e_77
  rw [hQQ]
  exact W.zret hx hb hr (nzb _) (fun t ht hW => ⟨_, rfl, (congrArg b2i (Option.some.inj h).symm), ht⟩) (fun q hq => absurd hq List.not_mem_nil) dX10_isColumn_11
def f_X10_isRow (v_now : Nat → Int64) (x1 : Int32) : Option Bool :=
  ((f_X10_rows v_now).bind (fun o_79 => ((f_X10_in x1 (0 : Int32) (o_79 - (1 : Int32))).bind (fun o_81 => (some o_81)))))
abbrev rm_X10_isRow : Room := { frames := 1, cells := 0, slots := 0, locals := 22 }
set_option maxHeartbeats 4000000 in
set_option maxRecDepth 100000 in
theorem c_X10_isRow (l : Launch) (dC : Nat → ClassId) (dI : Nat → Nat → Nat) (cB cC cI cJ cZ cT : ClassId) (h0 q_now q_text q_row q_read q_ranks q_distinct q_proper q_line q_order q_then q_bestOrder q_lineThen q_undos q_was q_kept q_isKept : Nat) (v_typed : Int32) (v_rowMany : Int32) (v_thrown : Int32) (v_length : Int32) (v_at : Int32) (v_wrong : Int32) (v_properMany : Int32) (v_orderMany : Int32) (v_undoMany : Int32) (v_drawn : Int32) (v_now : Nat → Int64) (x1 : Int32) (o : Bool) (hf : f_X10_isRow v_now x1 = some o) : Met l yX10_isRow wsX10_isRow rm_X10_isRow (va_Pc [.ref h0, .int x1] (fun U => va_P (dC, dI) vwCl [(h0, .inr (8, [.ref q_now, .ref q_text, .int v_typed, .ref q_row, .int v_rowMany, .int v_thrown, .int v_length, .int v_at, .int v_wrong, .ref q_read, .ref q_ranks, .ref q_distinct, .ref q_proper, .int v_properMany, .ref q_line, .ref q_order, .int v_orderMany, .ref q_then, .ref q_bestOrder, .ref q_lineThen, .ref q_undos, .ref q_was, .int v_undoMany, .int v_drawn, .ref q_kept, .ref q_isKept])), (q_now, .inl (cJ, 120, .inr (.inl v_now)))] U.heap ∧ va_K (dC, dI) vwCl (tyA cB cC cI cJ cZ cT) U)) (vp_Si (fun r => b2i o = r)) 0 0 (fun _ => False) := by
  refine Met.ofW (cc := cX10_isRow) (maxL := 2) (ret := (some .boolean)) (by decide +kernel) rfl ?_
  intro p e s m args below meth c s₁ B hml hv
  obtain ⟨hav, hP, hK⟩ := hv
  have hx := B.exec
  have hb := B.bytes
  have hr := B.returns
  have hts := atoms_spec (ws := wsX10_isRow) B.pre
  have hown : s.vm.findClass RX10 = some m.cls := findClass_of_methodNamed B.named
  have hlocks := B.notSynchronized
  refine wstart (rm := rm_X10_isRow) hav (Nat.le_of_ble_eq_true rfl) (fun QQ ls hQQ hl => ?_)
  have hl : lv_has ls 2 [(0, .ref h0), (1, .int x1)] := hl
  have h := hf
  unfold f_X10_isRow at h
  refine lv_iload_n hx hb dX10_isRow_0 rfl (lv_at hl 1 rfl) ?_
  refine lv_iconst (v := 0) hx hb dX10_isRow_1 (by decide) ?_
  refine lv_aload_n hx hb dX10_isRow_2 rfl (lv_at hl 0 rfl) ?_
  obtain ⟨o_79, hr_79, h⟩ := ob h
  refine vp_callSi (va_Run.run (va_runV (As := []) (rest := [.int (0 : Int32), .int x1]) ⟨hx, hb, hml, hown, hts⟩ (c_X10_rows l dC dI cB cC cI cJ cZ cT h0 q_now q_text q_row q_read q_ranks q_distinct q_proper q_line q_order q_then q_bestOrder q_lineThen q_undos q_was q_kept q_isKept v_typed v_rowMany v_thrown v_length v_at v_wrong v_properMany v_orderMany v_undoMany v_drawn v_now o_79 hr_79) (cwV 0 hts gX10_isRow_X10_rows rfl rfl rfl (by decide +kernel) ⟨Nat.le_of_ble_eq_true rfl, Nat.le_of_ble_eq_true rfl⟩) ⟨blR, va_recv hK hP (ci := 8) (q0 := 0) rfl rfl, fun U hU hW => ⟨rfl, by rw [hU]; exact hP.sub [0, 1] rfl, va_K.moved hW.alike hK⟩⟩ rfl rfl hl.1 rfl (lv_room (Nat.le_of_ble_eq_true rfl)) dX10_isRow_3 ⟨Nat.le_of_ble_eq_true rfl, Nat.le_of_ble_eq_true rfl⟩)) (fun r_79 e_79 => ?_)
  subst e_79
  refine lv_iconst (v := 1) hx hb dX10_isRow_6 (by decide) ?_
  refine lv_isub hx hb dX10_isRow_7 ?_
  obtain ⟨o_81, hr_81, h⟩ := ob h
  refine vp_callSi (va_Run.run (va_runS (As := [.int x1, .int (0 : Int32), .int (o_79 - (1 : Int32))]) (rest := []) ⟨hx, hb, hml, hown, hts⟩ (c_X10_in l dC dI cB cC cI cJ cZ cT x1 (0 : Int32) (o_79 - (1 : Int32)) o_81 hr_81) (va_cwS 3 hts gX10_isRow_X10_in rfl rfl rfl (by decide +kernel) ⟨Nat.le_of_ble_eq_true rfl, Nat.le_of_ble_eq_true rfl⟩) ⟨blT, fun U hU hW => ⟨rfl, trivial⟩⟩ rfl rfl hl.1 rfl (lv_room (Nat.le_of_ble_eq_true rfl)) dX10_isRow_8 ⟨Nat.le_of_ble_eq_true rfl, Nat.le_of_ble_eq_true rfl⟩)) (fun r_81 e_81 => ?_)
  subst e_81
  rw [hQQ]
  exact W.zret hx hb hr (nzb _) (fun t ht hW => ⟨_, rfl, (congrArg b2i (Option.some.inj h).symm), ht⟩) (fun q hq => absurd hq List.not_mem_nil) dX10_isRow_11
def f_X10_isProper (v_now : Nat → Int64) (x1 : Int32) : Option Bool :=
  ((f_X10_isColumn v_now x1).bind (fun o_83 => (if (b2i o_83) = 0 then (some false) else ((f_X10_kindOf v_now x1).bind (fun o_86 => (if (10 : Int32) < o_86 then (some false) else (some true)))))))
abbrev rm_X10_isProper : Room := { frames := 2, cells := 0, slots := 0, locals := 43 }
set_option maxHeartbeats 4000000 in
set_option maxRecDepth 100000 in
theorem c_X10_isProper (l : Launch) (dC : Nat → ClassId) (dI : Nat → Nat → Nat) (cB cC cI cJ cZ cT : ClassId) (h0 q_now q_text q_row q_read q_ranks q_distinct q_proper q_line q_order q_then q_bestOrder q_lineThen q_undos q_was q_kept q_isKept : Nat) (v_typed : Int32) (v_rowMany : Int32) (v_thrown : Int32) (v_length : Int32) (v_at : Int32) (v_wrong : Int32) (v_properMany : Int32) (v_orderMany : Int32) (v_undoMany : Int32) (v_drawn : Int32) (v_now : Nat → Int64) (x1 : Int32) (o : Bool) (hf : f_X10_isProper v_now x1 = some o) : Met l yX10_isProper wsX10_isProper rm_X10_isProper (va_Pc [.ref h0, .int x1] (fun U => va_P (dC, dI) vwCl [(h0, .inr (8, [.ref q_now, .ref q_text, .int v_typed, .ref q_row, .int v_rowMany, .int v_thrown, .int v_length, .int v_at, .int v_wrong, .ref q_read, .ref q_ranks, .ref q_distinct, .ref q_proper, .int v_properMany, .ref q_line, .ref q_order, .int v_orderMany, .ref q_then, .ref q_bestOrder, .ref q_lineThen, .ref q_undos, .ref q_was, .int v_undoMany, .int v_drawn, .ref q_kept, .ref q_isKept])), (q_now, .inl (cJ, 120, .inr (.inl v_now)))] U.heap ∧ va_K (dC, dI) vwCl (tyA cB cC cI cJ cZ cT) U)) (vp_Si (fun r => b2i o = r)) 0 0 (fun _ => False) := by
  refine Met.ofW (cc := cX10_isProper) (maxL := 2) (ret := (some .boolean)) (by decide +kernel) rfl ?_
  intro p e s m args below meth c s₁ B hml hv
  obtain ⟨hav, hP, hK⟩ := hv
  have hx := B.exec
  have hb := B.bytes
  have hr := B.returns
  have hts := atoms_spec (ws := wsX10_isProper) B.pre
  have hown : s.vm.findClass RX10 = some m.cls := findClass_of_methodNamed B.named
  have hlocks := B.notSynchronized
  refine wstart (rm := rm_X10_isProper) hav (Nat.le_of_ble_eq_true rfl) (fun QQ ls hQQ hl => ?_)
  have hl : lv_has ls 2 [(0, .ref h0), (1, .int x1)] := hl
  have h := hf
  unfold f_X10_isProper at h
  refine lv_aload_n hx hb dX10_isProper_0 rfl (lv_at hl 0 rfl) ?_
  refine lv_iload_n hx hb dX10_isProper_1 rfl (lv_at hl 1 rfl) ?_
  obtain ⟨o_83, hr_83, h⟩ := ob h
  refine vp_callSi (va_Run.run (va_runV (As := [.int x1]) (rest := []) ⟨hx, hb, hml, hown, hts⟩ (c_X10_isColumn l dC dI cB cC cI cJ cZ cT h0 q_now q_text q_row q_read q_ranks q_distinct q_proper q_line q_order q_then q_bestOrder q_lineThen q_undos q_was q_kept q_isKept v_typed v_rowMany v_thrown v_length v_at v_wrong v_properMany v_orderMany v_undoMany v_drawn v_now x1 o_83 hr_83) (cwV 1 hts gX10_isProper_X10_isColumn rfl rfl rfl (by decide +kernel) ⟨Nat.le_of_ble_eq_true rfl, Nat.le_of_ble_eq_true rfl⟩) ⟨blR, va_recv hK hP (ci := 8) (q0 := 0) rfl rfl, fun U hU hW => ⟨rfl, by rw [hU]; exact hP.sub [0, 1] rfl, va_K.moved hW.alike hK⟩⟩ rfl rfl hl.1 rfl (lv_room (Nat.le_of_ble_eq_true rfl)) dX10_isProper_2 ⟨Nat.le_of_ble_eq_true rfl, Nat.le_of_ble_eq_true rfl⟩)) (fun r_83 e_83 => ?_)
  subst e_83
  refine lv_if_eq (tgt := 22) hx hb dX10_isProper_5 (by decide) (fun c_85 => ?_) (fun c_85 => ?_)
  · replace h := op c_85 h
    refine lv_iconst (v := 0) hx hb dX10_isProper_22 (by decide) ?_
    rw [hQQ]
    exact W.zret hx hb hr rfl (fun t ht hW => ⟨_, rfl, (congrArg b2i (Option.some.inj h).symm), ht⟩) (fun q hq => absurd hq List.not_mem_nil) dX10_isProper_23
  · replace h := on c_85 h
    refine lv_aload_n hx hb dX10_isProper_8 rfl (lv_at hl 0 rfl) ?_
    refine lv_iload_n hx hb dX10_isProper_9 rfl (lv_at hl 1 rfl) ?_
    obtain ⟨o_86, hr_86, h⟩ := ob h
    refine vp_callSi (va_Run.run (va_runV (As := [.int x1]) (rest := []) ⟨hx, hb, hml, hown, hts⟩ (c_X10_kindOf l dC dI cB cC cI cJ cZ cT h0 q_now q_text q_row q_read q_ranks q_distinct q_proper q_line q_order q_then q_bestOrder q_lineThen q_undos q_was q_kept q_isKept v_typed v_rowMany v_thrown v_length v_at v_wrong v_properMany v_orderMany v_undoMany v_drawn v_now x1 o_86 hr_86) (cwV 1 hts gX10_isProper_X10_kindOf rfl rfl rfl (by decide +kernel) ⟨Nat.le_of_ble_eq_true rfl, Nat.le_of_ble_eq_true rfl⟩) ⟨blR, va_recv hK hP (ci := 8) (q0 := 0) rfl rfl, fun U hU hW => ⟨rfl, by rw [hU]; exact hP.sub [0, 1] rfl, va_K.moved hW.alike hK⟩⟩ rfl rfl hl.1 rfl (lv_room (Nat.le_of_ble_eq_true rfl)) dX10_isProper_10 ⟨Nat.le_of_ble_eq_true rfl, Nat.le_of_ble_eq_true rfl⟩)) (fun r_86 e_86 => ?_)
    subst e_86
    refine lv_bipush (v := 10) hx hb dX10_isProper_13 (by decide) ?_
    refine lv_icmp_gt (tgt := 22) hx hb dX10_isProper_15 (by decide) (fun c_88 => ?_) (fun c_88 => ?_)
    · replace h := op c_88 h
      refine lv_iconst (v := 0) hx hb dX10_isProper_22 (by decide) ?_
      rw [hQQ]
      exact W.zret hx hb hr rfl (fun t ht hW => ⟨_, rfl, (congrArg b2i (Option.some.inj h).symm), ht⟩) (fun q hq => absurd hq List.not_mem_nil) dX10_isProper_23
    · replace h := on c_88 h
      refine lv_iconst (v := 1) hx hb dX10_isProper_18 (by decide) ?_
      refine lv_goto (tgt := 23) hx hb dX10_isProper_19 (by decide) ?_
      rw [hQQ]
      exact W.zret hx hb hr rfl (fun t ht hW => ⟨_, rfl, (congrArg b2i (Option.some.inj h).symm), ht⟩) (fun q hq => absurd hq List.not_mem_nil) dX10_isProper_23
def f_X10_cellAt (x0 : Int32) (x1 : Int32) : Option Int32 :=
  (some (((24 : Int32) + ((16 : Int32) * x0)) + x1))
abbrev rm_X10_cellAt : Room := { frames := 0, cells := 0, slots := 0, locals := 0 }
set_option maxHeartbeats 4000000 in
set_option maxRecDepth 100000 in
theorem c_X10_cellAt (l : Launch) (dC : Nat → ClassId) (dI : Nat → Nat → Nat) (cB cC cI cJ cZ cT : ClassId) (x0 : Int32) (x1 : Int32) (o : Int32) (hf : f_X10_cellAt x0 x1 = some o) : Met l yX10_cellAt wsX10_cellAt rm_X10_cellAt (va_Pc [.int x0, .int x1] (fun _ => True)) (vp_Si (fun r => o = r)) 0 0 (fun _ => False) := by
  refine Met.ofW (cc := cX10_cellAt) (maxL := 2) (ret := (some .int)) (by decide +kernel) rfl ?_
  intro p e s m args below meth c s₁ B hml hv
  obtain ⟨hav, -⟩ := hv
  have hx := B.exec
  have hb := B.bytes
  have hr := B.returns
  have hts := atoms_spec (ws := wsX10_cellAt) B.pre
  have hown : s.vm.findClass RX10 = some m.cls := findClass_of_methodNamed B.named
  have hlocks := B.notSynchronized
  refine wstart (rm := rm_X10_cellAt) hav (Nat.le_of_ble_eq_true rfl) (fun QQ ls hQQ hl => ?_)
  have hl : lv_has ls 2 [(0, .int x0), (1, .int x1)] := hl
  have h := hf
  unfold f_X10_cellAt at h
  refine lv_bipush (v := 24) hx hb dX10_cellAt_0 (by decide) ?_
  refine lv_bipush (v := 16) hx hb dX10_cellAt_2 (by decide) ?_
  refine lv_iload_n hx hb dX10_cellAt_4 rfl (lv_at hl 0 rfl) ?_
  refine lv_imul hx hb dX10_cellAt_5 ?_
  refine lv_iadd hx hb dX10_cellAt_6 ?_
  refine lv_iload_n hx hb dX10_cellAt_7 rfl (lv_at hl 1 rfl) ?_
  refine lv_iadd hx hb dX10_cellAt_8 ?_
  rw [hQQ]
  exact W.iret hx hb hr (fun t ht hW => ⟨_, rfl, (Option.some.inj h).symm, ht⟩) (fun q hq => absurd hq List.not_mem_nil) dX10_cellAt_9
def f_X10_cell (v_now : Nat → Int64) (x1 : Int32) (x2 : Int32) : Option Int64 :=
  ((f_X10_cellAt x1 x2).bind (fun o_89 => (if o_89 < 0 ∨ 120 ≤ (o_89).toNatClampNeg then none else (some (v_now (o_89).toNatClampNeg)))))
abbrev rm_X10_cell : Room := { frames := 1, cells := 0, slots := 0, locals := 21 }
set_option maxHeartbeats 4000000 in
set_option maxRecDepth 100000 in
theorem c_X10_cell (l : Launch) (dC : Nat → ClassId) (dI : Nat → Nat → Nat) (cB cC cI cJ cZ cT : ClassId) (h0 q_now q_text q_row q_read q_ranks q_distinct q_proper q_line q_order q_then q_bestOrder q_lineThen q_undos q_was q_kept q_isKept : Nat) (v_typed : Int32) (v_rowMany : Int32) (v_thrown : Int32) (v_length : Int32) (v_at : Int32) (v_wrong : Int32) (v_properMany : Int32) (v_orderMany : Int32) (v_undoMany : Int32) (v_drawn : Int32) (v_now : Nat → Int64) (x1 : Int32) (x2 : Int32) (o : Int64) (hf : f_X10_cell v_now x1 x2 = some o) : Met l yX10_cell wsX10_cell rm_X10_cell (va_Pc [.ref h0, .int x1, .int x2] (fun U => va_P (dC, dI) vwCl [(h0, .inr (8, [.ref q_now, .ref q_text, .int v_typed, .ref q_row, .int v_rowMany, .int v_thrown, .int v_length, .int v_at, .int v_wrong, .ref q_read, .ref q_ranks, .ref q_distinct, .ref q_proper, .int v_properMany, .ref q_line, .ref q_order, .int v_orderMany, .ref q_then, .ref q_bestOrder, .ref q_lineThen, .ref q_undos, .ref q_was, .int v_undoMany, .int v_drawn, .ref q_kept, .ref q_isKept])), (q_now, .inl (cJ, 120, .inr (.inl v_now)))] U.heap ∧ va_K (dC, dI) vwCl (tyA cB cC cI cJ cZ cT) U)) (vp_Sl (fun r => o = r)) 0 0 (fun _ => False) := by
  refine Met.ofW (cc := cX10_cell) (maxL := 3) (ret := (some .long)) (by decide +kernel) rfl ?_
  intro p e s m args below meth c s₁ B hml hv
  obtain ⟨hav, hP, hK⟩ := hv
  have hx := B.exec
  have hb := B.bytes
  have hr := B.returns
  have hts := atoms_spec (ws := wsX10_cell) B.pre
  have hown : s.vm.findClass RX10 = some m.cls := findClass_of_methodNamed B.named
  have hlocks := B.notSynchronized
  refine wstart (rm := rm_X10_cell) hav (Nat.le_of_ble_eq_true rfl) (fun QQ ls hQQ hl => ?_)
  have hl : lv_has ls 3 [(0, .ref h0), (1, .int x1), (2, .int x2)] := hl
  have hi_X10 : ∀ w ∈ u_ws RX10 TX10 26, w ∈ wsX10_cell := by decide +kernel
  have h := hf
  unfold f_X10_cell at h
  refine lv_aload_n hx hb dX10_cell_0 rfl (lv_at hl 0 rfl) ?_
  refine va_get (D := (dC, dI)) (ci := 8) (v := .ref q_now) (C := RX10) (T := TX10) (N := 26) hx hb hts hi_X10 hown hK hP 0 rfl rfl 0 (by decide) (hts _ (List.mem_of_getElem? (i := 1) rfl)) (fun _ h9 => h9) rfl dX10_cell_1 ?_
  refine lv_iload_n hx hb dX10_cell_4 rfl (lv_at hl 1 rfl) ?_
  refine lv_iload_n hx hb dX10_cell_5 rfl (lv_at hl 2 rfl) ?_
  obtain ⟨o_89, hr_89, h⟩ := ob h
  refine vp_callSi (va_Run.run (va_runS (As := [.int x1, .int x2]) (rest := [.ref q_now]) ⟨hx, hb, hml, hown, hts⟩ (c_X10_cellAt l dC dI cB cC cI cJ cZ cT x1 x2 o_89 hr_89) (va_cwS 2 hts gX10_cell_X10_cellAt rfl rfl rfl (by decide +kernel) ⟨Nat.le_of_ble_eq_true rfl, Nat.le_of_ble_eq_true rfl⟩) ⟨blT, fun U hU hW => ⟨rfl, trivial⟩⟩ rfl rfl hl.1 rfl (lv_room (Nat.le_of_ble_eq_true rfl)) dX10_cell_6 ⟨Nat.le_of_ble_eq_true rfl, Nat.le_of_ble_eq_true rfl⟩)) (fun r_89 e_89 => ?_)
  subst e_89
  obtain ⟨hi_91, h⟩ := og h
  refine va_lald hx hb hK hP 1 1 rfl rfl hi_91 dX10_cell_9 ?_
  rw [hQQ]
  exact W.lret hx hb hr (fun t ht hW => ⟨_, rfl, (Option.some.inj h).symm, ht⟩) (fun q hq => absurd hq List.not_mem_nil) dX10_cell_10
def f_X10_isWay (x0 : Int32) : Option Bool :=
  ((f_X10_in x0 (0 : Int32) (7 : Int32)).bind (fun o_92 => (if (b2i o_92) = 0 then ((f_X10_in x0 (10 : Int32) (21 : Int32)).bind (fun o_95 => (if (b2i o_95) = 0 then (some false) else (some true)))) else (some true))))
abbrev rm_X10_isWay : Room := { frames := 1, cells := 0, slots := 0, locals := 22 }
set_option maxHeartbeats 4000000 in
set_option maxRecDepth 100000 in
theorem c_X10_isWay (l : Launch) (dC : Nat → ClassId) (dI : Nat → Nat → Nat) (cB cC cI cJ cZ cT : ClassId) (x0 : Int32) (o : Bool) (hf : f_X10_isWay x0 = some o) : Met l yX10_isWay wsX10_isWay rm_X10_isWay (va_Pc [.int x0] (fun _ => True)) (vp_Si (fun r => b2i o = r)) 0 0 (fun _ => False) := by
  refine Met.ofW (cc := cX10_isWay) (maxL := 1) (ret := (some .boolean)) (by decide +kernel) rfl ?_
  intro p e s m args below meth c s₁ B hml hv
  obtain ⟨hav, -⟩ := hv
  have hx := B.exec
  have hb := B.bytes
  have hr := B.returns
  have hts := atoms_spec (ws := wsX10_isWay) B.pre
  have hown : s.vm.findClass RX10 = some m.cls := findClass_of_methodNamed B.named
  have hlocks := B.notSynchronized
  refine wstart (rm := rm_X10_isWay) hav (Nat.le_of_ble_eq_true rfl) (fun QQ ls hQQ hl => ?_)
  have hl : lv_has ls 1 [(0, .int x0)] := hl
  have h := hf
  unfold f_X10_isWay at h
  refine lv_iload_n hx hb dX10_isWay_0 rfl (lv_at hl 0 rfl) ?_
  refine lv_iconst (v := 0) hx hb dX10_isWay_1 (by decide) ?_
  refine lv_bipush (v := 7) hx hb dX10_isWay_2 (by decide) ?_
  obtain ⟨o_92, hr_92, h⟩ := ob h
  refine vp_callSi (va_Run.run (va_runS (As := [.int x0, .int (0 : Int32), .int (7 : Int32)]) (rest := []) ⟨hx, hb, hml, hown, hts⟩ (c_X10_in l dC dI cB cC cI cJ cZ cT x0 (0 : Int32) (7 : Int32) o_92 hr_92) (va_cwS 3 hts gX10_isWay_X10_in rfl rfl rfl (by decide +kernel) ⟨Nat.le_of_ble_eq_true rfl, Nat.le_of_ble_eq_true rfl⟩) ⟨blT, fun U hU hW => ⟨rfl, trivial⟩⟩ rfl rfl hl.1 rfl (lv_room (Nat.le_of_ble_eq_true rfl)) dX10_isWay_4 ⟨Nat.le_of_ble_eq_true rfl, Nat.le_of_ble_eq_true rfl⟩)) (fun r_92 e_92 => ?_)
  subst e_92
  refine lv_if_ne (tgt := 21) hx hb dX10_isWay_7 (by decide) (fun c_94 => ?_) (fun c_94 => ?_)
  · replace h := on c_94 h
    refine lv_iconst (v := 1) hx hb dX10_isWay_21 (by decide) ?_
    refine lv_goto (tgt := 26) hx hb dX10_isWay_22 (by decide) ?_
    rw [hQQ]
    exact W.zret hx hb hr rfl (fun t ht hW => ⟨_, rfl, (congrArg b2i (Option.some.inj h).symm), ht⟩) (fun q hq => absurd hq List.not_mem_nil) dX10_isWay_26
  · replace h := op c_94 h
    refine lv_iload_n hx hb dX10_isWay_10 rfl (lv_at hl 0 rfl) ?_
    refine lv_bipush (v := 10) hx hb dX10_isWay_11 (by decide) ?_
    refine lv_bipush (v := 21) hx hb dX10_isWay_13 (by decide) ?_
    obtain ⟨o_95, hr_95, h⟩ := ob h
    refine vp_callSi (va_Run.run (va_runS (As := [.int x0, .int (10 : Int32), .int (21 : Int32)]) (rest := []) ⟨hx, hb, hml, hown, hts⟩ (c_X10_in l dC dI cB cC cI cJ cZ cT x0 (10 : Int32) (21 : Int32) o_95 hr_95) (va_cwS 3 hts gX10_isWay_X10_in rfl rfl rfl (by decide +kernel) ⟨Nat.le_of_ble_eq_true rfl, Nat.le_of_ble_eq_true rfl⟩) ⟨blT, fun U hU hW => ⟨rfl, trivial⟩⟩ rfl rfl hl.1 rfl (lv_room (Nat.le_of_ble_eq_true rfl)) dX10_isWay_15 ⟨Nat.le_of_ble_eq_true rfl, Nat.le_of_ble_eq_true rfl⟩)) (fun r_95 e_95 => ?_)
    subst e_95
    refine lv_if_eq (tgt := 25) hx hb dX10_isWay_18 (by decide) (fun c_97 => ?_) (fun c_97 => ?_)
    · replace h := op c_97 h
      refine lv_iconst (v := 0) hx hb dX10_isWay_25 (by decide) ?_
      rw [hQQ]
      exact W.zret hx hb hr rfl (fun t ht hW => ⟨_, rfl, (congrArg b2i (Option.some.inj h).symm), ht⟩) (fun q hq => absurd hq List.not_mem_nil) dX10_isWay_26
    · replace h := on c_97 h
      refine lv_iconst (v := 1) hx hb dX10_isWay_21 (by decide) ?_
      refine lv_goto (tgt := 26) hx hb dX10_isWay_22 (by decide) ?_
      rw [hQQ]
      exact W.zret hx hb hr rfl (fun t ht hW => ⟨_, rfl, (congrArg b2i (Option.some.inj h).symm), ht⟩) (fun q hq => absurd hq List.not_mem_nil) dX10_isWay_26
def L_X10_sign_20 (x1 : Int32) : Nat → Int32 → Int32 → (Nat → Int32) → Option (Int32 × (Nat → Int32))
  | 0, _, _, _ => none
  | n+1, x2_20, v_typed_20, v_text_20 => (if x2_20 < 0 then (some (v_typed_20, v_text_20)) else (if v_typed_20 < 0 ∨ 80 ≤ (v_typed_20).toNatClampNeg then none else (L_X10_sign_20 x1 n (x2_20 + (-1)) (v_typed_20 + (1 : Int32)) (upd v_text_20 (v_typed_20).toNatClampNeg (vp_nar .byte (to_b (x1 >>> (((8 : Int32) * x2_20) &&& 31))))))))
def f_X10_sign (v_typed : Int32) (v_text : Nat → Int32) (x1 : Int32) : Option (Int32 × Int32 × Int32 × (Nat → Int32)) :=
  (if (v_typed + (4 : Int32)) ≤ (80 : Int32) then ((L_X10_sign_20 x1 fu (3 : Int32) v_typed v_text).bind (fun w_101 => (some (w_101.1, w_101.1, (0 : Int32), w_101.2)))) else (some ((-1 : Int32), v_typed, (0 : Int32), v_text)))
abbrev rm_X10_sign : Room := { frames := 0, cells := 0, slots := 0, locals := 0 }
set_option maxHeartbeats 4000000 in
set_option maxRecDepth 100000 in
theorem c_X10_sign (l : Launch) (dC : Nat → ClassId) (dI : Nat → Nat → Nat) (cB cC cI cJ cZ cT : ClassId) (h0 q_now q_text q_row q_read q_ranks q_distinct q_proper q_line q_order q_then q_bestOrder q_lineThen q_undos q_was q_kept q_isKept : Nat) (sz : Nat) (v_typed : Int32) (v_rowMany : Int32) (v_thrown : Int32) (v_length : Int32) (v_at : Int32) (v_wrong : Int32) (v_properMany : Int32) (v_orderMany : Int32) (v_undoMany : Int32) (v_drawn : Int32) (v_text : Nat → Int32) (x1 : Int32) (o : (Int32 × Int32 × Int32 × (Nat → Int32))) (hf : f_X10_sign v_typed v_text x1 = some o) : Met l yX10_sign wsX10_sign rm_X10_sign (va_Pc [.ref h0, .int x1] (fun U => U.heap.size = sz ∧ va_P (dC, dI) vwCl [(h0, .inr (8, [.ref q_now, .ref q_text, .int v_typed, .ref q_row, .int v_rowMany, .int v_thrown, .int v_length, .int v_at, .int v_wrong, .ref q_read, .ref q_ranks, .ref q_distinct, .ref q_proper, .int v_properMany, .ref q_line, .ref q_order, .int v_orderMany, .ref q_then, .ref q_bestOrder, .ref q_lineThen, .ref q_undos, .ref q_was, .int v_undoMany, .int v_drawn, .ref q_kept, .ref q_isKept])), (q_text, .inl (cB, 80, .inl v_text))] U.heap ∧ va_K (dC, dI) vwCl (tyA cB cC cI cJ cZ cT) U ∧ va_D (fun _ => True) [(h0, .inr (8, [.ref q_now, .ref q_text, .int v_typed, .ref q_row, .int v_rowMany, .int v_thrown, .int v_length, .int v_at, .int v_wrong, .ref q_read, .ref q_ranks, .ref q_distinct, .ref q_proper, .int v_properMany, .ref q_line, .ref q_order, .int v_orderMany, .ref q_then, .ref q_bestOrder, .ref q_lineThen, .ref q_undos, .ref q_was, .int v_undoMany, .int v_drawn, .ref q_kept, .ref q_isKept])), (q_text, .inl (cB, 80, .inl v_text))])) (va_Qi (fun (r : Int32) (_ : Unit) => o.1 = r) (fun _ t => va_P (dC, dI) vwCl [(h0, .inr (8, [.ref q_now, .ref q_text, .int o.2.1, .ref q_row, .int v_rowMany, .int o.2.2.1, .int v_length, .int v_at, .int v_wrong, .ref q_read, .ref q_ranks, .ref q_distinct, .ref q_proper, .int v_properMany, .ref q_line, .ref q_order, .int v_orderMany, .ref q_then, .ref q_bestOrder, .ref q_lineThen, .ref q_undos, .ref q_was, .int v_undoMany, .int v_drawn, .ref q_kept, .ref q_isKept])), (q_text, .inl (cB, 80, .inl o.2.2.2))] t.heap ∧ va_K (dC, dI) vwCl (tyA cB cC cI cJ cZ cT) t ∧ va_D (va_A [(h0, .inr (8, [.ref q_now, .ref q_text, .int v_typed, .ref q_row, .int v_rowMany, .int v_thrown, .int v_length, .int v_at, .int v_wrong, .ref q_read, .ref q_ranks, .ref q_distinct, .ref q_proper, .int v_properMany, .ref q_line, .ref q_order, .int v_orderMany, .ref q_then, .ref q_bestOrder, .ref q_lineThen, .ref q_undos, .ref q_was, .int v_undoMany, .int v_drawn, .ref q_kept, .ref q_isKept])), (q_text, .inl (cB, 80, .inl v_text))] sz) [(h0, .inr (8, [.ref q_now, .ref q_text, .int o.2.1, .ref q_row, .int v_rowMany, .int o.2.2.1, .int v_length, .int v_at, .int v_wrong, .ref q_read, .ref q_ranks, .ref q_distinct, .ref q_proper, .int v_properMany, .ref q_line, .ref q_order, .int v_orderMany, .ref q_then, .ref q_bestOrder, .ref q_lineThen, .ref q_undos, .ref q_was, .int v_undoMany, .int v_drawn, .ref q_kept, .ref q_isKept])), (q_text, .inl (cB, 80, .inl o.2.2.2))]) (va_A [(h0, .inr (8, [.ref q_now, .ref q_text, .int v_typed, .ref q_row, .int v_rowMany, .int v_thrown, .int v_length, .int v_at, .int v_wrong, .ref q_read, .ref q_ranks, .ref q_distinct, .ref q_proper, .int v_properMany, .ref q_line, .ref q_order, .int v_orderMany, .ref q_then, .ref q_bestOrder, .ref q_lineThen, .ref q_undos, .ref q_was, .int v_undoMany, .int v_drawn, .ref q_kept, .ref q_isKept])), (q_text, .inl (cB, 80, .inl v_text))] sz)) 0 0 (va_A [(h0, .inr (8, [.ref q_now, .ref q_text, .int v_typed, .ref q_row, .int v_rowMany, .int v_thrown, .int v_length, .int v_at, .int v_wrong, .ref q_read, .ref q_ranks, .ref q_distinct, .ref q_proper, .int v_properMany, .ref q_line, .ref q_order, .int v_orderMany, .ref q_then, .ref q_bestOrder, .ref q_lineThen, .ref q_undos, .ref q_was, .int v_undoMany, .int v_drawn, .ref q_kept, .ref q_isKept])), (q_text, .inl (cB, 80, .inl v_text))] sz) := by
  refine Met.ofW (cc := cX10_sign) (maxL := 3) (ret := (some .int)) (by decide +kernel) rfl ?_
  intro p e s m args below meth c s₁ B hml hv
  obtain ⟨hav, hsz, hP, hK, hD0⟩ := hv
  have hx := B.exec
  have hb := B.bytes
  have hr := B.returns
  have hts := atoms_spec (ws := wsX10_sign) B.pre
  have hown : s.vm.findClass RX10 = some m.cls := findClass_of_methodNamed B.named
  have hlocks := B.notSynchronized
  subst hsz
  have hD := hD0.self (sz := s.heap.size)
  generalize hAe : va_A [(h0, .inr (8, [.ref q_now, .ref q_text, .int v_typed, .ref q_row, .int v_rowMany, .int v_thrown, .int v_length, .int v_at, .int v_wrong, .ref q_read, .ref q_ranks, .ref q_distinct, .ref q_proper, .int v_properMany, .ref q_line, .ref q_order, .int v_orderMany, .ref q_then, .ref q_bestOrder, .ref q_lineThen, .ref q_undos, .ref q_was, .int v_undoMany, .int v_drawn, .ref q_kept, .ref q_isKept])), (q_text, .inl (cB, 80, .inl v_text))] s.heap.size = A at hD ⊢
  have hA : ∀ q : Nat, s.heap.size ≤ q → A q := fun q h => by rw [← hAe]; exact Or.inr h
  have hS : va_S A s.heap s.heap [] := va_S.rf
  refine wstart (rm := rm_X10_sign) hav (Nat.le_of_ble_eq_true rfl) (fun QQ ls hQQ hl => ?_)
  have hl : lv_has ls 3 [(0, .ref h0), (1, .int x1)] := hl
  have hi_X10 : ∀ w ∈ u_ws RX10 TX10 26, w ∈ wsX10_sign := by decide +kernel
  have h := hf
  unfold f_X10_sign at h
  refine lv_aload_n hx hb dX10_sign_0 rfl (lv_at hl 0 rfl) ?_
  refine lv_iconst (v := 0) hx hb dX10_sign_1 (by decide) ?_
  refine va_put (D := (dC, dI)) (ci := 8) (v := .int (0 : Int32)) (ty := .int) (C := RX10) (T := TX10) (N := 26) hx hb hts hi_X10 tyX10 tyX10_ok nmX10 hown hK hP hD hS 0 rfl rfl 5 (by decide) (hts _ (List.mem_of_getElem? (i := 1) rfl)) (fun _ h9 => h9) rfl (by decide +kernel) rfl rfl (Nat.le_of_ble_eq_true rfl) dX10_sign_2 (fun H locs hP hD hS => ?_)
  replace hP : va_P (dC, dI) vwCl [(h0, .inr (8, [.ref q_now, .ref q_text, .int v_typed, .ref q_row, .int v_rowMany, .int (0 : Int32), .int v_length, .int v_at, .int v_wrong, .ref q_read, .ref q_ranks, .ref q_distinct, .ref q_proper, .int v_properMany, .ref q_line, .ref q_order, .int v_orderMany, .ref q_then, .ref q_bestOrder, .ref q_lineThen, .ref q_undos, .ref q_was, .int v_undoMany, .int v_drawn, .ref q_kept, .ref q_isKept])), (q_text, .inl (cB, 80, .inl v_text))] H := hP
  replace hD : va_D A [(h0, .inr (8, [.ref q_now, .ref q_text, .int v_typed, .ref q_row, .int v_rowMany, .int (0 : Int32), .int v_length, .int v_at, .int v_wrong, .ref q_read, .ref q_ranks, .ref q_distinct, .ref q_proper, .int v_properMany, .ref q_line, .ref q_order, .int v_orderMany, .ref q_then, .ref q_bestOrder, .ref q_lineThen, .ref q_undos, .ref q_was, .int v_undoMany, .int v_drawn, .ref q_kept, .ref q_isKept])), (q_text, .inl (cB, 80, .inl v_text))] := hD
  refine lv_aload_n hx hb dX10_sign_5 rfl (lv_at hl 0 rfl) ?_
  refine va_get (D := (dC, dI)) (ci := 8) (v := .int v_typed) (C := RX10) (T := TX10) (N := 26) hx hb hts hi_X10 hown hK hP 0 rfl rfl 2 (by decide) (hts _ (List.mem_of_getElem? (i := 2) rfl)) (fun _ h9 => h9) rfl dX10_sign_6 ?_
  refine lv_iconst (v := 4) hx hb dX10_sign_9 (by decide) ?_
  refine lv_iadd hx hb dX10_sign_10 ?_
  refine lv_bipush (v := 80) hx hb dX10_sign_11 (by decide) ?_
  refine lv_icmp_le (tgt := 18) hx hb dX10_sign_13 (by decide) (fun c_98 => ?_) (fun c_98 => ?_)
  · replace h := op c_98 h
    refine lv_iconst (v := 3) hx hb dX10_sign_18 (by decide) ?_
    refine lv_istore_n (lv' := [(2, .int (3 : Int32)), (0, .ref h0), (1, .int x1)]) hx hb dX10_sign_19 rfl hl (by decide) rfl (fun ls hl => ?_)
    have LP_101 : ∀ (n : Nat) (x2_20 : Int32) (v_typed_20 : Int32) (v_text_20 : (Nat → Int32)) (w : (Int32 × (Nat → Int32))) (H : Heap) (locs : List Loc) (ls : Array Slot), L_X10_sign_20 x1 n x2_20 v_typed_20 v_text_20 = some w → va_P (dC, dI) vwCl [(h0, .inr (8, [.ref q_now, .ref q_text, .int v_typed_20, .ref q_row, .int v_rowMany, .int (0 : Int32), .int v_length, .int v_at, .int v_wrong, .ref q_read, .ref q_ranks, .ref q_distinct, .ref q_proper, .int v_properMany, .ref q_line, .ref q_order, .int v_orderMany, .ref q_then, .ref q_bestOrder, .ref q_lineThen, .ref q_undos, .ref q_was, .int v_undoMany, .int v_drawn, .ref q_kept, .ref q_isKept])), (q_text, .inl (cB, 80, .inl v_text_20))] H → va_D A [(h0, .inr (8, [.ref q_now, .ref q_text, .int v_typed_20, .ref q_row, .int v_rowMany, .int (0 : Int32), .int v_length, .int v_at, .int v_wrong, .ref q_read, .ref q_ranks, .ref q_distinct, .ref q_proper, .int v_properMany, .ref q_line, .ref q_order, .int v_orderMany, .ref q_then, .ref q_bestOrder, .ref q_lineThen, .ref q_undos, .ref q_was, .int v_undoMany, .int v_drawn, .ref q_kept, .ref q_isKept])), (q_text, .inl (cB, 80, .inl v_text_20))] → va_S A s.heap H locs → lv_has ls 3 [(0, .ref h0), (1, .int x1), (2, .int x2_20)] → (∀ (H : Heap) (locs : List Loc) (ls : Array Slot), va_P (dC, dI) vwCl [(h0, .inr (8, [.ref q_now, .ref q_text, .int w.1, .ref q_row, .int v_rowMany, .int (0 : Int32), .int v_length, .int v_at, .int v_wrong, .ref q_read, .ref q_ranks, .ref q_distinct, .ref q_proper, .int v_properMany, .ref q_line, .ref q_order, .int v_orderMany, .ref q_then, .ref q_bestOrder, .ref q_lineThen, .ref q_undos, .ref q_was, .int v_undoMany, .int v_drawn, .ref q_kept, .ref q_isKept])), (q_text, .inl (cB, 80, .inl w.2))] H → va_D A [(h0, .inr (8, [.ref q_now, .ref q_text, .int w.1, .ref q_row, .int v_rowMany, .int (0 : Int32), .int v_length, .int v_at, .int v_wrong, .ref q_read, .ref q_ranks, .ref q_distinct, .ref q_proper, .int v_properMany, .ref q_line, .ref q_order, .int v_orderMany, .ref q_then, .ref q_bestOrder, .ref q_lineThen, .ref q_undos, .ref q_was, .int v_undoMany, .int v_drawn, .ref q_kept, .ref q_isKept])), (q_text, .inl (cB, 80, .inl w.2))] → va_S A s.heap H locs → lv_has ls 3 [(0, .ref h0)] → W p l e rm_X10_sign s m args below meth c H locs 0 0 QQ (F0 m 53 ls [])) → W p l e rm_X10_sign s m args below meth c H locs 0 0 QQ (F0 m 20 ls []) := by
      intro n
      induction n with
      | zero => intro x2_20 v_typed_20 v_text_20 w H locs ls h; exact absurd (show none = some w from h) nofun
      | succ n ih =>
        intro x2_20 v_typed_20 v_text_20 w H locs ls h hP hD hS hl K
        rw [L_X10_sign_20] at h
        refine lv_iload_n hx hb dX10_sign_20 rfl (lv_at hl 2 rfl) ?_
        refine lv_if_lt (tgt := 53) hx hb dX10_sign_21 (by decide) (fun c_99 => ?_) (fun c_99 => ?_)
        · replace h := op c_99 h
          have ho := Option.some.inj h
          subst ho
          exact K H _ ls hP hD hS (lv_sub hl [0] rfl)
        · replace h := on c_99 h
          refine lv_aload_n hx hb dX10_sign_24 rfl (lv_at hl 0 rfl) ?_
          refine va_get (D := (dC, dI)) (ci := 8) (v := .ref q_text) (C := RX10) (T := TX10) (N := 26) hx hb hts hi_X10 hown hK hP 0 rfl rfl 1 (by decide) (hts _ (List.mem_of_getElem? (i := 3) rfl)) (fun _ h9 => h9) rfl dX10_sign_25 ?_
          refine lv_aload_n hx hb dX10_sign_28 rfl (lv_at hl 0 rfl) ?_
          refine lv_dup hx hb dX10_sign_29 rfl ?_
          refine va_get (D := (dC, dI)) (ci := 8) (v := .int v_typed_20) (C := RX10) (T := TX10) (N := 26) hx hb hts hi_X10 hown hK hP 0 rfl rfl 2 (by decide) (hts _ (List.mem_of_getElem? (i := 2) rfl)) (fun _ h9 => h9) rfl dX10_sign_30 ?_
          refine lv_dup_x1 hx hb dX10_sign_33 rfl rfl ?_
          refine lv_iconst (v := 1) hx hb dX10_sign_34 (by decide) ?_
          refine lv_iadd hx hb dX10_sign_35 ?_
          refine va_put (D := (dC, dI)) (ci := 8) (v := .int (v_typed_20 + (1 : Int32))) (ty := .int) (C := RX10) (T := TX10) (N := 26) hx hb hts hi_X10 tyX10 tyX10_ok nmX10 hown hK hP hD hS 0 rfl rfl 2 (by decide) (hts _ (List.mem_of_getElem? (i := 2) rfl)) (fun _ h9 => h9) rfl (by decide +kernel) rfl rfl (Nat.le_of_ble_eq_true rfl) dX10_sign_36 (fun H locs hP hD hS => ?_)
          replace hP : va_P (dC, dI) vwCl [(h0, .inr (8, [.ref q_now, .ref q_text, .int (v_typed_20 + (1 : Int32)), .ref q_row, .int v_rowMany, .int (0 : Int32), .int v_length, .int v_at, .int v_wrong, .ref q_read, .ref q_ranks, .ref q_distinct, .ref q_proper, .int v_properMany, .ref q_line, .ref q_order, .int v_orderMany, .ref q_then, .ref q_bestOrder, .ref q_lineThen, .ref q_undos, .ref q_was, .int v_undoMany, .int v_drawn, .ref q_kept, .ref q_isKept])), (q_text, .inl (cB, 80, .inl v_text_20))] H := hP
          replace hD : va_D A [(h0, .inr (8, [.ref q_now, .ref q_text, .int (v_typed_20 + (1 : Int32)), .ref q_row, .int v_rowMany, .int (0 : Int32), .int v_length, .int v_at, .int v_wrong, .ref q_read, .ref q_ranks, .ref q_distinct, .ref q_proper, .int v_properMany, .ref q_line, .ref q_order, .int v_orderMany, .ref q_then, .ref q_bestOrder, .ref q_lineThen, .ref q_undos, .ref q_was, .int v_undoMany, .int v_drawn, .ref q_kept, .ref q_isKept])), (q_text, .inl (cB, 80, .inl v_text_20))] := hD
          refine lv_iload_n hx hb dX10_sign_39 rfl (lv_at hl 1 rfl) ?_
          refine lv_bipush (v := 8) hx hb dX10_sign_40 (by decide) ?_
          refine lv_iload_n hx hb dX10_sign_42 rfl (lv_at hl 2 rfl) ?_
          refine lv_imul hx hb dX10_sign_43 ?_
          refine lv_ishr hx hb dX10_sign_44 ?_
          refine lv_i2b (v := (to_b (x1 >>> (((8 : Int32) * x2_20) &&& 31)))) hx hb dX10_sign_45 rfl ?_
          obtain ⟨hi_100, h⟩ := og h
          refine va_bast hx hb hK hP hD hS 1 2 rfl rfl hi_100 dX10_sign_46 (fun H locs hP hD hS => ?_)
          replace hP : va_P (dC, dI) vwCl [(h0, .inr (8, [.ref q_now, .ref q_text, .int (v_typed_20 + (1 : Int32)), .ref q_row, .int v_rowMany, .int (0 : Int32), .int v_length, .int v_at, .int v_wrong, .ref q_read, .ref q_ranks, .ref q_distinct, .ref q_proper, .int v_properMany, .ref q_line, .ref q_order, .int v_orderMany, .ref q_then, .ref q_bestOrder, .ref q_lineThen, .ref q_undos, .ref q_was, .int v_undoMany, .int v_drawn, .ref q_kept, .ref q_isKept])), (q_text, .inl (cB, 80, .inl (upd v_text_20 (v_typed_20).toNatClampNeg (vp_nar .byte (to_b (x1 >>> (((8 : Int32) * x2_20) &&& 31)))))))] H := hP
          replace hD : va_D A [(h0, .inr (8, [.ref q_now, .ref q_text, .int (v_typed_20 + (1 : Int32)), .ref q_row, .int v_rowMany, .int (0 : Int32), .int v_length, .int v_at, .int v_wrong, .ref q_read, .ref q_ranks, .ref q_distinct, .ref q_proper, .int v_properMany, .ref q_line, .ref q_order, .int v_orderMany, .ref q_then, .ref q_bestOrder, .ref q_lineThen, .ref q_undos, .ref q_was, .int v_undoMany, .int v_drawn, .ref q_kept, .ref q_isKept])), (q_text, .inl (cB, 80, .inl (upd v_text_20 (v_typed_20).toNatClampNeg (vp_nar .byte (to_b (x1 >>> (((8 : Int32) * x2_20) &&& 31)))))))] := hD
          refine lv_iinc (v := (x2_20 + (-1))) (lv' := [(2, .int (x2_20 + (-1))), (0, .ref h0), (1, .int x1)]) hx hb dX10_sign_47 hl (k := 2) rfl (by rfl) (by decide) rfl (fun ls hl => ?_)
          refine lv_goto (tgt := 20) hx hb dX10_sign_50 (by decide) ?_
          exact ih (x2_20 + (-1)) (v_typed_20 + (1 : Int32)) (upd v_text_20 (v_typed_20).toNatClampNeg (vp_nar .byte (to_b (x1 >>> (((8 : Int32) * x2_20) &&& 31))))) w H _ ls h hP hD hS (lv_sub hl [1, 2, 0] rfl) K
    obtain ⟨w_101, hw_101, h⟩ := ob h
    refine LP_101 fu (3 : Int32) v_typed v_text w_101 H _ ls hw_101 hP hD hS (lv_sub hl [1, 2, 0] rfl) (fun H locs ls hP hD hS hl => ?_)
    refine lv_aload_n hx hb dX10_sign_53 rfl (lv_at hl 0 rfl) ?_
    refine va_get (D := (dC, dI)) (ci := 8) (v := .int w_101.1) (C := RX10) (T := TX10) (N := 26) hx hb hts hi_X10 hown hK hP 0 rfl rfl 2 (by decide) (hts _ (List.mem_of_getElem? (i := 2) rfl)) (fun _ h9 => h9) rfl dX10_sign_54 ?_
    rw [hQQ]
    have ho := Option.some.inj h
    subst ho
    exact W.iret hx hb hr (fun t ht hW => ⟨⟨_, (), rfl, rfl, by rw [ht]; exact hP, va_K.moved hW.alike hK, hD⟩, hS.F ht⟩) hS.2.2 dX10_sign_57
  · replace h := on c_98 h
    refine lv_iconst (v := -1) hx hb dX10_sign_16 (by decide) ?_
    rw [hQQ]
    have ho := Option.some.inj h
    subst ho
    exact W.iret hx hb hr (fun t ht hW => ⟨⟨_, (), rfl, rfl, by rw [ht]; exact hP, va_K.moved hW.alike hK, hD⟩, hS.F ht⟩) hS.2.2 dX10_sign_17
def f_X10_end (v_typed : Int32) (x1 : Int32) : Option (Bool × Int32 × Int32) :=
  ((f_X10_in x1 (0 : Int32) v_typed).bind (fun o_102 => (if (b2i o_102) = 0 then (some (false, v_typed, (0 : Int32))) else (some (true, x1, (0 : Int32))))))
abbrev rm_X10_end : Room := { frames := 1, cells := 0, slots := 0, locals := 22 }
set_option maxHeartbeats 4000000 in
set_option maxRecDepth 100000 in
theorem c_X10_end (l : Launch) (dC : Nat → ClassId) (dI : Nat → Nat → Nat) (cB cC cI cJ cZ cT : ClassId) (h0 q_now q_text q_row q_read q_ranks q_distinct q_proper q_line q_order q_then q_bestOrder q_lineThen q_undos q_was q_kept q_isKept : Nat) (sz : Nat) (v_typed : Int32) (v_rowMany : Int32) (v_thrown : Int32) (v_length : Int32) (v_at : Int32) (v_wrong : Int32) (v_properMany : Int32) (v_orderMany : Int32) (v_undoMany : Int32) (v_drawn : Int32) (x1 : Int32) (o : (Bool × Int32 × Int32)) (hf : f_X10_end v_typed x1 = some o) : Met l yX10_end wsX10_end rm_X10_end (va_Pc [.ref h0, .int x1] (fun U => U.heap.size = sz ∧ va_P (dC, dI) vwCl [(h0, .inr (8, [.ref q_now, .ref q_text, .int v_typed, .ref q_row, .int v_rowMany, .int v_thrown, .int v_length, .int v_at, .int v_wrong, .ref q_read, .ref q_ranks, .ref q_distinct, .ref q_proper, .int v_properMany, .ref q_line, .ref q_order, .int v_orderMany, .ref q_then, .ref q_bestOrder, .ref q_lineThen, .ref q_undos, .ref q_was, .int v_undoMany, .int v_drawn, .ref q_kept, .ref q_isKept]))] U.heap ∧ va_K (dC, dI) vwCl (tyA cB cC cI cJ cZ cT) U ∧ va_D (fun _ => True) [(h0, .inr (8, [.ref q_now, .ref q_text, .int v_typed, .ref q_row, .int v_rowMany, .int v_thrown, .int v_length, .int v_at, .int v_wrong, .ref q_read, .ref q_ranks, .ref q_distinct, .ref q_proper, .int v_properMany, .ref q_line, .ref q_order, .int v_orderMany, .ref q_then, .ref q_bestOrder, .ref q_lineThen, .ref q_undos, .ref q_was, .int v_undoMany, .int v_drawn, .ref q_kept, .ref q_isKept]))])) (va_Qi (fun (r : Int32) (_ : Unit) => b2i o.1 = r) (fun _ t => va_P (dC, dI) vwCl [(h0, .inr (8, [.ref q_now, .ref q_text, .int o.2.1, .ref q_row, .int v_rowMany, .int o.2.2, .int v_length, .int v_at, .int v_wrong, .ref q_read, .ref q_ranks, .ref q_distinct, .ref q_proper, .int v_properMany, .ref q_line, .ref q_order, .int v_orderMany, .ref q_then, .ref q_bestOrder, .ref q_lineThen, .ref q_undos, .ref q_was, .int v_undoMany, .int v_drawn, .ref q_kept, .ref q_isKept]))] t.heap ∧ va_K (dC, dI) vwCl (tyA cB cC cI cJ cZ cT) t ∧ va_D (va_A [(h0, .inr (8, [.ref q_now, .ref q_text, .int v_typed, .ref q_row, .int v_rowMany, .int v_thrown, .int v_length, .int v_at, .int v_wrong, .ref q_read, .ref q_ranks, .ref q_distinct, .ref q_proper, .int v_properMany, .ref q_line, .ref q_order, .int v_orderMany, .ref q_then, .ref q_bestOrder, .ref q_lineThen, .ref q_undos, .ref q_was, .int v_undoMany, .int v_drawn, .ref q_kept, .ref q_isKept]))] sz) [(h0, .inr (8, [.ref q_now, .ref q_text, .int o.2.1, .ref q_row, .int v_rowMany, .int o.2.2, .int v_length, .int v_at, .int v_wrong, .ref q_read, .ref q_ranks, .ref q_distinct, .ref q_proper, .int v_properMany, .ref q_line, .ref q_order, .int v_orderMany, .ref q_then, .ref q_bestOrder, .ref q_lineThen, .ref q_undos, .ref q_was, .int v_undoMany, .int v_drawn, .ref q_kept, .ref q_isKept]))]) (va_A [(h0, .inr (8, [.ref q_now, .ref q_text, .int v_typed, .ref q_row, .int v_rowMany, .int v_thrown, .int v_length, .int v_at, .int v_wrong, .ref q_read, .ref q_ranks, .ref q_distinct, .ref q_proper, .int v_properMany, .ref q_line, .ref q_order, .int v_orderMany, .ref q_then, .ref q_bestOrder, .ref q_lineThen, .ref q_undos, .ref q_was, .int v_undoMany, .int v_drawn, .ref q_kept, .ref q_isKept]))] sz)) 0 0 (va_A [(h0, .inr (8, [.ref q_now, .ref q_text, .int v_typed, .ref q_row, .int v_rowMany, .int v_thrown, .int v_length, .int v_at, .int v_wrong, .ref q_read, .ref q_ranks, .ref q_distinct, .ref q_proper, .int v_properMany, .ref q_line, .ref q_order, .int v_orderMany, .ref q_then, .ref q_bestOrder, .ref q_lineThen, .ref q_undos, .ref q_was, .int v_undoMany, .int v_drawn, .ref q_kept, .ref q_isKept]))] sz) := by
  refine Met.ofW (cc := cX10_end) (maxL := 2) (ret := (some .boolean)) (by decide +kernel) rfl ?_
  intro p e s m args below meth c s₁ B hml hv
  obtain ⟨hav, hsz, hP, hK, hD0⟩ := hv
  have hx := B.exec
  have hb := B.bytes
  have hr := B.returns
  have hts := atoms_spec (ws := wsX10_end) B.pre
  have hown : s.vm.findClass RX10 = some m.cls := findClass_of_methodNamed B.named
  have hlocks := B.notSynchronized
  subst hsz
  have hD := hD0.self (sz := s.heap.size)
  generalize hAe : va_A [(h0, .inr (8, [.ref q_now, .ref q_text, .int v_typed, .ref q_row, .int v_rowMany, .int v_thrown, .int v_length, .int v_at, .int v_wrong, .ref q_read, .ref q_ranks, .ref q_distinct, .ref q_proper, .int v_properMany, .ref q_line, .ref q_order, .int v_orderMany, .ref q_then, .ref q_bestOrder, .ref q_lineThen, .ref q_undos, .ref q_was, .int v_undoMany, .int v_drawn, .ref q_kept, .ref q_isKept]))] s.heap.size = A at hD ⊢
  have hA : ∀ q : Nat, s.heap.size ≤ q → A q := fun q h => by rw [← hAe]; exact Or.inr h
  have hS : va_S A s.heap s.heap [] := va_S.rf
  refine wstart (rm := rm_X10_end) hav (Nat.le_of_ble_eq_true rfl) (fun QQ ls hQQ hl => ?_)
  have hl : lv_has ls 2 [(0, .ref h0), (1, .int x1)] := hl
  have hi_X10 : ∀ w ∈ u_ws RX10 TX10 26, w ∈ wsX10_end := by decide +kernel
  have h := hf
  unfold f_X10_end at h
  refine lv_aload_n hx hb dX10_end_0 rfl (lv_at hl 0 rfl) ?_
  refine lv_iconst (v := 0) hx hb dX10_end_1 (by decide) ?_
  refine va_put (D := (dC, dI)) (ci := 8) (v := .int (0 : Int32)) (ty := .int) (C := RX10) (T := TX10) (N := 26) hx hb hts hi_X10 tyX10 tyX10_ok nmX10 hown hK hP hD hS 0 rfl rfl 5 (by decide) (hts _ (List.mem_of_getElem? (i := 1) rfl)) (fun _ h9 => h9) rfl (by decide +kernel) rfl rfl (Nat.le_of_ble_eq_true rfl) dX10_end_2 (fun H locs hP hD hS => ?_)
  replace hP : va_P (dC, dI) vwCl [(h0, .inr (8, [.ref q_now, .ref q_text, .int v_typed, .ref q_row, .int v_rowMany, .int (0 : Int32), .int v_length, .int v_at, .int v_wrong, .ref q_read, .ref q_ranks, .ref q_distinct, .ref q_proper, .int v_properMany, .ref q_line, .ref q_order, .int v_orderMany, .ref q_then, .ref q_bestOrder, .ref q_lineThen, .ref q_undos, .ref q_was, .int v_undoMany, .int v_drawn, .ref q_kept, .ref q_isKept]))] H := hP
  replace hD : va_D A [(h0, .inr (8, [.ref q_now, .ref q_text, .int v_typed, .ref q_row, .int v_rowMany, .int (0 : Int32), .int v_length, .int v_at, .int v_wrong, .ref q_read, .ref q_ranks, .ref q_distinct, .ref q_proper, .int v_properMany, .ref q_line, .ref q_order, .int v_orderMany, .ref q_then, .ref q_bestOrder, .ref q_lineThen, .ref q_undos, .ref q_was, .int v_undoMany, .int v_drawn, .ref q_kept, .ref q_isKept]))] := hD
  refine lv_iload_n hx hb dX10_end_5 rfl (lv_at hl 1 rfl) ?_
  refine lv_iconst (v := 0) hx hb dX10_end_6 (by decide) ?_
  refine lv_aload_n hx hb dX10_end_7 rfl (lv_at hl 0 rfl) ?_
  refine va_get (D := (dC, dI)) (ci := 8) (v := .int v_typed) (C := RX10) (T := TX10) (N := 26) hx hb hts hi_X10 hown hK hP 0 rfl rfl 2 (by decide) (hts _ (List.mem_of_getElem? (i := 2) rfl)) (fun _ h9 => h9) rfl dX10_end_8 ?_
  obtain ⟨o_102, hr_102, h⟩ := ob h
  refine vp_callSi (va_Run.run (va_runS (As := [.int x1, .int (0 : Int32), .int v_typed]) (rest := []) ⟨hx, hb, hml, hown, hts⟩ (c_X10_in l dC dI cB cC cI cJ cZ cT x1 (0 : Int32) v_typed o_102 hr_102) (va_cwS 3 hts gX10_end_X10_in rfl rfl rfl (by decide +kernel) ⟨Nat.le_of_ble_eq_true rfl, Nat.le_of_ble_eq_true rfl⟩) ⟨blT, fun U hU hW => ⟨rfl, trivial⟩⟩ rfl rfl hl.1 rfl (lv_room (Nat.le_of_ble_eq_true rfl)) dX10_end_11 ⟨Nat.le_of_ble_eq_true rfl, Nat.le_of_ble_eq_true rfl⟩)) (fun r_102 e_102 => ?_)
  subst e_102
  refine lv_if_ne (tgt := 19) hx hb dX10_end_14 (by decide) (fun c_104 => ?_) (fun c_104 => ?_)
  · replace h := on c_104 h
    refine lv_aload_n hx hb dX10_end_19 rfl (lv_at hl 0 rfl) ?_
    refine lv_iload_n hx hb dX10_end_20 rfl (lv_at hl 1 rfl) ?_
    refine va_put (D := (dC, dI)) (ci := 8) (v := .int x1) (ty := .int) (C := RX10) (T := TX10) (N := 26) hx hb hts hi_X10 tyX10 tyX10_ok nmX10 hown hK hP hD hS 0 rfl rfl 2 (by decide) (hts _ (List.mem_of_getElem? (i := 2) rfl)) (fun _ h9 => h9) rfl (by decide +kernel) rfl rfl (Nat.le_of_ble_eq_true rfl) dX10_end_21 (fun H locs hP hD hS => ?_)
    replace hP : va_P (dC, dI) vwCl [(h0, .inr (8, [.ref q_now, .ref q_text, .int x1, .ref q_row, .int v_rowMany, .int (0 : Int32), .int v_length, .int v_at, .int v_wrong, .ref q_read, .ref q_ranks, .ref q_distinct, .ref q_proper, .int v_properMany, .ref q_line, .ref q_order, .int v_orderMany, .ref q_then, .ref q_bestOrder, .ref q_lineThen, .ref q_undos, .ref q_was, .int v_undoMany, .int v_drawn, .ref q_kept, .ref q_isKept]))] H := hP
    replace hD : va_D A [(h0, .inr (8, [.ref q_now, .ref q_text, .int x1, .ref q_row, .int v_rowMany, .int (0 : Int32), .int v_length, .int v_at, .int v_wrong, .ref q_read, .ref q_ranks, .ref q_distinct, .ref q_proper, .int v_properMany, .ref q_line, .ref q_order, .int v_orderMany, .ref q_then, .ref q_bestOrder, .ref q_lineThen, .ref q_undos, .ref q_was, .int v_undoMany, .int v_drawn, .ref q_kept, .ref q_isKept]))] := hD
    refine lv_iconst (v := 1) hx hb dX10_end_24 (by decide) ?_
    rw [hQQ]
    have ho := Option.some.inj h
    subst ho
    exact W.zret hx hb hr rfl (fun t ht hW => ⟨⟨_, (), rfl, rfl, by rw [ht]; exact hP, va_K.moved hW.alike hK, hD⟩, hS.F ht⟩) hS.2.2 dX10_end_25
  · replace h := op c_104 h
    refine lv_iconst (v := 0) hx hb dX10_end_17 (by decide) ?_
    rw [hQQ]
    have ho := Option.some.inj h
    subst ho
    exact W.zret hx hb hr rfl (fun t ht hW => ⟨⟨_, (), rfl, rfl, by rw [ht]; exact hP, va_K.moved hW.alike hK, hD⟩, hS.F ht⟩) hS.2.2 dX10_end_18
def f_X10_begin (v_typed : Int32) : Option (Int32 × Int32 × Int32 × Int32) :=
  (some ((0 : Int32), v_typed, (0 : Int32), (-1 : Int32)))
abbrev rm_X10_begin : Room := { frames := 0, cells := 0, slots := 0, locals := 0 }
set_option maxHeartbeats 4000000 in
set_option maxRecDepth 100000 in
theorem c_X10_begin (l : Launch) (dC : Nat → ClassId) (dI : Nat → Nat → Nat) (cB cC cI cJ cZ cT : ClassId) (h0 q_now q_text q_row q_read q_ranks q_distinct q_proper q_line q_order q_then q_bestOrder q_lineThen q_undos q_was q_kept q_isKept : Nat) (sz : Nat) (v_typed : Int32) (v_rowMany : Int32) (v_thrown : Int32) (v_length : Int32) (v_at : Int32) (v_wrong : Int32) (v_properMany : Int32) (v_orderMany : Int32) (v_undoMany : Int32) (v_drawn : Int32) (o : (Int32 × Int32 × Int32 × Int32)) (hf : f_X10_begin v_typed = some o) : Met l yX10_begin wsX10_begin rm_X10_begin (va_Pc [.ref h0] (fun U => U.heap.size = sz ∧ va_P (dC, dI) vwCl [(h0, .inr (8, [.ref q_now, .ref q_text, .int v_typed, .ref q_row, .int v_rowMany, .int v_thrown, .int v_length, .int v_at, .int v_wrong, .ref q_read, .ref q_ranks, .ref q_distinct, .ref q_proper, .int v_properMany, .ref q_line, .ref q_order, .int v_orderMany, .ref q_then, .ref q_bestOrder, .ref q_lineThen, .ref q_undos, .ref q_was, .int v_undoMany, .int v_drawn, .ref q_kept, .ref q_isKept]))] U.heap ∧ va_K (dC, dI) vwCl (tyA cB cC cI cJ cZ cT) U ∧ va_D (fun _ => True) [(h0, .inr (8, [.ref q_now, .ref q_text, .int v_typed, .ref q_row, .int v_rowMany, .int v_thrown, .int v_length, .int v_at, .int v_wrong, .ref q_read, .ref q_ranks, .ref q_distinct, .ref q_proper, .int v_properMany, .ref q_line, .ref q_order, .int v_orderMany, .ref q_then, .ref q_bestOrder, .ref q_lineThen, .ref q_undos, .ref q_was, .int v_undoMany, .int v_drawn, .ref q_kept, .ref q_isKept]))])) (va_Qv (fun _ : Unit => True) (fun _ t => va_P (dC, dI) vwCl [(h0, .inr (8, [.ref q_now, .ref q_text, .int o.1, .ref q_row, .int v_rowMany, .int v_thrown, .int o.2.1, .int o.2.2.1, .int o.2.2.2, .ref q_read, .ref q_ranks, .ref q_distinct, .ref q_proper, .int v_properMany, .ref q_line, .ref q_order, .int v_orderMany, .ref q_then, .ref q_bestOrder, .ref q_lineThen, .ref q_undos, .ref q_was, .int v_undoMany, .int v_drawn, .ref q_kept, .ref q_isKept]))] t.heap ∧ va_K (dC, dI) vwCl (tyA cB cC cI cJ cZ cT) t ∧ va_D (va_A [(h0, .inr (8, [.ref q_now, .ref q_text, .int v_typed, .ref q_row, .int v_rowMany, .int v_thrown, .int v_length, .int v_at, .int v_wrong, .ref q_read, .ref q_ranks, .ref q_distinct, .ref q_proper, .int v_properMany, .ref q_line, .ref q_order, .int v_orderMany, .ref q_then, .ref q_bestOrder, .ref q_lineThen, .ref q_undos, .ref q_was, .int v_undoMany, .int v_drawn, .ref q_kept, .ref q_isKept]))] sz) [(h0, .inr (8, [.ref q_now, .ref q_text, .int o.1, .ref q_row, .int v_rowMany, .int v_thrown, .int o.2.1, .int o.2.2.1, .int o.2.2.2, .ref q_read, .ref q_ranks, .ref q_distinct, .ref q_proper, .int v_properMany, .ref q_line, .ref q_order, .int v_orderMany, .ref q_then, .ref q_bestOrder, .ref q_lineThen, .ref q_undos, .ref q_was, .int v_undoMany, .int v_drawn, .ref q_kept, .ref q_isKept]))]) (va_A [(h0, .inr (8, [.ref q_now, .ref q_text, .int v_typed, .ref q_row, .int v_rowMany, .int v_thrown, .int v_length, .int v_at, .int v_wrong, .ref q_read, .ref q_ranks, .ref q_distinct, .ref q_proper, .int v_properMany, .ref q_line, .ref q_order, .int v_orderMany, .ref q_then, .ref q_bestOrder, .ref q_lineThen, .ref q_undos, .ref q_was, .int v_undoMany, .int v_drawn, .ref q_kept, .ref q_isKept]))] sz)) 0 0 (va_A [(h0, .inr (8, [.ref q_now, .ref q_text, .int v_typed, .ref q_row, .int v_rowMany, .int v_thrown, .int v_length, .int v_at, .int v_wrong, .ref q_read, .ref q_ranks, .ref q_distinct, .ref q_proper, .int v_properMany, .ref q_line, .ref q_order, .int v_orderMany, .ref q_then, .ref q_bestOrder, .ref q_lineThen, .ref q_undos, .ref q_was, .int v_undoMany, .int v_drawn, .ref q_kept, .ref q_isKept]))] sz) := by
  refine Met.ofW (cc := cX10_begin) (maxL := 1) (ret := none) (by decide +kernel) rfl ?_
  intro p e s m args below meth c s₁ B hml hv
  obtain ⟨hav, hsz, hP, hK, hD0⟩ := hv
  have hx := B.exec
  have hb := B.bytes
  have hr := B.returns
  have hts := atoms_spec (ws := wsX10_begin) B.pre
  have hown : s.vm.findClass RX10 = some m.cls := findClass_of_methodNamed B.named
  have hlocks := B.notSynchronized
  subst hsz
  have hD := hD0.self (sz := s.heap.size)
  generalize hAe : va_A [(h0, .inr (8, [.ref q_now, .ref q_text, .int v_typed, .ref q_row, .int v_rowMany, .int v_thrown, .int v_length, .int v_at, .int v_wrong, .ref q_read, .ref q_ranks, .ref q_distinct, .ref q_proper, .int v_properMany, .ref q_line, .ref q_order, .int v_orderMany, .ref q_then, .ref q_bestOrder, .ref q_lineThen, .ref q_undos, .ref q_was, .int v_undoMany, .int v_drawn, .ref q_kept, .ref q_isKept]))] s.heap.size = A at hD ⊢
  have hA : ∀ q : Nat, s.heap.size ≤ q → A q := fun q h => by rw [← hAe]; exact Or.inr h
  have hS : va_S A s.heap s.heap [] := va_S.rf
  refine wstart (rm := rm_X10_begin) hav (Nat.le_of_ble_eq_true rfl) (fun QQ ls hQQ hl => ?_)
  have hl : lv_has ls 1 [(0, .ref h0)] := hl
  have hi_X10 : ∀ w ∈ u_ws RX10 TX10 26, w ∈ wsX10_begin := by decide +kernel
  have h := hf
  unfold f_X10_begin at h
  refine lv_aload_n hx hb dX10_begin_0 rfl (lv_at hl 0 rfl) ?_
  refine lv_aload_n hx hb dX10_begin_1 rfl (lv_at hl 0 rfl) ?_
  refine va_get (D := (dC, dI)) (ci := 8) (v := .int v_typed) (C := RX10) (T := TX10) (N := 26) hx hb hts hi_X10 hown hK hP 0 rfl rfl 2 (by decide) (hts _ (List.mem_of_getElem? (i := 1) rfl)) (fun _ h9 => h9) rfl dX10_begin_2 ?_
  refine va_put (D := (dC, dI)) (ci := 8) (v := .int v_typed) (ty := .int) (C := RX10) (T := TX10) (N := 26) hx hb hts hi_X10 tyX10 tyX10_ok nmX10 hown hK hP hD hS 0 rfl rfl 6 (by decide) (hts _ (List.mem_of_getElem? (i := 2) rfl)) (fun _ h9 => h9) rfl (by decide +kernel) rfl rfl (Nat.le_of_ble_eq_true rfl) dX10_begin_5 (fun H locs hP hD hS => ?_)
  replace hP : va_P (dC, dI) vwCl [(h0, .inr (8, [.ref q_now, .ref q_text, .int v_typed, .ref q_row, .int v_rowMany, .int v_thrown, .int v_typed, .int v_at, .int v_wrong, .ref q_read, .ref q_ranks, .ref q_distinct, .ref q_proper, .int v_properMany, .ref q_line, .ref q_order, .int v_orderMany, .ref q_then, .ref q_bestOrder, .ref q_lineThen, .ref q_undos, .ref q_was, .int v_undoMany, .int v_drawn, .ref q_kept, .ref q_isKept]))] H := hP
  replace hD : va_D A [(h0, .inr (8, [.ref q_now, .ref q_text, .int v_typed, .ref q_row, .int v_rowMany, .int v_thrown, .int v_typed, .int v_at, .int v_wrong, .ref q_read, .ref q_ranks, .ref q_distinct, .ref q_proper, .int v_properMany, .ref q_line, .ref q_order, .int v_orderMany, .ref q_then, .ref q_bestOrder, .ref q_lineThen, .ref q_undos, .ref q_was, .int v_undoMany, .int v_drawn, .ref q_kept, .ref q_isKept]))] := hD
  refine lv_aload_n hx hb dX10_begin_8 rfl (lv_at hl 0 rfl) ?_
  refine lv_iconst (v := 0) hx hb dX10_begin_9 (by decide) ?_
  refine va_put (D := (dC, dI)) (ci := 8) (v := .int (0 : Int32)) (ty := .int) (C := RX10) (T := TX10) (N := 26) hx hb hts hi_X10 tyX10 tyX10_ok nmX10 hown hK hP hD hS 0 rfl rfl 7 (by decide) (hts _ (List.mem_of_getElem? (i := 3) rfl)) (fun _ h9 => h9) rfl (by decide +kernel) rfl rfl (Nat.le_of_ble_eq_true rfl) dX10_begin_10 (fun H locs hP hD hS => ?_)
  replace hP : va_P (dC, dI) vwCl [(h0, .inr (8, [.ref q_now, .ref q_text, .int v_typed, .ref q_row, .int v_rowMany, .int v_thrown, .int v_typed, .int (0 : Int32), .int v_wrong, .ref q_read, .ref q_ranks, .ref q_distinct, .ref q_proper, .int v_properMany, .ref q_line, .ref q_order, .int v_orderMany, .ref q_then, .ref q_bestOrder, .ref q_lineThen, .ref q_undos, .ref q_was, .int v_undoMany, .int v_drawn, .ref q_kept, .ref q_isKept]))] H := hP
  replace hD : va_D A [(h0, .inr (8, [.ref q_now, .ref q_text, .int v_typed, .ref q_row, .int v_rowMany, .int v_thrown, .int v_typed, .int (0 : Int32), .int v_wrong, .ref q_read, .ref q_ranks, .ref q_distinct, .ref q_proper, .int v_properMany, .ref q_line, .ref q_order, .int v_orderMany, .ref q_then, .ref q_bestOrder, .ref q_lineThen, .ref q_undos, .ref q_was, .int v_undoMany, .int v_drawn, .ref q_kept, .ref q_isKept]))] := hD
  refine lv_aload_n hx hb dX10_begin_13 rfl (lv_at hl 0 rfl) ?_
  refine lv_iconst (v := -1) hx hb dX10_begin_14 (by decide) ?_
  refine va_put (D := (dC, dI)) (ci := 8) (v := .int (-1 : Int32)) (ty := .int) (C := RX10) (T := TX10) (N := 26) hx hb hts hi_X10 tyX10 tyX10_ok nmX10 hown hK hP hD hS 0 rfl rfl 8 (by decide) (hts _ (List.mem_of_getElem? (i := 4) rfl)) (fun _ h9 => h9) rfl (by decide +kernel) rfl rfl (Nat.le_of_ble_eq_true rfl) dX10_begin_15 (fun H locs hP hD hS => ?_)
  replace hP : va_P (dC, dI) vwCl [(h0, .inr (8, [.ref q_now, .ref q_text, .int v_typed, .ref q_row, .int v_rowMany, .int v_thrown, .int v_typed, .int (0 : Int32), .int (-1 : Int32), .ref q_read, .ref q_ranks, .ref q_distinct, .ref q_proper, .int v_properMany, .ref q_line, .ref q_order, .int v_orderMany, .ref q_then, .ref q_bestOrder, .ref q_lineThen, .ref q_undos, .ref q_was, .int v_undoMany, .int v_drawn, .ref q_kept, .ref q_isKept]))] H := hP
  replace hD : va_D A [(h0, .inr (8, [.ref q_now, .ref q_text, .int v_typed, .ref q_row, .int v_rowMany, .int v_thrown, .int v_typed, .int (0 : Int32), .int (-1 : Int32), .ref q_read, .ref q_ranks, .ref q_distinct, .ref q_proper, .int v_properMany, .ref q_line, .ref q_order, .int v_orderMany, .ref q_then, .ref q_bestOrder, .ref q_lineThen, .ref q_undos, .ref q_was, .int v_undoMany, .int v_drawn, .ref q_kept, .ref q_isKept]))] := hD
  refine lv_aload_n hx hb dX10_begin_18 rfl (lv_at hl 0 rfl) ?_
  refine lv_iconst (v := 0) hx hb dX10_begin_19 (by decide) ?_
  refine va_put (D := (dC, dI)) (ci := 8) (v := .int (0 : Int32)) (ty := .int) (C := RX10) (T := TX10) (N := 26) hx hb hts hi_X10 tyX10 tyX10_ok nmX10 hown hK hP hD hS 0 rfl rfl 2 (by decide) (hts _ (List.mem_of_getElem? (i := 1) rfl)) (fun _ h9 => h9) rfl (by decide +kernel) rfl rfl (Nat.le_of_ble_eq_true rfl) dX10_begin_20 (fun H locs hP hD hS => ?_)
  replace hP : va_P (dC, dI) vwCl [(h0, .inr (8, [.ref q_now, .ref q_text, .int (0 : Int32), .ref q_row, .int v_rowMany, .int v_thrown, .int v_typed, .int (0 : Int32), .int (-1 : Int32), .ref q_read, .ref q_ranks, .ref q_distinct, .ref q_proper, .int v_properMany, .ref q_line, .ref q_order, .int v_orderMany, .ref q_then, .ref q_bestOrder, .ref q_lineThen, .ref q_undos, .ref q_was, .int v_undoMany, .int v_drawn, .ref q_kept, .ref q_isKept]))] H := hP
  replace hD : va_D A [(h0, .inr (8, [.ref q_now, .ref q_text, .int (0 : Int32), .ref q_row, .int v_rowMany, .int v_thrown, .int v_typed, .int (0 : Int32), .int (-1 : Int32), .ref q_read, .ref q_ranks, .ref q_distinct, .ref q_proper, .int v_properMany, .ref q_line, .ref q_order, .int v_orderMany, .ref q_then, .ref q_bestOrder, .ref q_lineThen, .ref q_undos, .ref q_was, .int v_undoMany, .int v_drawn, .ref q_kept, .ref q_isKept]))] := hD
  rw [hQQ]
  have ho := Option.some.inj h
  subst ho
  exact W.vret hx hb hr (fun t ht hW => ⟨⟨(), rfl, trivial, by rw [ht]; exact hP, va_K.moved hW.alike hK, hD⟩, hS.F ht⟩) hS.2.2 dX10_begin_23
def f_X10_here (v_length : Int32) (v_at : Int32) (v_text : Nat → Int32) : Option Int32 :=
  (if v_length ≤ v_at then (some (-1 : Int32)) else (if v_at < 0 ∨ 80 ≤ (v_at).toNatClampNeg then none else (some ((v_text (v_at).toNatClampNeg) &&& (255 : Int32)))))
abbrev rm_X10_here : Room := { frames := 0, cells := 0, slots := 0, locals := 0 }
set_option maxHeartbeats 4000000 in
set_option maxRecDepth 100000 in
theorem c_X10_here (l : Launch) (dC : Nat → ClassId) (dI : Nat → Nat → Nat) (cB cC cI cJ cZ cT : ClassId) (h0 q_now q_text q_row q_read q_ranks q_distinct q_proper q_line q_order q_then q_bestOrder q_lineThen q_undos q_was q_kept q_isKept : Nat) (v_typed : Int32) (v_rowMany : Int32) (v_thrown : Int32) (v_length : Int32) (v_at : Int32) (v_wrong : Int32) (v_properMany : Int32) (v_orderMany : Int32) (v_undoMany : Int32) (v_drawn : Int32) (v_text : Nat → Int32) (o : Int32) (hf : f_X10_here v_length v_at v_text = some o) : Met l yX10_here wsX10_here rm_X10_here (va_Pc [.ref h0] (fun U => va_P (dC, dI) vwCl [(h0, .inr (8, [.ref q_now, .ref q_text, .int v_typed, .ref q_row, .int v_rowMany, .int v_thrown, .int v_length, .int v_at, .int v_wrong, .ref q_read, .ref q_ranks, .ref q_distinct, .ref q_proper, .int v_properMany, .ref q_line, .ref q_order, .int v_orderMany, .ref q_then, .ref q_bestOrder, .ref q_lineThen, .ref q_undos, .ref q_was, .int v_undoMany, .int v_drawn, .ref q_kept, .ref q_isKept])), (q_text, .inl (cB, 80, .inl v_text))] U.heap ∧ va_K (dC, dI) vwCl (tyA cB cC cI cJ cZ cT) U)) (vp_Si (fun r => o = r)) 0 0 (fun _ => False) := by
  refine Met.ofW (cc := cX10_here) (maxL := 1) (ret := (some .int)) (by decide +kernel) rfl ?_
  intro p e s m args below meth c s₁ B hml hv
  obtain ⟨hav, hP, hK⟩ := hv
  have hx := B.exec
  have hb := B.bytes
  have hr := B.returns
  have hts := atoms_spec (ws := wsX10_here) B.pre
  have hown : s.vm.findClass RX10 = some m.cls := findClass_of_methodNamed B.named
  have hlocks := B.notSynchronized
  refine wstart (rm := rm_X10_here) hav (Nat.le_of_ble_eq_true rfl) (fun QQ ls hQQ hl => ?_)
  have hl : lv_has ls 1 [(0, .ref h0)] := hl
  have hi_X10 : ∀ w ∈ u_ws RX10 TX10 26, w ∈ wsX10_here := by decide +kernel
  have h := hf
  unfold f_X10_here at h
  refine lv_aload_n hx hb dX10_here_0 rfl (lv_at hl 0 rfl) ?_
  refine va_get (D := (dC, dI)) (ci := 8) (v := .int v_at) (C := RX10) (T := TX10) (N := 26) hx hb hts hi_X10 hown hK hP 0 rfl rfl 7 (by decide) (hts _ (List.mem_of_getElem? (i := 1) rfl)) (fun _ h9 => h9) rfl dX10_here_1 ?_
  refine lv_aload_n hx hb dX10_here_4 rfl (lv_at hl 0 rfl) ?_
  refine va_get (D := (dC, dI)) (ci := 8) (v := .int v_length) (C := RX10) (T := TX10) (N := 26) hx hb hts hi_X10 hown hK hP 0 rfl rfl 6 (by decide) (hts _ (List.mem_of_getElem? (i := 2) rfl)) (fun _ h9 => h9) rfl dX10_here_5 ?_
  refine lv_icmp_ge (tgt := 27) hx hb dX10_here_8 (by decide) (fun c_105 => ?_) (fun c_105 => ?_)
  · replace h := op c_105 h
    refine lv_iconst (v := -1) hx hb dX10_here_27 (by decide) ?_
    rw [hQQ]
    exact W.iret hx hb hr (fun t ht hW => ⟨_, rfl, (Option.some.inj h).symm, ht⟩) (fun q hq => absurd hq List.not_mem_nil) dX10_here_28
  · replace h := on c_105 h
    refine lv_aload_n hx hb dX10_here_11 rfl (lv_at hl 0 rfl) ?_
    refine va_get (D := (dC, dI)) (ci := 8) (v := .ref q_text) (C := RX10) (T := TX10) (N := 26) hx hb hts hi_X10 hown hK hP 0 rfl rfl 1 (by decide) (hts _ (List.mem_of_getElem? (i := 3) rfl)) (fun _ h9 => h9) rfl dX10_here_12 ?_
    refine lv_aload_n hx hb dX10_here_15 rfl (lv_at hl 0 rfl) ?_
    refine va_get (D := (dC, dI)) (ci := 8) (v := .int v_at) (C := RX10) (T := TX10) (N := 26) hx hb hts hi_X10 hown hK hP 0 rfl rfl 7 (by decide) (hts _ (List.mem_of_getElem? (i := 1) rfl)) (fun _ h9 => h9) rfl dX10_here_16 ?_
    obtain ⟨hi_106, h⟩ := og h
    refine va_bald hx hb hK hP 1 2 rfl rfl hi_106 dX10_here_19 ?_
    refine lv_sipush (v := 255) hx hb dX10_here_20 (by decide) ?_
    refine lv_iand hx hb dX10_here_23 ?_
    refine lv_goto (tgt := 28) hx hb dX10_here_24 (by decide) ?_
    rw [hQQ]
    exact W.iret hx hb hr (fun t ht hW => ⟨_, rfl, (Option.some.inj h).symm, ht⟩) (fun q hq => absurd hq List.not_mem_nil) dX10_here_28
def f_X10_fine (v_wrong : Int32) : Option Bool :=
  (if v_wrong = (-1 : Int32) then (some true) else (some false))
abbrev rm_X10_fine : Room := { frames := 0, cells := 0, slots := 0, locals := 0 }
set_option maxHeartbeats 4000000 in
set_option maxRecDepth 100000 in
theorem c_X10_fine (l : Launch) (dC : Nat → ClassId) (dI : Nat → Nat → Nat) (cB cC cI cJ cZ cT : ClassId) (h0 q_now q_text q_row q_read q_ranks q_distinct q_proper q_line q_order q_then q_bestOrder q_lineThen q_undos q_was q_kept q_isKept : Nat) (v_typed : Int32) (v_rowMany : Int32) (v_thrown : Int32) (v_length : Int32) (v_at : Int32) (v_wrong : Int32) (v_properMany : Int32) (v_orderMany : Int32) (v_undoMany : Int32) (v_drawn : Int32) (o : Bool) (hf : f_X10_fine v_wrong = some o) : Met l yX10_fine wsX10_fine rm_X10_fine (va_Pc [.ref h0] (fun U => va_P (dC, dI) vwCl [(h0, .inr (8, [.ref q_now, .ref q_text, .int v_typed, .ref q_row, .int v_rowMany, .int v_thrown, .int v_length, .int v_at, .int v_wrong, .ref q_read, .ref q_ranks, .ref q_distinct, .ref q_proper, .int v_properMany, .ref q_line, .ref q_order, .int v_orderMany, .ref q_then, .ref q_bestOrder, .ref q_lineThen, .ref q_undos, .ref q_was, .int v_undoMany, .int v_drawn, .ref q_kept, .ref q_isKept]))] U.heap ∧ va_K (dC, dI) vwCl (tyA cB cC cI cJ cZ cT) U)) (vp_Si (fun r => b2i o = r)) 0 0 (fun _ => False) := by
  refine Met.ofW (cc := cX10_fine) (maxL := 1) (ret := (some .boolean)) (by decide +kernel) rfl ?_
  intro p e s m args below meth c s₁ B hml hv
  obtain ⟨hav, hP, hK⟩ := hv
  have hx := B.exec
  have hb := B.bytes
  have hr := B.returns
  have hts := atoms_spec (ws := wsX10_fine) B.pre
  have hown : s.vm.findClass RX10 = some m.cls := findClass_of_methodNamed B.named
  have hlocks := B.notSynchronized
  refine wstart (rm := rm_X10_fine) hav (Nat.le_of_ble_eq_true rfl) (fun QQ ls hQQ hl => ?_)
  have hl : lv_has ls 1 [(0, .ref h0)] := hl
  have hi_X10 : ∀ w ∈ u_ws RX10 TX10 26, w ∈ wsX10_fine := by decide +kernel
  have h := hf
  unfold f_X10_fine at h
  refine lv_aload_n hx hb dX10_fine_0 rfl (lv_at hl 0 rfl) ?_
  refine va_get (D := (dC, dI)) (ci := 8) (v := .int v_wrong) (C := RX10) (T := TX10) (N := 26) hx hb hts hi_X10 hown hK hP 0 rfl rfl 8 (by decide) (hts _ (List.mem_of_getElem? (i := 1) rfl)) (fun _ h9 => h9) rfl dX10_fine_1 ?_
  refine lv_iconst (v := -1) hx hb dX10_fine_4 (by decide) ?_
  refine lv_icmp_ne (tgt := 12) hx hb dX10_fine_5 (by decide) (fun c_107 => ?_) (fun c_107 => ?_)
  · replace h := on c_107 h
    refine lv_iconst (v := 0) hx hb dX10_fine_12 (by decide) ?_
    rw [hQQ]
    exact W.zret hx hb hr rfl (fun t ht hW => ⟨_, rfl, (congrArg b2i (Option.some.inj h).symm), ht⟩) (fun q hq => absurd hq List.not_mem_nil) dX10_fine_13
  · replace h := op c_107 h
    refine lv_iconst (v := 1) hx hb dX10_fine_8 (by decide) ?_
    refine lv_goto (tgt := 13) hx hb dX10_fine_9 (by decide) ?_
    rw [hQQ]
    exact W.zret hx hb hr rfl (fun t ht hW => ⟨_, rfl, (congrArg b2i (Option.some.inj h).symm), ht⟩) (fun q hq => absurd hq List.not_mem_nil) dX10_fine_13
def f_X10_fault (v_wrong : Int32) (x1 : Int32) : Option Int32 :=
  ((f_X10_fine v_wrong).bind (fun o_108 => (if (b2i o_108) = 0 then (some v_wrong) else (some x1))))
abbrev rm_X10_fault : Room := { frames := 1, cells := 0, slots := 0, locals := 20 }
set_option maxHeartbeats 4000000 in
set_option maxRecDepth 100000 in
theorem c_X10_fault (l : Launch) (dC : Nat → ClassId) (dI : Nat → Nat → Nat) (cB cC cI cJ cZ cT : ClassId) (h0 q_now q_text q_row q_read q_ranks q_distinct q_proper q_line q_order q_then q_bestOrder q_lineThen q_undos q_was q_kept q_isKept : Nat) (sz : Nat) (v_typed : Int32) (v_rowMany : Int32) (v_thrown : Int32) (v_length : Int32) (v_at : Int32) (v_wrong : Int32) (v_properMany : Int32) (v_orderMany : Int32) (v_undoMany : Int32) (v_drawn : Int32) (x1 : Int32) (o : Int32) (hf : f_X10_fault v_wrong x1 = some o) : Met l yX10_fault wsX10_fault rm_X10_fault (va_Pc [.ref h0, .int x1] (fun U => U.heap.size = sz ∧ va_P (dC, dI) vwCl [(h0, .inr (8, [.ref q_now, .ref q_text, .int v_typed, .ref q_row, .int v_rowMany, .int v_thrown, .int v_length, .int v_at, .int v_wrong, .ref q_read, .ref q_ranks, .ref q_distinct, .ref q_proper, .int v_properMany, .ref q_line, .ref q_order, .int v_orderMany, .ref q_then, .ref q_bestOrder, .ref q_lineThen, .ref q_undos, .ref q_was, .int v_undoMany, .int v_drawn, .ref q_kept, .ref q_isKept]))] U.heap ∧ va_K (dC, dI) vwCl (tyA cB cC cI cJ cZ cT) U ∧ va_D (fun _ => True) [(h0, .inr (8, [.ref q_now, .ref q_text, .int v_typed, .ref q_row, .int v_rowMany, .int v_thrown, .int v_length, .int v_at, .int v_wrong, .ref q_read, .ref q_ranks, .ref q_distinct, .ref q_proper, .int v_properMany, .ref q_line, .ref q_order, .int v_orderMany, .ref q_then, .ref q_bestOrder, .ref q_lineThen, .ref q_undos, .ref q_was, .int v_undoMany, .int v_drawn, .ref q_kept, .ref q_isKept]))])) (va_Qv (fun _ : Unit => True) (fun _ t => va_P (dC, dI) vwCl [(h0, .inr (8, [.ref q_now, .ref q_text, .int v_typed, .ref q_row, .int v_rowMany, .int v_thrown, .int v_length, .int v_at, .int o, .ref q_read, .ref q_ranks, .ref q_distinct, .ref q_proper, .int v_properMany, .ref q_line, .ref q_order, .int v_orderMany, .ref q_then, .ref q_bestOrder, .ref q_lineThen, .ref q_undos, .ref q_was, .int v_undoMany, .int v_drawn, .ref q_kept, .ref q_isKept]))] t.heap ∧ va_K (dC, dI) vwCl (tyA cB cC cI cJ cZ cT) t ∧ va_D (va_A [(h0, .inr (8, [.ref q_now, .ref q_text, .int v_typed, .ref q_row, .int v_rowMany, .int v_thrown, .int v_length, .int v_at, .int v_wrong, .ref q_read, .ref q_ranks, .ref q_distinct, .ref q_proper, .int v_properMany, .ref q_line, .ref q_order, .int v_orderMany, .ref q_then, .ref q_bestOrder, .ref q_lineThen, .ref q_undos, .ref q_was, .int v_undoMany, .int v_drawn, .ref q_kept, .ref q_isKept]))] sz) [(h0, .inr (8, [.ref q_now, .ref q_text, .int v_typed, .ref q_row, .int v_rowMany, .int v_thrown, .int v_length, .int v_at, .int o, .ref q_read, .ref q_ranks, .ref q_distinct, .ref q_proper, .int v_properMany, .ref q_line, .ref q_order, .int v_orderMany, .ref q_then, .ref q_bestOrder, .ref q_lineThen, .ref q_undos, .ref q_was, .int v_undoMany, .int v_drawn, .ref q_kept, .ref q_isKept]))]) (va_A [(h0, .inr (8, [.ref q_now, .ref q_text, .int v_typed, .ref q_row, .int v_rowMany, .int v_thrown, .int v_length, .int v_at, .int v_wrong, .ref q_read, .ref q_ranks, .ref q_distinct, .ref q_proper, .int v_properMany, .ref q_line, .ref q_order, .int v_orderMany, .ref q_then, .ref q_bestOrder, .ref q_lineThen, .ref q_undos, .ref q_was, .int v_undoMany, .int v_drawn, .ref q_kept, .ref q_isKept]))] sz)) 0 0 (va_A [(h0, .inr (8, [.ref q_now, .ref q_text, .int v_typed, .ref q_row, .int v_rowMany, .int v_thrown, .int v_length, .int v_at, .int v_wrong, .ref q_read, .ref q_ranks, .ref q_distinct, .ref q_proper, .int v_properMany, .ref q_line, .ref q_order, .int v_orderMany, .ref q_then, .ref q_bestOrder, .ref q_lineThen, .ref q_undos, .ref q_was, .int v_undoMany, .int v_drawn, .ref q_kept, .ref q_isKept]))] sz) := by
  refine Met.ofW (cc := cX10_fault) (maxL := 2) (ret := none) (by decide +kernel) rfl ?_
  intro p e s m args below meth c s₁ B hml hv
  obtain ⟨hav, hsz, hP, hK, hD0⟩ := hv
  have hx := B.exec
  have hb := B.bytes
  have hr := B.returns
  have hts := atoms_spec (ws := wsX10_fault) B.pre
  have hown : s.vm.findClass RX10 = some m.cls := findClass_of_methodNamed B.named
  have hlocks := B.notSynchronized
  subst hsz
  have hD := hD0.self (sz := s.heap.size)
  generalize hAe : va_A [(h0, .inr (8, [.ref q_now, .ref q_text, .int v_typed, .ref q_row, .int v_rowMany, .int v_thrown, .int v_length, .int v_at, .int v_wrong, .ref q_read, .ref q_ranks, .ref q_distinct, .ref q_proper, .int v_properMany, .ref q_line, .ref q_order, .int v_orderMany, .ref q_then, .ref q_bestOrder, .ref q_lineThen, .ref q_undos, .ref q_was, .int v_undoMany, .int v_drawn, .ref q_kept, .ref q_isKept]))] s.heap.size = A at hD ⊢
  have hA : ∀ q : Nat, s.heap.size ≤ q → A q := fun q h => by rw [← hAe]; exact Or.inr h
  have hS : va_S A s.heap s.heap [] := va_S.rf
  refine wstart (rm := rm_X10_fault) hav (Nat.le_of_ble_eq_true rfl) (fun QQ ls hQQ hl => ?_)
  have hl : lv_has ls 2 [(0, .ref h0), (1, .int x1)] := hl
  have hi_X10 : ∀ w ∈ u_ws RX10 TX10 26, w ∈ wsX10_fault := by decide +kernel
  have h := hf
  unfold f_X10_fault at h
  refine lv_aload_n hx hb dX10_fault_0 rfl (lv_at hl 0 rfl) ?_
  obtain ⟨o_108, hr_108, h⟩ := ob h
  refine vp_callSi (va_Run.run (va_runV (As := []) (rest := []) ⟨hx, hb, hml, hown, hts⟩ (c_X10_fine l dC dI cB cC cI cJ cZ cT h0 q_now q_text q_row q_read q_ranks q_distinct q_proper q_line q_order q_then q_bestOrder q_lineThen q_undos q_was q_kept q_isKept v_typed v_rowMany v_thrown v_length v_at v_wrong v_properMany v_orderMany v_undoMany v_drawn o_108 hr_108) (cwV 0 hts gX10_fault_X10_fine rfl rfl rfl (by decide +kernel) ⟨Nat.le_of_ble_eq_true rfl, Nat.le_of_ble_eq_true rfl⟩) ⟨blR, va_recv hK hP (ci := 8) (q0 := 0) rfl rfl, fun U hU hW => ⟨rfl, by rw [hU]; exact hP.sub [0] rfl, va_K.moved hW.alike hK⟩⟩ rfl rfl hl.1 rfl (lv_room (Nat.le_of_ble_eq_true rfl)) dX10_fault_1 ⟨Nat.le_of_ble_eq_true rfl, Nat.le_of_ble_eq_true rfl⟩)) (fun r_108 e_108 => ?_)
  subst e_108
  refine lv_if_eq (tgt := 12) hx hb dX10_fault_4 (by decide) (fun c_110 => ?_) (fun c_110 => ?_)
  · replace h := op c_110 h
    rw [hQQ]
    have ho := Option.some.inj h
    subst ho
    exact W.vret hx hb hr (fun t ht hW => ⟨⟨(), rfl, trivial, by rw [ht]; exact hP, va_K.moved hW.alike hK, hD⟩, hS.F ht⟩) hS.2.2 dX10_fault_12
  · replace h := on c_110 h
    refine lv_aload_n hx hb dX10_fault_7 rfl (lv_at hl 0 rfl) ?_
    refine lv_iload_n hx hb dX10_fault_8 rfl (lv_at hl 1 rfl) ?_
    refine va_put (D := (dC, dI)) (ci := 8) (v := .int x1) (ty := .int) (C := RX10) (T := TX10) (N := 26) hx hb hts hi_X10 tyX10 tyX10_ok nmX10 hown hK hP hD hS 0 rfl rfl 8 (by decide) (hts _ (List.mem_of_getElem? (i := 1) rfl)) (fun _ h9 => h9) rfl (by decide +kernel) rfl rfl (Nat.le_of_ble_eq_true rfl) dX10_fault_9 (fun H locs hP hD hS => ?_)
    replace hP : va_P (dC, dI) vwCl [(h0, .inr (8, [.ref q_now, .ref q_text, .int v_typed, .ref q_row, .int v_rowMany, .int v_thrown, .int v_length, .int v_at, .int x1, .ref q_read, .ref q_ranks, .ref q_distinct, .ref q_proper, .int v_properMany, .ref q_line, .ref q_order, .int v_orderMany, .ref q_then, .ref q_bestOrder, .ref q_lineThen, .ref q_undos, .ref q_was, .int v_undoMany, .int v_drawn, .ref q_kept, .ref q_isKept]))] H := hP
    replace hD : va_D A [(h0, .inr (8, [.ref q_now, .ref q_text, .int v_typed, .ref q_row, .int v_rowMany, .int v_thrown, .int v_length, .int v_at, .int x1, .ref q_read, .ref q_ranks, .ref q_distinct, .ref q_proper, .int v_properMany, .ref q_line, .ref q_order, .int v_orderMany, .ref q_then, .ref q_bestOrder, .ref q_lineThen, .ref q_undos, .ref q_was, .int v_undoMany, .int v_drawn, .ref q_kept, .ref q_isKept]))] := hD
    rw [hQQ]
    have ho := Option.some.inj h
    subst ho
    exact W.vret hx hb hr (fun t ht hW => ⟨⟨(), rfl, trivial, by rw [ht]; exact hP, va_K.moved hW.alike hK, hD⟩, hS.F ht⟩) hS.2.2 dX10_fault_12
def f_X10_oneOf (v_length : Int32) (v_at : Int32) (v_wrong : Int32) (v_text : Nat → Int32) (x1 : Int32) (x2 : Int32) : Option (Int32 × Int32 × Int32) :=
  ((f_X10_fine v_wrong).bind (fun o_111 => (if (b2i o_111) = 0 then (some ((0 : Int32), v_at, v_wrong)) else ((f_X10_here v_length v_at v_text).bind (fun o_114 => ((f_X10_in o_114 x1 ((x1 + x2) - (1 : Int32))).bind (fun o_116 => (if (b2i o_116) = 0 then ((f_X10_fault v_wrong v_at).bind (fun o_120 => (some ((0 : Int32), v_at, o_120)))) else (if ((v_at + (1 : Int32)) - (1 : Int32)) < 0 ∨ 80 ≤ (((v_at + (1 : Int32)) - (1 : Int32))).toNatClampNeg then none else (some (((v_text (((v_at + (1 : Int32)) - (1 : Int32))).toNatClampNeg) - x1), (v_at + (1 : Int32)), v_wrong)))))))))))
abbrev rm_X10_oneOf : Room := { frames := 2, cells := 0, slots := 0, locals := 41 }
set_option maxHeartbeats 4000000 in
set_option maxRecDepth 100000 in
theorem c_X10_oneOf (l : Launch) (dC : Nat → ClassId) (dI : Nat → Nat → Nat) (cB cC cI cJ cZ cT : ClassId) (h0 q_now q_text q_row q_read q_ranks q_distinct q_proper q_line q_order q_then q_bestOrder q_lineThen q_undos q_was q_kept q_isKept : Nat) (sz : Nat) (v_typed : Int32) (v_rowMany : Int32) (v_thrown : Int32) (v_length : Int32) (v_at : Int32) (v_wrong : Int32) (v_properMany : Int32) (v_orderMany : Int32) (v_undoMany : Int32) (v_drawn : Int32) (v_text : Nat → Int32) (x1 : Int32) (x2 : Int32) (o : (Int32 × Int32 × Int32)) (hf : f_X10_oneOf v_length v_at v_wrong v_text x1 x2 = some o) : Met l yX10_oneOf wsX10_oneOf rm_X10_oneOf (va_Pc [.ref h0, .int x1, .int x2] (fun U => U.heap.size = sz ∧ va_P (dC, dI) vwCl [(h0, .inr (8, [.ref q_now, .ref q_text, .int v_typed, .ref q_row, .int v_rowMany, .int v_thrown, .int v_length, .int v_at, .int v_wrong, .ref q_read, .ref q_ranks, .ref q_distinct, .ref q_proper, .int v_properMany, .ref q_line, .ref q_order, .int v_orderMany, .ref q_then, .ref q_bestOrder, .ref q_lineThen, .ref q_undos, .ref q_was, .int v_undoMany, .int v_drawn, .ref q_kept, .ref q_isKept])), (q_text, .inl (cB, 80, .inl v_text))] U.heap ∧ va_K (dC, dI) vwCl (tyA cB cC cI cJ cZ cT) U ∧ va_D (fun _ => True) [(h0, .inr (8, [.ref q_now, .ref q_text, .int v_typed, .ref q_row, .int v_rowMany, .int v_thrown, .int v_length, .int v_at, .int v_wrong, .ref q_read, .ref q_ranks, .ref q_distinct, .ref q_proper, .int v_properMany, .ref q_line, .ref q_order, .int v_orderMany, .ref q_then, .ref q_bestOrder, .ref q_lineThen, .ref q_undos, .ref q_was, .int v_undoMany, .int v_drawn, .ref q_kept, .ref q_isKept])), (q_text, .inl (cB, 80, .inl v_text))])) (va_Qi (fun (r : Int32) (_ : Unit) => o.1 = r) (fun _ t => va_P (dC, dI) vwCl [(h0, .inr (8, [.ref q_now, .ref q_text, .int v_typed, .ref q_row, .int v_rowMany, .int v_thrown, .int v_length, .int o.2.1, .int o.2.2, .ref q_read, .ref q_ranks, .ref q_distinct, .ref q_proper, .int v_properMany, .ref q_line, .ref q_order, .int v_orderMany, .ref q_then, .ref q_bestOrder, .ref q_lineThen, .ref q_undos, .ref q_was, .int v_undoMany, .int v_drawn, .ref q_kept, .ref q_isKept])), (q_text, .inl (cB, 80, .inl v_text))] t.heap ∧ va_K (dC, dI) vwCl (tyA cB cC cI cJ cZ cT) t ∧ va_D (va_A [(h0, .inr (8, [.ref q_now, .ref q_text, .int v_typed, .ref q_row, .int v_rowMany, .int v_thrown, .int v_length, .int v_at, .int v_wrong, .ref q_read, .ref q_ranks, .ref q_distinct, .ref q_proper, .int v_properMany, .ref q_line, .ref q_order, .int v_orderMany, .ref q_then, .ref q_bestOrder, .ref q_lineThen, .ref q_undos, .ref q_was, .int v_undoMany, .int v_drawn, .ref q_kept, .ref q_isKept])), (q_text, .inl (cB, 80, .inl v_text))] sz) [(h0, .inr (8, [.ref q_now, .ref q_text, .int v_typed, .ref q_row, .int v_rowMany, .int v_thrown, .int v_length, .int o.2.1, .int o.2.2, .ref q_read, .ref q_ranks, .ref q_distinct, .ref q_proper, .int v_properMany, .ref q_line, .ref q_order, .int v_orderMany, .ref q_then, .ref q_bestOrder, .ref q_lineThen, .ref q_undos, .ref q_was, .int v_undoMany, .int v_drawn, .ref q_kept, .ref q_isKept])), (q_text, .inl (cB, 80, .inl v_text))]) (va_A [(h0, .inr (8, [.ref q_now, .ref q_text, .int v_typed, .ref q_row, .int v_rowMany, .int v_thrown, .int v_length, .int v_at, .int v_wrong, .ref q_read, .ref q_ranks, .ref q_distinct, .ref q_proper, .int v_properMany, .ref q_line, .ref q_order, .int v_orderMany, .ref q_then, .ref q_bestOrder, .ref q_lineThen, .ref q_undos, .ref q_was, .int v_undoMany, .int v_drawn, .ref q_kept, .ref q_isKept])), (q_text, .inl (cB, 80, .inl v_text))] sz)) 0 0 (va_A [(h0, .inr (8, [.ref q_now, .ref q_text, .int v_typed, .ref q_row, .int v_rowMany, .int v_thrown, .int v_length, .int v_at, .int v_wrong, .ref q_read, .ref q_ranks, .ref q_distinct, .ref q_proper, .int v_properMany, .ref q_line, .ref q_order, .int v_orderMany, .ref q_then, .ref q_bestOrder, .ref q_lineThen, .ref q_undos, .ref q_was, .int v_undoMany, .int v_drawn, .ref q_kept, .ref q_isKept])), (q_text, .inl (cB, 80, .inl v_text))] sz) := by
  refine Met.ofW (cc := cX10_oneOf) (maxL := 3) (ret := (some .int)) (by decide +kernel) rfl ?_
  intro p e s m args below meth c s₁ B hml hv
  obtain ⟨hav, hsz, hP, hK, hD0⟩ := hv
  have hx := B.exec
  have hb := B.bytes
  have hr := B.returns
  have hts := atoms_spec (ws := wsX10_oneOf) B.pre
  have hown : s.vm.findClass RX10 = some m.cls := findClass_of_methodNamed B.named
  have hlocks := B.notSynchronized
  subst hsz
  have hD := hD0.self (sz := s.heap.size)
  generalize hAe : va_A [(h0, .inr (8, [.ref q_now, .ref q_text, .int v_typed, .ref q_row, .int v_rowMany, .int v_thrown, .int v_length, .int v_at, .int v_wrong, .ref q_read, .ref q_ranks, .ref q_distinct, .ref q_proper, .int v_properMany, .ref q_line, .ref q_order, .int v_orderMany, .ref q_then, .ref q_bestOrder, .ref q_lineThen, .ref q_undos, .ref q_was, .int v_undoMany, .int v_drawn, .ref q_kept, .ref q_isKept])), (q_text, .inl (cB, 80, .inl v_text))] s.heap.size = A at hD ⊢
  have hA : ∀ q : Nat, s.heap.size ≤ q → A q := fun q h => by rw [← hAe]; exact Or.inr h
  have hS : va_S A s.heap s.heap [] := va_S.rf
  refine wstart (rm := rm_X10_oneOf) hav (Nat.le_of_ble_eq_true rfl) (fun QQ ls hQQ hl => ?_)
  have hl : lv_has ls 3 [(0, .ref h0), (1, .int x1), (2, .int x2)] := hl
  have hi_X10 : ∀ w ∈ u_ws RX10 TX10 26, w ∈ wsX10_oneOf := by decide +kernel
  have h := hf
  unfold f_X10_oneOf at h
  refine lv_aload_n hx hb dX10_oneOf_0 rfl (lv_at hl 0 rfl) ?_
  obtain ⟨o_111, hr_111, h⟩ := ob h
  refine vp_callSi (va_Run.run (va_runV (As := []) (rest := []) ⟨hx, hb, hml, hown, hts⟩ (c_X10_fine l dC dI cB cC cI cJ cZ cT h0 q_now q_text q_row q_read q_ranks q_distinct q_proper q_line q_order q_then q_bestOrder q_lineThen q_undos q_was q_kept q_isKept v_typed v_rowMany v_thrown v_length v_at v_wrong v_properMany v_orderMany v_undoMany v_drawn o_111 hr_111) (cwV 0 hts gX10_oneOf_X10_fine rfl rfl rfl (by decide +kernel) ⟨Nat.le_of_ble_eq_true rfl, Nat.le_of_ble_eq_true rfl⟩) ⟨blR, va_recv hK hP (ci := 8) (q0 := 0) rfl rfl, fun U hU hW => ⟨rfl, by rw [hU]; exact hP.sub [0] rfl, va_K.moved hW.alike hK⟩⟩ rfl rfl hl.1 rfl (lv_room (Nat.le_of_ble_eq_true rfl)) dX10_oneOf_1 ⟨Nat.le_of_ble_eq_true rfl, Nat.le_of_ble_eq_true rfl⟩)) (fun r_111 e_111 => ?_)
  subst e_111
  refine lv_if_ne (tgt := 9) hx hb dX10_oneOf_4 (by decide) (fun c_113 => ?_) (fun c_113 => ?_)
  · replace h := on c_113 h
    refine lv_aload_n hx hb dX10_oneOf_9 rfl (lv_at hl 0 rfl) ?_
    obtain ⟨o_114, hr_114, h⟩ := ob h
    refine vp_callSi (va_Run.run (va_runV (As := []) (rest := []) ⟨hx, hb, hml, hown, hts⟩ (c_X10_here l dC dI cB cC cI cJ cZ cT h0 q_now q_text q_row q_read q_ranks q_distinct q_proper q_line q_order q_then q_bestOrder q_lineThen q_undos q_was q_kept q_isKept v_typed v_rowMany v_thrown v_length v_at v_wrong v_properMany v_orderMany v_undoMany v_drawn v_text o_114 hr_114) (cwV 0 hts gX10_oneOf_X10_here rfl rfl rfl (by decide +kernel) ⟨Nat.le_of_ble_eq_true rfl, Nat.le_of_ble_eq_true rfl⟩) ⟨blR, va_recv hK hP (ci := 8) (q0 := 0) rfl rfl, fun U hU hW => ⟨rfl, by rw [hU]; exact hP.sub [0, 1] rfl, va_K.moved hW.alike hK⟩⟩ rfl rfl hl.1 rfl (lv_room (Nat.le_of_ble_eq_true rfl)) dX10_oneOf_10 ⟨Nat.le_of_ble_eq_true rfl, Nat.le_of_ble_eq_true rfl⟩)) (fun r_114 e_114 => ?_)
    subst e_114
    refine lv_iload_n hx hb dX10_oneOf_13 rfl (lv_at hl 1 rfl) ?_
    refine lv_iload_n hx hb dX10_oneOf_14 rfl (lv_at hl 1 rfl) ?_
    refine lv_iload_n hx hb dX10_oneOf_15 rfl (lv_at hl 2 rfl) ?_
    refine lv_iadd hx hb dX10_oneOf_16 ?_
    refine lv_iconst (v := 1) hx hb dX10_oneOf_17 (by decide) ?_
    refine lv_isub hx hb dX10_oneOf_18 ?_
    obtain ⟨o_116, hr_116, h⟩ := ob h
    refine vp_callSi (va_Run.run (va_runS (As := [.int o_114, .int x1, .int ((x1 + x2) - (1 : Int32))]) (rest := []) ⟨hx, hb, hml, hown, hts⟩ (c_X10_in l dC dI cB cC cI cJ cZ cT o_114 x1 ((x1 + x2) - (1 : Int32)) o_116 hr_116) (va_cwS 3 hts gX10_oneOf_X10_in rfl rfl rfl (by decide +kernel) ⟨Nat.le_of_ble_eq_true rfl, Nat.le_of_ble_eq_true rfl⟩) ⟨blT, fun U hU hW => ⟨rfl, trivial⟩⟩ rfl rfl hl.1 rfl (lv_room (Nat.le_of_ble_eq_true rfl)) dX10_oneOf_19 ⟨Nat.le_of_ble_eq_true rfl, Nat.le_of_ble_eq_true rfl⟩)) (fun r_116 e_116 => ?_)
    subst e_116
    refine lv_if_ne (tgt := 35) hx hb dX10_oneOf_22 (by decide) (fun c_118 => ?_) (fun c_118 => ?_)
    · replace h := on c_118 h
      refine lv_aload_n hx hb dX10_oneOf_35 rfl (lv_at hl 0 rfl) ?_
      refine lv_dup hx hb dX10_oneOf_36 rfl ?_
      refine va_get (D := (dC, dI)) (ci := 8) (v := .int v_at) (C := RX10) (T := TX10) (N := 26) hx hb hts hi_X10 hown hK hP 0 rfl rfl 7 (by decide) (hts _ (List.mem_of_getElem? (i := 1) rfl)) (fun _ h9 => h9) rfl dX10_oneOf_37 ?_
      refine lv_iconst (v := 1) hx hb dX10_oneOf_40 (by decide) ?_
      refine lv_iadd hx hb dX10_oneOf_41 ?_
      refine va_put (D := (dC, dI)) (ci := 8) (v := .int (v_at + (1 : Int32))) (ty := .int) (C := RX10) (T := TX10) (N := 26) hx hb hts hi_X10 tyX10 tyX10_ok nmX10 hown hK hP hD hS 0 rfl rfl 7 (by decide) (hts _ (List.mem_of_getElem? (i := 1) rfl)) (fun _ h9 => h9) rfl (by decide +kernel) rfl rfl (Nat.le_of_ble_eq_true rfl) dX10_oneOf_42 (fun H locs hP hD hS => ?_)
      replace hP : va_P (dC, dI) vwCl [(h0, .inr (8, [.ref q_now, .ref q_text, .int v_typed, .ref q_row, .int v_rowMany, .int v_thrown, .int v_length, .int (v_at + (1 : Int32)), .int v_wrong, .ref q_read, .ref q_ranks, .ref q_distinct, .ref q_proper, .int v_properMany, .ref q_line, .ref q_order, .int v_orderMany, .ref q_then, .ref q_bestOrder, .ref q_lineThen, .ref q_undos, .ref q_was, .int v_undoMany, .int v_drawn, .ref q_kept, .ref q_isKept])), (q_text, .inl (cB, 80, .inl v_text))] H := hP
      replace hD : va_D A [(h0, .inr (8, [.ref q_now, .ref q_text, .int v_typed, .ref q_row, .int v_rowMany, .int v_thrown, .int v_length, .int (v_at + (1 : Int32)), .int v_wrong, .ref q_read, .ref q_ranks, .ref q_distinct, .ref q_proper, .int v_properMany, .ref q_line, .ref q_order, .int v_orderMany, .ref q_then, .ref q_bestOrder, .ref q_lineThen, .ref q_undos, .ref q_was, .int v_undoMany, .int v_drawn, .ref q_kept, .ref q_isKept])), (q_text, .inl (cB, 80, .inl v_text))] := hD
      refine lv_aload_n hx hb dX10_oneOf_45 rfl (lv_at hl 0 rfl) ?_
      refine va_get (D := (dC, dI)) (ci := 8) (v := .ref q_text) (C := RX10) (T := TX10) (N := 26) hx hb hts hi_X10 hown hK hP 0 rfl rfl 1 (by decide) (hts _ (List.mem_of_getElem? (i := 2) rfl)) (fun _ h9 => h9) rfl dX10_oneOf_46 ?_
      refine lv_aload_n hx hb dX10_oneOf_49 rfl (lv_at hl 0 rfl) ?_
      refine va_get (D := (dC, dI)) (ci := 8) (v := .int (v_at + (1 : Int32))) (C := RX10) (T := TX10) (N := 26) hx hb hts hi_X10 hown hK hP 0 rfl rfl 7 (by decide) (hts _ (List.mem_of_getElem? (i := 1) rfl)) (fun _ h9 => h9) rfl dX10_oneOf_50 ?_
      refine lv_iconst (v := 1) hx hb dX10_oneOf_53 (by decide) ?_
      refine lv_isub hx hb dX10_oneOf_54 ?_
      obtain ⟨hi_119, h⟩ := og h
      refine va_bald hx hb hK hP 1 2 rfl rfl hi_119 dX10_oneOf_55 ?_
      refine lv_iload_n hx hb dX10_oneOf_56 rfl (lv_at hl 1 rfl) ?_
      refine lv_isub hx hb dX10_oneOf_57 ?_
      rw [hQQ]
      have ho := Option.some.inj h
      subst ho
      exact W.iret hx hb hr (fun t ht hW => ⟨⟨_, (), rfl, rfl, by rw [ht]; exact hP, va_K.moved hW.alike hK, hD⟩, hS.F ht⟩) hS.2.2 dX10_oneOf_58
    · replace h := op c_118 h
      refine lv_aload_n hx hb dX10_oneOf_25 rfl (lv_at hl 0 rfl) ?_
      refine lv_aload_n hx hb dX10_oneOf_26 rfl (lv_at hl 0 rfl) ?_
      refine va_get (D := (dC, dI)) (ci := 8) (v := .int v_at) (C := RX10) (T := TX10) (N := 26) hx hb hts hi_X10 hown hK hP 0 rfl rfl 7 (by decide) (hts _ (List.mem_of_getElem? (i := 1) rfl)) (fun _ h9 => h9) rfl dX10_oneOf_27 ?_
      obtain ⟨o_120, hr_120, h⟩ := ob h
      have hPc := hP.sub (ws' := [(h0, .inr (8, [.ref q_now, .ref q_text, .int v_typed, .ref q_row, .int v_rowMany, .int v_thrown, .int v_length, .int v_at, .int v_wrong, .ref q_read, .ref q_ranks, .ref q_distinct, .ref q_proper, .int v_properMany, .ref q_line, .ref q_order, .int v_orderMany, .ref q_then, .ref q_bestOrder, .ref q_lineThen, .ref q_undos, .ref q_was, .int v_undoMany, .int v_drawn, .ref q_kept, .ref q_isKept]))]) [0] rfl
      have hDc := hD.sub (ws' := [(h0, .inr (8, [.ref q_now, .ref q_text, .int v_typed, .ref q_row, .int v_rowMany, .int v_thrown, .int v_length, .int v_at, .int v_wrong, .ref q_read, .ref q_ranks, .ref q_distinct, .ref q_proper, .int v_properMany, .ref q_line, .ref q_order, .int v_orderMany, .ref q_then, .ref q_bestOrder, .ref q_lineThen, .ref q_undos, .ref q_was, .int v_undoMany, .int v_drawn, .ref q_kept, .ref q_isKept]))]) [0] (by decide) rfl
      have hFc := va_free (wc := [(h0, .inr (8, [.ref q_now, .ref q_text, .int v_typed, .ref q_row, .int v_rowMany, .int v_thrown, .int v_length, .int v_at, .int v_wrong, .ref q_read, .ref q_ranks, .ref q_distinct, .ref q_proper, .int v_properMany, .ref q_line, .ref q_order, .int v_orderMany, .ref q_then, .ref q_bestOrder, .ref q_lineThen, .ref q_undos, .ref q_was, .int v_undoMany, .int v_drawn, .ref q_kept, .ref q_isKept]))]) hD hS hA [0] rfl
      refine va_callv (va_runV (As := [.int v_at]) (rest := []) ⟨hx, hb, hml, hown, hts⟩ (c_X10_fault l dC dI cB cC cI cJ cZ cT h0 q_now q_text q_row q_read q_ranks q_distinct q_proper q_line q_order q_then q_bestOrder q_lineThen q_undos q_was q_kept q_isKept s.heap.size v_typed v_rowMany v_thrown v_length v_at v_wrong v_properMany v_orderMany v_undoMany v_drawn v_at o_120 hr_120) (cwV 1 hts gX10_oneOf_X10_fault rfl rfl rfl (by decide +kernel) ⟨Nat.le_of_ble_eq_true rfl, Nat.le_of_ble_eq_true rfl⟩) ⟨blW, va_recv hK hP (ci := 8) (q0 := 0) rfl rfl, fun U hU hW => ⟨rfl, by rw [hU], by rw [hU]; exact hPc, va_K.moved hW.alike hK, hDc.weaken (fun _ _ _ _ => trivial)⟩⟩ rfl rfl hl.1 rfl (lv_room (Nat.le_of_ble_eq_true rfl)) dX10_oneOf_30 ⟨Nat.le_of_ble_eq_true rfl, Nat.le_of_ble_eq_true rfl⟩) hS (fun q _ h => hFc q h) hFc (fun u_120 t_120 H locs ht hvm e_120 hB hz1 hk1 hS => ?_)
      obtain ⟨hP1, -, hD1⟩ := hB
      rw [ht] at hP1
      obtain ⟨hP, hD⟩ := va_join (wr := [(q_text, .inl (cB, 80, .inl v_text))]) (w1 := [(h0, .inr (8, [.ref q_now, .ref q_text, .int v_typed, .ref q_row, .int v_rowMany, .int v_thrown, .int v_length, .int v_at, .int o_120, .ref q_read, .ref q_ranks, .ref q_distinct, .ref q_proper, .int v_properMany, .ref q_line, .ref q_order, .int v_orderMany, .ref q_then, .ref q_bestOrder, .ref q_lineThen, .ref q_undos, .ref q_was, .int v_undoMany, .int v_drawn, .ref q_kept, .ref q_isKept]))]) hP hD [0] [1] rfl rfl (by decide) (by decide) hk1 hFc hP1 hD1
      replace hP := hP.sub (ws' := [(h0, .inr (8, [.ref q_now, .ref q_text, .int v_typed, .ref q_row, .int v_rowMany, .int v_thrown, .int v_length, .int v_at, .int o_120, .ref q_read, .ref q_ranks, .ref q_distinct, .ref q_proper, .int v_properMany, .ref q_line, .ref q_order, .int v_orderMany, .ref q_then, .ref q_bestOrder, .ref q_lineThen, .ref q_undos, .ref q_was, .int v_undoMany, .int v_drawn, .ref q_kept, .ref q_isKept])), (q_text, .inl (cB, 80, .inl v_text))]) [1, 0] rfl
      replace hD := hD.sub (ws' := [(h0, .inr (8, [.ref q_now, .ref q_text, .int v_typed, .ref q_row, .int v_rowMany, .int v_thrown, .int v_length, .int v_at, .int o_120, .ref q_read, .ref q_ranks, .ref q_distinct, .ref q_proper, .int v_properMany, .ref q_line, .ref q_order, .int v_orderMany, .ref q_then, .ref q_bestOrder, .ref q_lineThen, .ref q_undos, .ref q_was, .int v_undoMany, .int v_drawn, .ref q_kept, .ref q_isKept])), (q_text, .inl (cB, 80, .inl v_text))]) [1, 0] (by decide) rfl
      refine lv_iconst (v := 0) hx hb dX10_oneOf_33 (by decide) ?_
      rw [hQQ]
      have ho := Option.some.inj h
      subst ho
      exact W.iret hx hb hr (fun t ht hW => ⟨⟨_, (), rfl, rfl, by rw [ht]; exact hP, va_K.moved hW.alike hK, hD⟩, hS.F ht⟩) hS.2.2 dX10_oneOf_34
  · replace h := op c_113 h
    refine lv_iconst (v := 0) hx hb dX10_oneOf_7 (by decide) ?_
    rw [hQQ]
    have ho := Option.some.inj h
    subst ho
    exact W.iret hx hb hr (fun t ht hW => ⟨⟨_, (), rfl, rfl, by rw [ht]; exact hP, va_K.moved hW.alike hK, hD⟩, hS.F ht⟩) hS.2.2 dX10_oneOf_8
def f_X10_twoDigits (v_length : Int32) (v_at : Int32) (v_wrong : Int32) (v_text : Nat → Int32) : Option (Int32 × Int32 × Int32) :=
  ((f_X10_oneOf v_length v_at v_wrong v_text (48 : Int32) (10 : Int32)).bind (fun o_122 => ((f_X10_oneOf v_length o_122.2.1 o_122.2.2 v_text (48 : Int32) (10 : Int32)).bind (fun o_124 => (some ((((10 : Int32) * o_122.1) + o_124.1), o_124.2.1, o_124.2.2))))))
abbrev rm_X10_twoDigits : Room := { frames := 3, cells := 0, slots := 0, locals := 63 }
set_option maxHeartbeats 4000000 in
set_option maxRecDepth 100000 in
theorem c_X10_twoDigits (l : Launch) (dC : Nat → ClassId) (dI : Nat → Nat → Nat) (cB cC cI cJ cZ cT : ClassId) (h0 q_now q_text q_row q_read q_ranks q_distinct q_proper q_line q_order q_then q_bestOrder q_lineThen q_undos q_was q_kept q_isKept : Nat) (sz : Nat) (v_typed : Int32) (v_rowMany : Int32) (v_thrown : Int32) (v_length : Int32) (v_at : Int32) (v_wrong : Int32) (v_properMany : Int32) (v_orderMany : Int32) (v_undoMany : Int32) (v_drawn : Int32) (v_text : Nat → Int32) (o : (Int32 × Int32 × Int32)) (hf : f_X10_twoDigits v_length v_at v_wrong v_text = some o) : Met l yX10_twoDigits wsX10_twoDigits rm_X10_twoDigits (va_Pc [.ref h0] (fun U => U.heap.size = sz ∧ va_P (dC, dI) vwCl [(h0, .inr (8, [.ref q_now, .ref q_text, .int v_typed, .ref q_row, .int v_rowMany, .int v_thrown, .int v_length, .int v_at, .int v_wrong, .ref q_read, .ref q_ranks, .ref q_distinct, .ref q_proper, .int v_properMany, .ref q_line, .ref q_order, .int v_orderMany, .ref q_then, .ref q_bestOrder, .ref q_lineThen, .ref q_undos, .ref q_was, .int v_undoMany, .int v_drawn, .ref q_kept, .ref q_isKept])), (q_text, .inl (cB, 80, .inl v_text))] U.heap ∧ va_K (dC, dI) vwCl (tyA cB cC cI cJ cZ cT) U ∧ va_D (fun _ => True) [(h0, .inr (8, [.ref q_now, .ref q_text, .int v_typed, .ref q_row, .int v_rowMany, .int v_thrown, .int v_length, .int v_at, .int v_wrong, .ref q_read, .ref q_ranks, .ref q_distinct, .ref q_proper, .int v_properMany, .ref q_line, .ref q_order, .int v_orderMany, .ref q_then, .ref q_bestOrder, .ref q_lineThen, .ref q_undos, .ref q_was, .int v_undoMany, .int v_drawn, .ref q_kept, .ref q_isKept])), (q_text, .inl (cB, 80, .inl v_text))])) (va_Qi (fun (r : Int32) (_ : Unit) => o.1 = r) (fun _ t => va_P (dC, dI) vwCl [(h0, .inr (8, [.ref q_now, .ref q_text, .int v_typed, .ref q_row, .int v_rowMany, .int v_thrown, .int v_length, .int o.2.1, .int o.2.2, .ref q_read, .ref q_ranks, .ref q_distinct, .ref q_proper, .int v_properMany, .ref q_line, .ref q_order, .int v_orderMany, .ref q_then, .ref q_bestOrder, .ref q_lineThen, .ref q_undos, .ref q_was, .int v_undoMany, .int v_drawn, .ref q_kept, .ref q_isKept])), (q_text, .inl (cB, 80, .inl v_text))] t.heap ∧ va_K (dC, dI) vwCl (tyA cB cC cI cJ cZ cT) t ∧ va_D (va_A [(h0, .inr (8, [.ref q_now, .ref q_text, .int v_typed, .ref q_row, .int v_rowMany, .int v_thrown, .int v_length, .int v_at, .int v_wrong, .ref q_read, .ref q_ranks, .ref q_distinct, .ref q_proper, .int v_properMany, .ref q_line, .ref q_order, .int v_orderMany, .ref q_then, .ref q_bestOrder, .ref q_lineThen, .ref q_undos, .ref q_was, .int v_undoMany, .int v_drawn, .ref q_kept, .ref q_isKept])), (q_text, .inl (cB, 80, .inl v_text))] sz) [(h0, .inr (8, [.ref q_now, .ref q_text, .int v_typed, .ref q_row, .int v_rowMany, .int v_thrown, .int v_length, .int o.2.1, .int o.2.2, .ref q_read, .ref q_ranks, .ref q_distinct, .ref q_proper, .int v_properMany, .ref q_line, .ref q_order, .int v_orderMany, .ref q_then, .ref q_bestOrder, .ref q_lineThen, .ref q_undos, .ref q_was, .int v_undoMany, .int v_drawn, .ref q_kept, .ref q_isKept])), (q_text, .inl (cB, 80, .inl v_text))]) (va_A [(h0, .inr (8, [.ref q_now, .ref q_text, .int v_typed, .ref q_row, .int v_rowMany, .int v_thrown, .int v_length, .int v_at, .int v_wrong, .ref q_read, .ref q_ranks, .ref q_distinct, .ref q_proper, .int v_properMany, .ref q_line, .ref q_order, .int v_orderMany, .ref q_then, .ref q_bestOrder, .ref q_lineThen, .ref q_undos, .ref q_was, .int v_undoMany, .int v_drawn, .ref q_kept, .ref q_isKept])), (q_text, .inl (cB, 80, .inl v_text))] sz)) 0 0 (va_A [(h0, .inr (8, [.ref q_now, .ref q_text, .int v_typed, .ref q_row, .int v_rowMany, .int v_thrown, .int v_length, .int v_at, .int v_wrong, .ref q_read, .ref q_ranks, .ref q_distinct, .ref q_proper, .int v_properMany, .ref q_line, .ref q_order, .int v_orderMany, .ref q_then, .ref q_bestOrder, .ref q_lineThen, .ref q_undos, .ref q_was, .int v_undoMany, .int v_drawn, .ref q_kept, .ref q_isKept])), (q_text, .inl (cB, 80, .inl v_text))] sz) := by
  refine Met.ofW (cc := cX10_twoDigits) (maxL := 2) (ret := (some .int)) (by decide +kernel) rfl ?_
  intro p e s m args below meth c s₁ B hml hv
  obtain ⟨hav, hsz, hP, hK, hD0⟩ := hv
  have hx := B.exec
  have hb := B.bytes
  have hr := B.returns
  have hts := atoms_spec (ws := wsX10_twoDigits) B.pre
  have hown : s.vm.findClass RX10 = some m.cls := findClass_of_methodNamed B.named
  have hlocks := B.notSynchronized
  subst hsz
  have hD := hD0.self (sz := s.heap.size)
  generalize hAe : va_A [(h0, .inr (8, [.ref q_now, .ref q_text, .int v_typed, .ref q_row, .int v_rowMany, .int v_thrown, .int v_length, .int v_at, .int v_wrong, .ref q_read, .ref q_ranks, .ref q_distinct, .ref q_proper, .int v_properMany, .ref q_line, .ref q_order, .int v_orderMany, .ref q_then, .ref q_bestOrder, .ref q_lineThen, .ref q_undos, .ref q_was, .int v_undoMany, .int v_drawn, .ref q_kept, .ref q_isKept])), (q_text, .inl (cB, 80, .inl v_text))] s.heap.size = A at hD ⊢
  have hA : ∀ q : Nat, s.heap.size ≤ q → A q := fun q h => by rw [← hAe]; exact Or.inr h
  have hS : va_S A s.heap s.heap [] := va_S.rf
  refine wstart (rm := rm_X10_twoDigits) hav (Nat.le_of_ble_eq_true rfl) (fun QQ ls hQQ hl => ?_)
  have hl : lv_has ls 2 [(0, .ref h0)] := hl
  have h := hf
  unfold f_X10_twoDigits at h
  refine lv_aload_n hx hb dX10_twoDigits_0 rfl (lv_at hl 0 rfl) ?_
  refine lv_bipush (v := 48) hx hb dX10_twoDigits_1 (by decide) ?_
  refine lv_bipush (v := 10) hx hb dX10_twoDigits_3 (by decide) ?_
  obtain ⟨o_122, hr_122, h⟩ := ob h
  have hPc := hP.sub (ws' := [(h0, .inr (8, [.ref q_now, .ref q_text, .int v_typed, .ref q_row, .int v_rowMany, .int v_thrown, .int v_length, .int v_at, .int v_wrong, .ref q_read, .ref q_ranks, .ref q_distinct, .ref q_proper, .int v_properMany, .ref q_line, .ref q_order, .int v_orderMany, .ref q_then, .ref q_bestOrder, .ref q_lineThen, .ref q_undos, .ref q_was, .int v_undoMany, .int v_drawn, .ref q_kept, .ref q_isKept])), (q_text, .inl (cB, 80, .inl v_text))]) [0, 1] rfl
  have hDc := hD.sub (ws' := [(h0, .inr (8, [.ref q_now, .ref q_text, .int v_typed, .ref q_row, .int v_rowMany, .int v_thrown, .int v_length, .int v_at, .int v_wrong, .ref q_read, .ref q_ranks, .ref q_distinct, .ref q_proper, .int v_properMany, .ref q_line, .ref q_order, .int v_orderMany, .ref q_then, .ref q_bestOrder, .ref q_lineThen, .ref q_undos, .ref q_was, .int v_undoMany, .int v_drawn, .ref q_kept, .ref q_isKept])), (q_text, .inl (cB, 80, .inl v_text))]) [0, 1] (by decide) rfl
  have hFc := va_free (wc := [(h0, .inr (8, [.ref q_now, .ref q_text, .int v_typed, .ref q_row, .int v_rowMany, .int v_thrown, .int v_length, .int v_at, .int v_wrong, .ref q_read, .ref q_ranks, .ref q_distinct, .ref q_proper, .int v_properMany, .ref q_line, .ref q_order, .int v_orderMany, .ref q_then, .ref q_bestOrder, .ref q_lineThen, .ref q_undos, .ref q_was, .int v_undoMany, .int v_drawn, .ref q_kept, .ref q_isKept])), (q_text, .inl (cB, 80, .inl v_text))]) hD hS hA [0, 1] rfl
  refine va_calli (va_runV (As := [.int (48 : Int32), .int (10 : Int32)]) (rest := []) ⟨hx, hb, hml, hown, hts⟩ (c_X10_oneOf l dC dI cB cC cI cJ cZ cT h0 q_now q_text q_row q_read q_ranks q_distinct q_proper q_line q_order q_then q_bestOrder q_lineThen q_undos q_was q_kept q_isKept s.heap.size v_typed v_rowMany v_thrown v_length v_at v_wrong v_properMany v_orderMany v_undoMany v_drawn v_text (48 : Int32) (10 : Int32) o_122 hr_122) (cwV 2 hts gX10_twoDigits_X10_oneOf rfl rfl rfl (by decide +kernel) ⟨Nat.le_of_ble_eq_true rfl, Nat.le_of_ble_eq_true rfl⟩) ⟨blW, va_recv hK hP (ci := 8) (q0 := 0) rfl rfl, fun U hU hW => ⟨rfl, by rw [hU], by rw [hU]; exact hPc, va_K.moved hW.alike hK, hDc.weaken (fun _ _ _ _ => trivial)⟩⟩ rfl rfl hl.1 rfl (lv_room (Nat.le_of_ble_eq_true rfl)) dX10_twoDigits_5 ⟨Nat.le_of_ble_eq_true rfl, Nat.le_of_ble_eq_true rfl⟩) hS (fun q _ h => hFc q h) hFc (fun r_122 u_122 t_122 H locs ht hvm e_122 hB hz1 hk1 hS => ?_)
  obtain ⟨hP1, -, hD1⟩ := hB
  rw [ht] at hP1
  obtain ⟨hP, hD⟩ := va_join (wr := []) (w1 := [(h0, .inr (8, [.ref q_now, .ref q_text, .int v_typed, .ref q_row, .int v_rowMany, .int v_thrown, .int v_length, .int o_122.2.1, .int o_122.2.2, .ref q_read, .ref q_ranks, .ref q_distinct, .ref q_proper, .int v_properMany, .ref q_line, .ref q_order, .int v_orderMany, .ref q_then, .ref q_bestOrder, .ref q_lineThen, .ref q_undos, .ref q_was, .int v_undoMany, .int v_drawn, .ref q_kept, .ref q_isKept])), (q_text, .inl (cB, 80, .inl v_text))]) hP hD [0, 1] [] rfl rfl (by decide) (by decide) hk1 hFc hP1 hD1
  replace hP := hP.sub (ws' := [(h0, .inr (8, [.ref q_now, .ref q_text, .int v_typed, .ref q_row, .int v_rowMany, .int v_thrown, .int v_length, .int o_122.2.1, .int o_122.2.2, .ref q_read, .ref q_ranks, .ref q_distinct, .ref q_proper, .int v_properMany, .ref q_line, .ref q_order, .int v_orderMany, .ref q_then, .ref q_bestOrder, .ref q_lineThen, .ref q_undos, .ref q_was, .int v_undoMany, .int v_drawn, .ref q_kept, .ref q_isKept])), (q_text, .inl (cB, 80, .inl v_text))]) [0, 1] rfl
  replace hD := hD.sub (ws' := [(h0, .inr (8, [.ref q_now, .ref q_text, .int v_typed, .ref q_row, .int v_rowMany, .int v_thrown, .int v_length, .int o_122.2.1, .int o_122.2.2, .ref q_read, .ref q_ranks, .ref q_distinct, .ref q_proper, .int v_properMany, .ref q_line, .ref q_order, .int v_orderMany, .ref q_then, .ref q_bestOrder, .ref q_lineThen, .ref q_undos, .ref q_was, .int v_undoMany, .int v_drawn, .ref q_kept, .ref q_isKept])), (q_text, .inl (cB, 80, .inl v_text))]) [0, 1] (by decide) rfl
  subst e_122
  refine lv_istore_n (lv' := [(1, .int o_122.1), (0, .ref h0)]) hx hb dX10_twoDigits_8 rfl hl (by decide) rfl (fun ls hl => ?_)
  refine lv_bipush (v := 10) hx hb dX10_twoDigits_9 (by decide) ?_
  refine lv_iload_n hx hb dX10_twoDigits_11 rfl (lv_at hl 0 rfl) ?_
  refine lv_imul hx hb dX10_twoDigits_12 ?_
  refine lv_aload_n hx hb dX10_twoDigits_13 rfl (lv_at hl 1 rfl) ?_
  refine lv_bipush (v := 48) hx hb dX10_twoDigits_14 (by decide) ?_
  refine lv_bipush (v := 10) hx hb dX10_twoDigits_16 (by decide) ?_
  obtain ⟨o_124, hr_124, h⟩ := ob h
  have hPc := hP.sub (ws' := [(h0, .inr (8, [.ref q_now, .ref q_text, .int v_typed, .ref q_row, .int v_rowMany, .int v_thrown, .int v_length, .int o_122.2.1, .int o_122.2.2, .ref q_read, .ref q_ranks, .ref q_distinct, .ref q_proper, .int v_properMany, .ref q_line, .ref q_order, .int v_orderMany, .ref q_then, .ref q_bestOrder, .ref q_lineThen, .ref q_undos, .ref q_was, .int v_undoMany, .int v_drawn, .ref q_kept, .ref q_isKept])), (q_text, .inl (cB, 80, .inl v_text))]) [0, 1] rfl
  have hDc := hD.sub (ws' := [(h0, .inr (8, [.ref q_now, .ref q_text, .int v_typed, .ref q_row, .int v_rowMany, .int v_thrown, .int v_length, .int o_122.2.1, .int o_122.2.2, .ref q_read, .ref q_ranks, .ref q_distinct, .ref q_proper, .int v_properMany, .ref q_line, .ref q_order, .int v_orderMany, .ref q_then, .ref q_bestOrder, .ref q_lineThen, .ref q_undos, .ref q_was, .int v_undoMany, .int v_drawn, .ref q_kept, .ref q_isKept])), (q_text, .inl (cB, 80, .inl v_text))]) [0, 1] (by decide) rfl
  have hFc := va_free (wc := [(h0, .inr (8, [.ref q_now, .ref q_text, .int v_typed, .ref q_row, .int v_rowMany, .int v_thrown, .int v_length, .int o_122.2.1, .int o_122.2.2, .ref q_read, .ref q_ranks, .ref q_distinct, .ref q_proper, .int v_properMany, .ref q_line, .ref q_order, .int v_orderMany, .ref q_then, .ref q_bestOrder, .ref q_lineThen, .ref q_undos, .ref q_was, .int v_undoMany, .int v_drawn, .ref q_kept, .ref q_isKept])), (q_text, .inl (cB, 80, .inl v_text))]) hD hS hA [0, 1] rfl
  refine va_calli (va_runV (As := [.int (48 : Int32), .int (10 : Int32)]) (rest := [.int ((10 : Int32) * o_122.1)]) ⟨hx, hb, hml, hown, hts⟩ (c_X10_oneOf l dC dI cB cC cI cJ cZ cT h0 q_now q_text q_row q_read q_ranks q_distinct q_proper q_line q_order q_then q_bestOrder q_lineThen q_undos q_was q_kept q_isKept H.size v_typed v_rowMany v_thrown v_length o_122.2.1 o_122.2.2 v_properMany v_orderMany v_undoMany v_drawn v_text (48 : Int32) (10 : Int32) o_124 hr_124) (cwV 2 hts gX10_twoDigits_X10_oneOf rfl rfl rfl (by decide +kernel) ⟨Nat.le_of_ble_eq_true rfl, Nat.le_of_ble_eq_true rfl⟩) ⟨blW, va_recv hK hP (ci := 8) (q0 := 0) rfl rfl, fun U hU hW => ⟨rfl, by rw [hU], by rw [hU]; exact hPc, va_K.moved hW.alike hK, hDc.weaken (fun _ _ _ _ => trivial)⟩⟩ rfl rfl hl.1 rfl (lv_room (Nat.le_of_ble_eq_true rfl)) dX10_twoDigits_18 ⟨Nat.le_of_ble_eq_true rfl, Nat.le_of_ble_eq_true rfl⟩) hS (fun q _ h => hFc q h) hFc (fun r_124 u_124 t_124 H locs ht hvm e_124 hB hz1 hk1 hS => ?_)
  obtain ⟨hP1, -, hD1⟩ := hB
  rw [ht] at hP1
  obtain ⟨hP, hD⟩ := va_join (wr := []) (w1 := [(h0, .inr (8, [.ref q_now, .ref q_text, .int v_typed, .ref q_row, .int v_rowMany, .int v_thrown, .int v_length, .int o_124.2.1, .int o_124.2.2, .ref q_read, .ref q_ranks, .ref q_distinct, .ref q_proper, .int v_properMany, .ref q_line, .ref q_order, .int v_orderMany, .ref q_then, .ref q_bestOrder, .ref q_lineThen, .ref q_undos, .ref q_was, .int v_undoMany, .int v_drawn, .ref q_kept, .ref q_isKept])), (q_text, .inl (cB, 80, .inl v_text))]) hP hD [0, 1] [] rfl rfl (by decide) (by decide) hk1 hFc hP1 hD1
  replace hP := hP.sub (ws' := [(h0, .inr (8, [.ref q_now, .ref q_text, .int v_typed, .ref q_row, .int v_rowMany, .int v_thrown, .int v_length, .int o_124.2.1, .int o_124.2.2, .ref q_read, .ref q_ranks, .ref q_distinct, .ref q_proper, .int v_properMany, .ref q_line, .ref q_order, .int v_orderMany, .ref q_then, .ref q_bestOrder, .ref q_lineThen, .ref q_undos, .ref q_was, .int v_undoMany, .int v_drawn, .ref q_kept, .ref q_isKept])), (q_text, .inl (cB, 80, .inl v_text))]) [0, 1] rfl
  replace hD := hD.sub (ws' := [(h0, .inr (8, [.ref q_now, .ref q_text, .int v_typed, .ref q_row, .int v_rowMany, .int v_thrown, .int v_length, .int o_124.2.1, .int o_124.2.2, .ref q_read, .ref q_ranks, .ref q_distinct, .ref q_proper, .int v_properMany, .ref q_line, .ref q_order, .int v_orderMany, .ref q_then, .ref q_bestOrder, .ref q_lineThen, .ref q_undos, .ref q_was, .int v_undoMany, .int v_drawn, .ref q_kept, .ref q_isKept])), (q_text, .inl (cB, 80, .inl v_text))]) [0, 1] (by decide) rfl
  subst e_124
  refine lv_iadd hx hb dX10_twoDigits_21 ?_
  rw [hQQ]
  have ho := Option.some.inj h
  subst ho
  exact W.iret hx hb hr (fun t ht hW => ⟨⟨_, (), rfl, rfl, by rw [ht]; exact hP, va_K.moved hW.alike hK, hD⟩, hS.F ht⟩) hS.2.2 dX10_twoDigits_22
def f_X10_wasRight (v_length : Int32) (v_at : Int32) (v_wrong : Int32) : Option (Bool × Int32) :=
  (((if v_length ≤ v_at then (some v_wrong) else ((f_X10_fault v_wrong v_at).bind (fun o_131 => (some o_131))))).bind (fun v_126 => ((f_X10_fine v_126).bind (fun o_133 => (some (o_133, v_126))))))
abbrev rm_X10_wasRight : Room := { frames := 2, cells := 0, slots := 0, locals := 41 }
set_option maxHeartbeats 4000000 in
set_option maxRecDepth 100000 in
theorem c_X10_wasRight (l : Launch) (dC : Nat → ClassId) (dI : Nat → Nat → Nat) (cB cC cI cJ cZ cT : ClassId) (h0 q_now q_text q_row q_read q_ranks q_distinct q_proper q_line q_order q_then q_bestOrder q_lineThen q_undos q_was q_kept q_isKept : Nat) (sz : Nat) (v_typed : Int32) (v_rowMany : Int32) (v_thrown : Int32) (v_length : Int32) (v_at : Int32) (v_wrong : Int32) (v_properMany : Int32) (v_orderMany : Int32) (v_undoMany : Int32) (v_drawn : Int32) (o : (Bool × Int32)) (hf : f_X10_wasRight v_length v_at v_wrong = some o) : Met l yX10_wasRight wsX10_wasRight rm_X10_wasRight (va_Pc [.ref h0] (fun U => U.heap.size = sz ∧ va_P (dC, dI) vwCl [(h0, .inr (8, [.ref q_now, .ref q_text, .int v_typed, .ref q_row, .int v_rowMany, .int v_thrown, .int v_length, .int v_at, .int v_wrong, .ref q_read, .ref q_ranks, .ref q_distinct, .ref q_proper, .int v_properMany, .ref q_line, .ref q_order, .int v_orderMany, .ref q_then, .ref q_bestOrder, .ref q_lineThen, .ref q_undos, .ref q_was, .int v_undoMany, .int v_drawn, .ref q_kept, .ref q_isKept]))] U.heap ∧ va_K (dC, dI) vwCl (tyA cB cC cI cJ cZ cT) U ∧ va_D (fun _ => True) [(h0, .inr (8, [.ref q_now, .ref q_text, .int v_typed, .ref q_row, .int v_rowMany, .int v_thrown, .int v_length, .int v_at, .int v_wrong, .ref q_read, .ref q_ranks, .ref q_distinct, .ref q_proper, .int v_properMany, .ref q_line, .ref q_order, .int v_orderMany, .ref q_then, .ref q_bestOrder, .ref q_lineThen, .ref q_undos, .ref q_was, .int v_undoMany, .int v_drawn, .ref q_kept, .ref q_isKept]))])) (va_Qi (fun (r : Int32) (_ : Unit) => b2i o.1 = r) (fun _ t => va_P (dC, dI) vwCl [(h0, .inr (8, [.ref q_now, .ref q_text, .int v_typed, .ref q_row, .int v_rowMany, .int v_thrown, .int v_length, .int v_at, .int o.2, .ref q_read, .ref q_ranks, .ref q_distinct, .ref q_proper, .int v_properMany, .ref q_line, .ref q_order, .int v_orderMany, .ref q_then, .ref q_bestOrder, .ref q_lineThen, .ref q_undos, .ref q_was, .int v_undoMany, .int v_drawn, .ref q_kept, .ref q_isKept]))] t.heap ∧ va_K (dC, dI) vwCl (tyA cB cC cI cJ cZ cT) t ∧ va_D (va_A [(h0, .inr (8, [.ref q_now, .ref q_text, .int v_typed, .ref q_row, .int v_rowMany, .int v_thrown, .int v_length, .int v_at, .int v_wrong, .ref q_read, .ref q_ranks, .ref q_distinct, .ref q_proper, .int v_properMany, .ref q_line, .ref q_order, .int v_orderMany, .ref q_then, .ref q_bestOrder, .ref q_lineThen, .ref q_undos, .ref q_was, .int v_undoMany, .int v_drawn, .ref q_kept, .ref q_isKept]))] sz) [(h0, .inr (8, [.ref q_now, .ref q_text, .int v_typed, .ref q_row, .int v_rowMany, .int v_thrown, .int v_length, .int v_at, .int o.2, .ref q_read, .ref q_ranks, .ref q_distinct, .ref q_proper, .int v_properMany, .ref q_line, .ref q_order, .int v_orderMany, .ref q_then, .ref q_bestOrder, .ref q_lineThen, .ref q_undos, .ref q_was, .int v_undoMany, .int v_drawn, .ref q_kept, .ref q_isKept]))]) (va_A [(h0, .inr (8, [.ref q_now, .ref q_text, .int v_typed, .ref q_row, .int v_rowMany, .int v_thrown, .int v_length, .int v_at, .int v_wrong, .ref q_read, .ref q_ranks, .ref q_distinct, .ref q_proper, .int v_properMany, .ref q_line, .ref q_order, .int v_orderMany, .ref q_then, .ref q_bestOrder, .ref q_lineThen, .ref q_undos, .ref q_was, .int v_undoMany, .int v_drawn, .ref q_kept, .ref q_isKept]))] sz)) 0 0 (va_A [(h0, .inr (8, [.ref q_now, .ref q_text, .int v_typed, .ref q_row, .int v_rowMany, .int v_thrown, .int v_length, .int v_at, .int v_wrong, .ref q_read, .ref q_ranks, .ref q_distinct, .ref q_proper, .int v_properMany, .ref q_line, .ref q_order, .int v_orderMany, .ref q_then, .ref q_bestOrder, .ref q_lineThen, .ref q_undos, .ref q_was, .int v_undoMany, .int v_drawn, .ref q_kept, .ref q_isKept]))] sz) := by
  refine Met.ofW (cc := cX10_wasRight) (maxL := 1) (ret := (some .boolean)) (by decide +kernel) rfl ?_
  intro p e s m args below meth c s₁ B hml hv
  obtain ⟨hav, hsz, hP, hK, hD0⟩ := hv
  have hx := B.exec
  have hb := B.bytes
  have hr := B.returns
  have hts := atoms_spec (ws := wsX10_wasRight) B.pre
  have hown : s.vm.findClass RX10 = some m.cls := findClass_of_methodNamed B.named
  have hlocks := B.notSynchronized
  subst hsz
  have hD := hD0.self (sz := s.heap.size)
  generalize hAe : va_A [(h0, .inr (8, [.ref q_now, .ref q_text, .int v_typed, .ref q_row, .int v_rowMany, .int v_thrown, .int v_length, .int v_at, .int v_wrong, .ref q_read, .ref q_ranks, .ref q_distinct, .ref q_proper, .int v_properMany, .ref q_line, .ref q_order, .int v_orderMany, .ref q_then, .ref q_bestOrder, .ref q_lineThen, .ref q_undos, .ref q_was, .int v_undoMany, .int v_drawn, .ref q_kept, .ref q_isKept]))] s.heap.size = A at hD ⊢
  have hA : ∀ q : Nat, s.heap.size ≤ q → A q := fun q h => by rw [← hAe]; exact Or.inr h
  have hS : va_S A s.heap s.heap [] := va_S.rf
  refine wstart (rm := rm_X10_wasRight) hav (Nat.le_of_ble_eq_true rfl) (fun QQ ls hQQ hl => ?_)
  have hl : lv_has ls 1 [(0, .ref h0)] := hl
  have hi_X10 : ∀ w ∈ u_ws RX10 TX10 26, w ∈ wsX10_wasRight := by decide +kernel
  have h := hf
  unfold f_X10_wasRight at h
  refine lv_aload_n hx hb dX10_wasRight_0 rfl (lv_at hl 0 rfl) ?_
  refine va_get (D := (dC, dI)) (ci := 8) (v := .int v_at) (C := RX10) (T := TX10) (N := 26) hx hb hts hi_X10 hown hK hP 0 rfl rfl 7 (by decide) (hts _ (List.mem_of_getElem? (i := 1) rfl)) (fun _ h9 => h9) rfl dX10_wasRight_1 ?_
  refine lv_aload_n hx hb dX10_wasRight_4 rfl (lv_at hl 0 rfl) ?_
  refine va_get (D := (dC, dI)) (ci := 8) (v := .int v_length) (C := RX10) (T := TX10) (N := 26) hx hb hts hi_X10 hown hK hP 0 rfl rfl 6 (by decide) (hts _ (List.mem_of_getElem? (i := 2) rfl)) (fun _ h9 => h9) rfl dX10_wasRight_5 ?_
  obtain ⟨v_126, hv_126, h⟩ := ob h
  have J_126 : ∀ (H : Heap) (locs : List Loc) (ls : Array Slot), va_P (dC, dI) vwCl [(h0, .inr (8, [.ref q_now, .ref q_text, .int v_typed, .ref q_row, .int v_rowMany, .int v_thrown, .int v_length, .int v_at, .int v_126, .ref q_read, .ref q_ranks, .ref q_distinct, .ref q_proper, .int v_properMany, .ref q_line, .ref q_order, .int v_orderMany, .ref q_then, .ref q_bestOrder, .ref q_lineThen, .ref q_undos, .ref q_was, .int v_undoMany, .int v_drawn, .ref q_kept, .ref q_isKept]))] H → va_D A [(h0, .inr (8, [.ref q_now, .ref q_text, .int v_typed, .ref q_row, .int v_rowMany, .int v_thrown, .int v_length, .int v_at, .int v_126, .ref q_read, .ref q_ranks, .ref q_distinct, .ref q_proper, .int v_properMany, .ref q_line, .ref q_order, .int v_orderMany, .ref q_then, .ref q_bestOrder, .ref q_lineThen, .ref q_undos, .ref q_was, .int v_undoMany, .int v_drawn, .ref q_kept, .ref q_isKept]))] → va_S A s.heap H locs → lv_has ls 1 [(0, .ref h0)] → W p l e rm_X10_wasRight s m args below meth c H locs 0 0 QQ (F0 m 19 ls []) := by
    intro H locs ls hP hD hS hl
    refine lv_aload_n hx hb dX10_wasRight_19 rfl (lv_at hl 0 rfl) ?_
    obtain ⟨o_133, hr_133, h⟩ := ob h
    refine vp_callSi (va_Run.run (va_runV (As := []) (rest := []) ⟨hx, hb, hml, hown, hts⟩ (c_X10_fine l dC dI cB cC cI cJ cZ cT h0 q_now q_text q_row q_read q_ranks q_distinct q_proper q_line q_order q_then q_bestOrder q_lineThen q_undos q_was q_kept q_isKept v_typed v_rowMany v_thrown v_length v_at v_126 v_properMany v_orderMany v_undoMany v_drawn o_133 hr_133) (cwV 0 hts gX10_wasRight_X10_fine rfl rfl rfl (by decide +kernel) ⟨Nat.le_of_ble_eq_true rfl, Nat.le_of_ble_eq_true rfl⟩) ⟨blR, va_recv hK hP (ci := 8) (q0 := 0) rfl rfl, fun U hU hW => ⟨rfl, by rw [hU]; exact hP.sub [0] rfl, va_K.moved hW.alike hK⟩⟩ rfl rfl hl.1 rfl (lv_room (Nat.le_of_ble_eq_true rfl)) dX10_wasRight_20 ⟨Nat.le_of_ble_eq_true rfl, Nat.le_of_ble_eq_true rfl⟩)) (fun r_133 e_133 => ?_)
    subst e_133
    rw [hQQ]
    have ho := Option.some.inj h
    subst ho
    exact W.zret hx hb hr (nzb _) (fun t ht hW => ⟨⟨_, (), rfl, rfl, by rw [ht]; exact hP, va_K.moved hW.alike hK, hD⟩, hS.F ht⟩) hS.2.2 dX10_wasRight_23
  replace h := hv_126
  refine lv_icmp_ge (tgt := 19) hx hb dX10_wasRight_8 (by decide) (fun c_130 => ?_) (fun c_130 => ?_)
  · replace h := op c_130 h
    have ho := Option.some.inj h
    subst ho
    exact J_126 s.heap _ ls hP hD hS (lv_sub hl [0] rfl)
  · replace h := on c_130 h
    refine lv_aload_n hx hb dX10_wasRight_11 rfl (lv_at hl 0 rfl) ?_
    refine lv_aload_n hx hb dX10_wasRight_12 rfl (lv_at hl 0 rfl) ?_
    refine va_get (D := (dC, dI)) (ci := 8) (v := .int v_at) (C := RX10) (T := TX10) (N := 26) hx hb hts hi_X10 hown hK hP 0 rfl rfl 7 (by decide) (hts _ (List.mem_of_getElem? (i := 1) rfl)) (fun _ h9 => h9) rfl dX10_wasRight_13 ?_
    obtain ⟨o_131, hr_131, h⟩ := ob h
    have hPc := hP.sub (ws' := [(h0, .inr (8, [.ref q_now, .ref q_text, .int v_typed, .ref q_row, .int v_rowMany, .int v_thrown, .int v_length, .int v_at, .int v_wrong, .ref q_read, .ref q_ranks, .ref q_distinct, .ref q_proper, .int v_properMany, .ref q_line, .ref q_order, .int v_orderMany, .ref q_then, .ref q_bestOrder, .ref q_lineThen, .ref q_undos, .ref q_was, .int v_undoMany, .int v_drawn, .ref q_kept, .ref q_isKept]))]) [0] rfl
    have hDc := hD.sub (ws' := [(h0, .inr (8, [.ref q_now, .ref q_text, .int v_typed, .ref q_row, .int v_rowMany, .int v_thrown, .int v_length, .int v_at, .int v_wrong, .ref q_read, .ref q_ranks, .ref q_distinct, .ref q_proper, .int v_properMany, .ref q_line, .ref q_order, .int v_orderMany, .ref q_then, .ref q_bestOrder, .ref q_lineThen, .ref q_undos, .ref q_was, .int v_undoMany, .int v_drawn, .ref q_kept, .ref q_isKept]))]) [0] (by decide) rfl
    have hFc := va_free (wc := [(h0, .inr (8, [.ref q_now, .ref q_text, .int v_typed, .ref q_row, .int v_rowMany, .int v_thrown, .int v_length, .int v_at, .int v_wrong, .ref q_read, .ref q_ranks, .ref q_distinct, .ref q_proper, .int v_properMany, .ref q_line, .ref q_order, .int v_orderMany, .ref q_then, .ref q_bestOrder, .ref q_lineThen, .ref q_undos, .ref q_was, .int v_undoMany, .int v_drawn, .ref q_kept, .ref q_isKept]))]) hD hS hA [0] rfl
    refine va_callv (va_runV (As := [.int v_at]) (rest := []) ⟨hx, hb, hml, hown, hts⟩ (c_X10_fault l dC dI cB cC cI cJ cZ cT h0 q_now q_text q_row q_read q_ranks q_distinct q_proper q_line q_order q_then q_bestOrder q_lineThen q_undos q_was q_kept q_isKept s.heap.size v_typed v_rowMany v_thrown v_length v_at v_wrong v_properMany v_orderMany v_undoMany v_drawn v_at o_131 hr_131) (cwV 1 hts gX10_wasRight_X10_fault rfl rfl rfl (by decide +kernel) ⟨Nat.le_of_ble_eq_true rfl, Nat.le_of_ble_eq_true rfl⟩) ⟨blW, va_recv hK hP (ci := 8) (q0 := 0) rfl rfl, fun U hU hW => ⟨rfl, by rw [hU], by rw [hU]; exact hPc, va_K.moved hW.alike hK, hDc.weaken (fun _ _ _ _ => trivial)⟩⟩ rfl rfl hl.1 rfl (lv_room (Nat.le_of_ble_eq_true rfl)) dX10_wasRight_16 ⟨Nat.le_of_ble_eq_true rfl, Nat.le_of_ble_eq_true rfl⟩) hS (fun q _ h => hFc q h) hFc (fun u_131 t_131 H locs ht hvm e_131 hB hz1 hk1 hS => ?_)
    obtain ⟨hP1, -, hD1⟩ := hB
    rw [ht] at hP1
    obtain ⟨hP, hD⟩ := va_join (wr := []) (w1 := [(h0, .inr (8, [.ref q_now, .ref q_text, .int v_typed, .ref q_row, .int v_rowMany, .int v_thrown, .int v_length, .int v_at, .int o_131, .ref q_read, .ref q_ranks, .ref q_distinct, .ref q_proper, .int v_properMany, .ref q_line, .ref q_order, .int v_orderMany, .ref q_then, .ref q_bestOrder, .ref q_lineThen, .ref q_undos, .ref q_was, .int v_undoMany, .int v_drawn, .ref q_kept, .ref q_isKept]))]) hP hD [0] [] rfl rfl (by decide) (by decide) hk1 hFc hP1 hD1
    replace hP := hP.sub (ws' := [(h0, .inr (8, [.ref q_now, .ref q_text, .int v_typed, .ref q_row, .int v_rowMany, .int v_thrown, .int v_length, .int v_at, .int o_131, .ref q_read, .ref q_ranks, .ref q_distinct, .ref q_proper, .int v_properMany, .ref q_line, .ref q_order, .int v_orderMany, .ref q_then, .ref q_bestOrder, .ref q_lineThen, .ref q_undos, .ref q_was, .int v_undoMany, .int v_drawn, .ref q_kept, .ref q_isKept]))]) [0] rfl
    replace hD := hD.sub (ws' := [(h0, .inr (8, [.ref q_now, .ref q_text, .int v_typed, .ref q_row, .int v_rowMany, .int v_thrown, .int v_length, .int v_at, .int o_131, .ref q_read, .ref q_ranks, .ref q_distinct, .ref q_proper, .int v_properMany, .ref q_line, .ref q_order, .int v_orderMany, .ref q_then, .ref q_bestOrder, .ref q_lineThen, .ref q_undos, .ref q_was, .int v_undoMany, .int v_drawn, .ref q_kept, .ref q_isKept]))]) [0] (by decide) rfl
    have ho := Option.some.inj h
    subst ho
    exact J_126 H _ ls hP hD hS (lv_sub hl [0] rfl)
def L_X10_layTable_2  : Nat → Int32 → (Nat → Int64) → Option (Nat → Int64)
  | 0, _, _ => none
  | n+1, x3_2, v_now_2 => (if (120 : Int32) ≤ x3_2 then (some v_now_2) else (if x3_2 < 0 ∨ 120 ≤ (x3_2).toNatClampNeg then none else (L_X10_layTable_2 n (x3_2 + 1) (vp_updL v_now_2 (x3_2).toNatClampNeg (0 : Int64)))))
def L_X10_layTable_62 (v_read : (Nat → Int32)) (x1 : Int32) (x3_39 : Int32) : Nat → Int32 → (Nat → Int64) → Option (Nat → Int64)
  | 0, _, _ => none
  | n+1, x4_62, v_now_62 => (if x1 ≤ x4_62 then (some v_now_62) else ((f_X10_cellAt x3_39 x4_62).bind (fun o_144 => (if x3_39 < 0 ∨ 480 ≤ (x3_39).toNatClampNeg then none else ((f_X10_in (v_read (x3_39).toNatClampNeg) (8 : Int32) (10 : Int32)).bind (fun o_147 => (if (b2i o_147) = 0 then (if o_144 < 0 ∨ 120 ≤ (o_144).toNatClampNeg then none else (L_X10_layTable_62 v_read x1 x3_39 n (x4_62 + 1) (vp_updL v_now_62 (o_144).toNatClampNeg (0 : Int64)))) else (if o_144 < 0 ∨ 120 ≤ (o_144).toNatClampNeg then none else (L_X10_layTable_62 v_read x1 x3_39 n (x4_62 + 1) (vp_updL v_now_62 (o_144).toNatClampNeg (-9223372036854775808 : Int64)))))))))))
def L_X10_layTable_39 (v_read : (Nat → Int32)) (x1 : Int32) (x2 : Int32) : Nat → Int32 → (Nat → Int64) → Option (Nat → Int64)
  | 0, _, _ => none
  | n+1, x3_39, v_now_39 => (if x2 ≤ x3_39 then (some v_now_39) else (if x3_39 < 0 ∨ 480 ≤ (x3_39).toNatClampNeg then none else (if ((2 : Int32) + x3_39) < 0 ∨ 120 ≤ (((2 : Int32) + x3_39)).toNatClampNeg then none else ((L_X10_layTable_62 v_read x1 x3_39 fu (0 : Int32) (vp_updL v_now_39 (((2 : Int32) + x3_39)).toNatClampNeg (v_read (x3_39).toNatClampNeg).toInt64)).bind (fun w_152 => (L_X10_layTable_39 v_read x1 x2 n (x3_39 + 1) w_152))))))
def L_X10_layTable_116 (x1 : Int32) : Nat → Int32 → (Nat → Int64) → Option (Nat → Int64)
  | 0, _, _ => none
  | n+1, x3_116, v_now_116 => (if x1 ≤ x3_116 then (some v_now_116) else (if ((8 : Int32) + x3_116) < 0 ∨ 120 ≤ (((8 : Int32) + x3_116)).toNatClampNeg then none else (L_X10_layTable_116 x1 n (x3_116 + 1) (vp_updL v_now_116 (((8 : Int32) + x3_116)).toNatClampNeg (x3_116).toInt64))))
def f_X10_layTable (v_now : Nat → Int64) (v_read : Nat → Int32) (x1 : Int32) (x2 : Int32) : Option (Nat → Int64) :=
  ((L_X10_layTable_2 fu (0 : Int32) v_now).bind (fun w_137 => ((L_X10_layTable_39 v_read x1 x2 fu (0 : Int32) (vp_updL (vp_updL w_137 ((0 : Int32)).toNatClampNeg (x1).toInt64) ((1 : Int32)).toNatClampNeg (x2).toInt64)).bind (fun w_153 => ((L_X10_layTable_116 x1 fu (0 : Int32) w_153).bind (fun w_156 => (some w_156)))))))
abbrev rm_X10_layTable : Room := { frames := 1, cells := 0, slots := 0, locals := 22 }
set_option maxHeartbeats 4000000 in
set_option maxRecDepth 100000 in
theorem c_X10_layTable (l : Launch) (dC : Nat → ClassId) (dI : Nat → Nat → Nat) (cB cC cI cJ cZ cT : ClassId) (h0 q_now q_text q_row q_read q_ranks q_distinct q_proper q_line q_order q_then q_bestOrder q_lineThen q_undos q_was q_kept q_isKept : Nat) (sz : Nat) (v_typed : Int32) (v_rowMany : Int32) (v_thrown : Int32) (v_length : Int32) (v_at : Int32) (v_wrong : Int32) (v_properMany : Int32) (v_orderMany : Int32) (v_undoMany : Int32) (v_drawn : Int32) (v_now : Nat → Int64) (v_read : Nat → Int32) (x1 : Int32) (x2 : Int32) (o : (Nat → Int64)) (hf : f_X10_layTable v_now v_read x1 x2 = some o) : Met l yX10_layTable wsX10_layTable rm_X10_layTable (va_Pc [.ref h0, .int x1, .int x2] (fun U => U.heap.size = sz ∧ va_P (dC, dI) vwCl [(h0, .inr (8, [.ref q_now, .ref q_text, .int v_typed, .ref q_row, .int v_rowMany, .int v_thrown, .int v_length, .int v_at, .int v_wrong, .ref q_read, .ref q_ranks, .ref q_distinct, .ref q_proper, .int v_properMany, .ref q_line, .ref q_order, .int v_orderMany, .ref q_then, .ref q_bestOrder, .ref q_lineThen, .ref q_undos, .ref q_was, .int v_undoMany, .int v_drawn, .ref q_kept, .ref q_isKept])), (q_now, .inl (cJ, 120, .inr (.inl v_now))), (q_read, .inl (cI, 480, .inl v_read))] U.heap ∧ va_K (dC, dI) vwCl (tyA cB cC cI cJ cZ cT) U ∧ va_D (fun _ => True) [(h0, .inr (8, [.ref q_now, .ref q_text, .int v_typed, .ref q_row, .int v_rowMany, .int v_thrown, .int v_length, .int v_at, .int v_wrong, .ref q_read, .ref q_ranks, .ref q_distinct, .ref q_proper, .int v_properMany, .ref q_line, .ref q_order, .int v_orderMany, .ref q_then, .ref q_bestOrder, .ref q_lineThen, .ref q_undos, .ref q_was, .int v_undoMany, .int v_drawn, .ref q_kept, .ref q_isKept])), (q_now, .inl (cJ, 120, .inr (.inl v_now))), (q_read, .inl (cI, 480, .inl v_read))])) (va_Qv (fun _ : Unit => True) (fun _ t => va_P (dC, dI) vwCl [(h0, .inr (8, [.ref q_now, .ref q_text, .int v_typed, .ref q_row, .int v_rowMany, .int v_thrown, .int v_length, .int v_at, .int v_wrong, .ref q_read, .ref q_ranks, .ref q_distinct, .ref q_proper, .int v_properMany, .ref q_line, .ref q_order, .int v_orderMany, .ref q_then, .ref q_bestOrder, .ref q_lineThen, .ref q_undos, .ref q_was, .int v_undoMany, .int v_drawn, .ref q_kept, .ref q_isKept])), (q_now, .inl (cJ, 120, .inr (.inl o))), (q_read, .inl (cI, 480, .inl v_read))] t.heap ∧ va_K (dC, dI) vwCl (tyA cB cC cI cJ cZ cT) t ∧ va_D (va_A [(h0, .inr (8, [.ref q_now, .ref q_text, .int v_typed, .ref q_row, .int v_rowMany, .int v_thrown, .int v_length, .int v_at, .int v_wrong, .ref q_read, .ref q_ranks, .ref q_distinct, .ref q_proper, .int v_properMany, .ref q_line, .ref q_order, .int v_orderMany, .ref q_then, .ref q_bestOrder, .ref q_lineThen, .ref q_undos, .ref q_was, .int v_undoMany, .int v_drawn, .ref q_kept, .ref q_isKept])), (q_now, .inl (cJ, 120, .inr (.inl v_now))), (q_read, .inl (cI, 480, .inl v_read))] sz) [(h0, .inr (8, [.ref q_now, .ref q_text, .int v_typed, .ref q_row, .int v_rowMany, .int v_thrown, .int v_length, .int v_at, .int v_wrong, .ref q_read, .ref q_ranks, .ref q_distinct, .ref q_proper, .int v_properMany, .ref q_line, .ref q_order, .int v_orderMany, .ref q_then, .ref q_bestOrder, .ref q_lineThen, .ref q_undos, .ref q_was, .int v_undoMany, .int v_drawn, .ref q_kept, .ref q_isKept])), (q_now, .inl (cJ, 120, .inr (.inl o))), (q_read, .inl (cI, 480, .inl v_read))]) (va_A [(h0, .inr (8, [.ref q_now, .ref q_text, .int v_typed, .ref q_row, .int v_rowMany, .int v_thrown, .int v_length, .int v_at, .int v_wrong, .ref q_read, .ref q_ranks, .ref q_distinct, .ref q_proper, .int v_properMany, .ref q_line, .ref q_order, .int v_orderMany, .ref q_then, .ref q_bestOrder, .ref q_lineThen, .ref q_undos, .ref q_was, .int v_undoMany, .int v_drawn, .ref q_kept, .ref q_isKept])), (q_now, .inl (cJ, 120, .inr (.inl v_now))), (q_read, .inl (cI, 480, .inl v_read))] sz)) 0 0 (va_A [(h0, .inr (8, [.ref q_now, .ref q_text, .int v_typed, .ref q_row, .int v_rowMany, .int v_thrown, .int v_length, .int v_at, .int v_wrong, .ref q_read, .ref q_ranks, .ref q_distinct, .ref q_proper, .int v_properMany, .ref q_line, .ref q_order, .int v_orderMany, .ref q_then, .ref q_bestOrder, .ref q_lineThen, .ref q_undos, .ref q_was, .int v_undoMany, .int v_drawn, .ref q_kept, .ref q_isKept])), (q_now, .inl (cJ, 120, .inr (.inl v_now))), (q_read, .inl (cI, 480, .inl v_read))] sz) := by
  refine Met.ofW (cc := cX10_layTable) (maxL := 5) (ret := none) (by decide +kernel) rfl ?_
  intro p e s m args below meth c s₁ B hml hv
  obtain ⟨hav, hsz, hP, hK, hD0⟩ := hv
  have hx := B.exec
  have hb := B.bytes
  have hr := B.returns
  have hts := atoms_spec (ws := wsX10_layTable) B.pre
  have hown : s.vm.findClass RX10 = some m.cls := findClass_of_methodNamed B.named
  have hlocks := B.notSynchronized
  subst hsz
  have hD := hD0.self (sz := s.heap.size)
  generalize hAe : va_A [(h0, .inr (8, [.ref q_now, .ref q_text, .int v_typed, .ref q_row, .int v_rowMany, .int v_thrown, .int v_length, .int v_at, .int v_wrong, .ref q_read, .ref q_ranks, .ref q_distinct, .ref q_proper, .int v_properMany, .ref q_line, .ref q_order, .int v_orderMany, .ref q_then, .ref q_bestOrder, .ref q_lineThen, .ref q_undos, .ref q_was, .int v_undoMany, .int v_drawn, .ref q_kept, .ref q_isKept])), (q_now, .inl (cJ, 120, .inr (.inl v_now))), (q_read, .inl (cI, 480, .inl v_read))] s.heap.size = A at hD ⊢
  have hA : ∀ q : Nat, s.heap.size ≤ q → A q := fun q h => by rw [← hAe]; exact Or.inr h
  have hS : va_S A s.heap s.heap [] := va_S.rf
  refine wstart (rm := rm_X10_layTable) hav (Nat.le_of_ble_eq_true rfl) (fun QQ ls hQQ hl => ?_)
  have hl : lv_has ls 5 [(0, .ref h0), (1, .int x1), (2, .int x2)] := hl
  have hi_X10 : ∀ w ∈ u_ws RX10 TX10 26, w ∈ wsX10_layTable := by decide +kernel
  have h := hf
  unfold f_X10_layTable at h
  refine lv_iconst (v := 0) hx hb dX10_layTable_0 (by decide) ?_
  refine lv_istore_n (lv' := [(3, .int (0 : Int32)), (0, .ref h0), (1, .int x1), (2, .int x2)]) hx hb dX10_layTable_1 rfl hl (by decide) rfl (fun ls hl => ?_)
  have LP_137 : ∀ (n : Nat) (x3_2 : Int32) (v_now_2 : (Nat → Int64)) (w : (Nat → Int64)) (H : Heap) (locs : List Loc) (ls : Array Slot), L_X10_layTable_2 n x3_2 v_now_2 = some w → va_P (dC, dI) vwCl [(h0, .inr (8, [.ref q_now, .ref q_text, .int v_typed, .ref q_row, .int v_rowMany, .int v_thrown, .int v_length, .int v_at, .int v_wrong, .ref q_read, .ref q_ranks, .ref q_distinct, .ref q_proper, .int v_properMany, .ref q_line, .ref q_order, .int v_orderMany, .ref q_then, .ref q_bestOrder, .ref q_lineThen, .ref q_undos, .ref q_was, .int v_undoMany, .int v_drawn, .ref q_kept, .ref q_isKept])), (q_now, .inl (cJ, 120, .inr (.inl v_now_2))), (q_read, .inl (cI, 480, .inl v_read))] H → va_D A [(h0, .inr (8, [.ref q_now, .ref q_text, .int v_typed, .ref q_row, .int v_rowMany, .int v_thrown, .int v_length, .int v_at, .int v_wrong, .ref q_read, .ref q_ranks, .ref q_distinct, .ref q_proper, .int v_properMany, .ref q_line, .ref q_order, .int v_orderMany, .ref q_then, .ref q_bestOrder, .ref q_lineThen, .ref q_undos, .ref q_was, .int v_undoMany, .int v_drawn, .ref q_kept, .ref q_isKept])), (q_now, .inl (cJ, 120, .inr (.inl v_now_2))), (q_read, .inl (cI, 480, .inl v_read))] → va_S A s.heap H locs → lv_has ls 5 [(0, .ref h0), (1, .int x1), (2, .int x2), (3, .int x3_2)] → (∀ (H : Heap) (locs : List Loc) (ls : Array Slot), va_P (dC, dI) vwCl [(h0, .inr (8, [.ref q_now, .ref q_text, .int v_typed, .ref q_row, .int v_rowMany, .int v_thrown, .int v_length, .int v_at, .int v_wrong, .ref q_read, .ref q_ranks, .ref q_distinct, .ref q_proper, .int v_properMany, .ref q_line, .ref q_order, .int v_orderMany, .ref q_then, .ref q_bestOrder, .ref q_lineThen, .ref q_undos, .ref q_was, .int v_undoMany, .int v_drawn, .ref q_kept, .ref q_isKept])), (q_now, .inl (cJ, 120, .inr (.inl w))), (q_read, .inl (cI, 480, .inl v_read))] H → va_D A [(h0, .inr (8, [.ref q_now, .ref q_text, .int v_typed, .ref q_row, .int v_rowMany, .int v_thrown, .int v_length, .int v_at, .int v_wrong, .ref q_read, .ref q_ranks, .ref q_distinct, .ref q_proper, .int v_properMany, .ref q_line, .ref q_order, .int v_orderMany, .ref q_then, .ref q_bestOrder, .ref q_lineThen, .ref q_undos, .ref q_was, .int v_undoMany, .int v_drawn, .ref q_kept, .ref q_isKept])), (q_now, .inl (cJ, 120, .inr (.inl w))), (q_read, .inl (cI, 480, .inl v_read))] → va_S A s.heap H locs → lv_has ls 5 [(0, .ref h0), (1, .int x1), (2, .int x2)] → W p l e rm_X10_layTable s m args below meth c H locs 0 0 QQ (F0 m 21 ls [])) → W p l e rm_X10_layTable s m args below meth c H locs 0 0 QQ (F0 m 2 ls []) := by
    intro n
    induction n with
    | zero => intro x3_2 v_now_2 w H locs ls h; exact absurd (show none = some w from h) nofun
    | succ n ih =>
      intro x3_2 v_now_2 w H locs ls h hP hD hS hl K
      rw [L_X10_layTable_2] at h
      refine lv_iload_n hx hb dX10_layTable_2 rfl (lv_at hl 3 rfl) ?_
      refine lv_bipush (v := 120) hx hb dX10_layTable_3 (by decide) ?_
      refine lv_icmp_ge (tgt := 21) hx hb dX10_layTable_5 (by decide) (fun c_135 => ?_) (fun c_135 => ?_)
      · replace h := op c_135 h
        have ho := Option.some.inj h
        subst ho
        exact K H _ ls hP hD hS (lv_sub hl [0, 1, 2] rfl)
      · replace h := on c_135 h
        refine lv_aload_n hx hb dX10_layTable_8 rfl (lv_at hl 0 rfl) ?_
        refine va_get (D := (dC, dI)) (ci := 8) (v := .ref q_now) (C := RX10) (T := TX10) (N := 26) hx hb hts hi_X10 hown hK hP 0 rfl rfl 0 (by decide) (hts _ (List.mem_of_getElem? (i := 1) rfl)) (fun _ h9 => h9) rfl dX10_layTable_9 ?_
        refine lv_iload_n hx hb dX10_layTable_12 rfl (lv_at hl 3 rfl) ?_
        refine lv_lconst (v := 0) hx hb dX10_layTable_13 (by decide) ?_
        obtain ⟨hi_136, h⟩ := og h
        refine va_last hx hb hK hP hD hS 1 1 rfl rfl hi_136 dX10_layTable_14 (fun H locs hP hD hS => ?_)
        replace hP : va_P (dC, dI) vwCl [(h0, .inr (8, [.ref q_now, .ref q_text, .int v_typed, .ref q_row, .int v_rowMany, .int v_thrown, .int v_length, .int v_at, .int v_wrong, .ref q_read, .ref q_ranks, .ref q_distinct, .ref q_proper, .int v_properMany, .ref q_line, .ref q_order, .int v_orderMany, .ref q_then, .ref q_bestOrder, .ref q_lineThen, .ref q_undos, .ref q_was, .int v_undoMany, .int v_drawn, .ref q_kept, .ref q_isKept])), (q_now, .inl (cJ, 120, .inr (.inl (vp_updL v_now_2 (x3_2).toNatClampNeg (0 : Int64))))), (q_read, .inl (cI, 480, .inl v_read))] H := hP
        replace hD : va_D A [(h0, .inr (8, [.ref q_now, .ref q_text, .int v_typed, .ref q_row, .int v_rowMany, .int v_thrown, .int v_length, .int v_at, .int v_wrong, .ref q_read, .ref q_ranks, .ref q_distinct, .ref q_proper, .int v_properMany, .ref q_line, .ref q_order, .int v_orderMany, .ref q_then, .ref q_bestOrder, .ref q_lineThen, .ref q_undos, .ref q_was, .int v_undoMany, .int v_drawn, .ref q_kept, .ref q_isKept])), (q_now, .inl (cJ, 120, .inr (.inl (vp_updL v_now_2 (x3_2).toNatClampNeg (0 : Int64))))), (q_read, .inl (cI, 480, .inl v_read))] := hD
        refine lv_iinc (v := (x3_2 + 1)) (lv' := [(3, .int (x3_2 + 1)), (0, .ref h0), (1, .int x1), (2, .int x2)]) hx hb dX10_layTable_15 hl (k := 3) rfl (by rfl) (by decide) rfl (fun ls hl => ?_)
        refine lv_goto (tgt := 2) hx hb dX10_layTable_18 (by decide) ?_
        exact ih (x3_2 + 1) (vp_updL v_now_2 (x3_2).toNatClampNeg (0 : Int64)) w H _ ls h hP hD hS (lv_sub hl [1, 2, 3, 0] rfl) K
  obtain ⟨w_137, hw_137, h⟩ := ob h
  refine LP_137 fu (0 : Int32) v_now w_137 s.heap _ ls hw_137 hP hD hS (lv_sub hl [1, 2, 3, 0] rfl) (fun H locs ls hP hD hS hl => ?_)
  refine lv_aload_n hx hb dX10_layTable_21 rfl (lv_at hl 0 rfl) ?_
  refine va_get (D := (dC, dI)) (ci := 8) (v := .ref q_now) (C := RX10) (T := TX10) (N := 26) hx hb hts hi_X10 hown hK hP 0 rfl rfl 0 (by decide) (hts _ (List.mem_of_getElem? (i := 1) rfl)) (fun _ h9 => h9) rfl dX10_layTable_22 ?_
  refine lv_iconst (v := 0) hx hb dX10_layTable_25 (by decide) ?_
  refine lv_iload_n hx hb dX10_layTable_26 rfl (lv_at hl 1 rfl) ?_
  refine lv_i2l (v := (x1).toInt64) hx hb dX10_layTable_27 rfl ?_
  refine va_last hx hb hK hP hD hS 1 1 rfl rfl (of_decide_eq_false rfl) dX10_layTable_28 (fun H locs hP hD hS => ?_)
  replace hP : va_P (dC, dI) vwCl [(h0, .inr (8, [.ref q_now, .ref q_text, .int v_typed, .ref q_row, .int v_rowMany, .int v_thrown, .int v_length, .int v_at, .int v_wrong, .ref q_read, .ref q_ranks, .ref q_distinct, .ref q_proper, .int v_properMany, .ref q_line, .ref q_order, .int v_orderMany, .ref q_then, .ref q_bestOrder, .ref q_lineThen, .ref q_undos, .ref q_was, .int v_undoMany, .int v_drawn, .ref q_kept, .ref q_isKept])), (q_now, .inl (cJ, 120, .inr (.inl (vp_updL w_137 ((0 : Int32)).toNatClampNeg (x1).toInt64)))), (q_read, .inl (cI, 480, .inl v_read))] H := hP
  replace hD : va_D A [(h0, .inr (8, [.ref q_now, .ref q_text, .int v_typed, .ref q_row, .int v_rowMany, .int v_thrown, .int v_length, .int v_at, .int v_wrong, .ref q_read, .ref q_ranks, .ref q_distinct, .ref q_proper, .int v_properMany, .ref q_line, .ref q_order, .int v_orderMany, .ref q_then, .ref q_bestOrder, .ref q_lineThen, .ref q_undos, .ref q_was, .int v_undoMany, .int v_drawn, .ref q_kept, .ref q_isKept])), (q_now, .inl (cJ, 120, .inr (.inl (vp_updL w_137 ((0 : Int32)).toNatClampNeg (x1).toInt64)))), (q_read, .inl (cI, 480, .inl v_read))] := hD
  refine lv_aload_n hx hb dX10_layTable_29 rfl (lv_at hl 0 rfl) ?_
  refine va_get (D := (dC, dI)) (ci := 8) (v := .ref q_now) (C := RX10) (T := TX10) (N := 26) hx hb hts hi_X10 hown hK hP 0 rfl rfl 0 (by decide) (hts _ (List.mem_of_getElem? (i := 1) rfl)) (fun _ h9 => h9) rfl dX10_layTable_30 ?_
  refine lv_iconst (v := 1) hx hb dX10_layTable_33 (by decide) ?_
  refine lv_iload_n hx hb dX10_layTable_34 rfl (lv_at hl 2 rfl) ?_
  refine lv_i2l (v := (x2).toInt64) hx hb dX10_layTable_35 rfl ?_
  refine va_last hx hb hK hP hD hS 1 1 rfl rfl (of_decide_eq_false rfl) dX10_layTable_36 (fun H locs hP hD hS => ?_)
  replace hP : va_P (dC, dI) vwCl [(h0, .inr (8, [.ref q_now, .ref q_text, .int v_typed, .ref q_row, .int v_rowMany, .int v_thrown, .int v_length, .int v_at, .int v_wrong, .ref q_read, .ref q_ranks, .ref q_distinct, .ref q_proper, .int v_properMany, .ref q_line, .ref q_order, .int v_orderMany, .ref q_then, .ref q_bestOrder, .ref q_lineThen, .ref q_undos, .ref q_was, .int v_undoMany, .int v_drawn, .ref q_kept, .ref q_isKept])), (q_now, .inl (cJ, 120, .inr (.inl (vp_updL (vp_updL w_137 ((0 : Int32)).toNatClampNeg (x1).toInt64) ((1 : Int32)).toNatClampNeg (x2).toInt64)))), (q_read, .inl (cI, 480, .inl v_read))] H := hP
  replace hD : va_D A [(h0, .inr (8, [.ref q_now, .ref q_text, .int v_typed, .ref q_row, .int v_rowMany, .int v_thrown, .int v_length, .int v_at, .int v_wrong, .ref q_read, .ref q_ranks, .ref q_distinct, .ref q_proper, .int v_properMany, .ref q_line, .ref q_order, .int v_orderMany, .ref q_then, .ref q_bestOrder, .ref q_lineThen, .ref q_undos, .ref q_was, .int v_undoMany, .int v_drawn, .ref q_kept, .ref q_isKept])), (q_now, .inl (cJ, 120, .inr (.inl (vp_updL (vp_updL w_137 ((0 : Int32)).toNatClampNeg (x1).toInt64) ((1 : Int32)).toNatClampNeg (x2).toInt64)))), (q_read, .inl (cI, 480, .inl v_read))] := hD
  refine lv_iconst (v := 0) hx hb dX10_layTable_37 (by decide) ?_
  refine lv_istore_n (lv' := [(3, .int (0 : Int32)), (0, .ref h0), (1, .int x1), (2, .int x2)]) hx hb dX10_layTable_38 rfl hl (by decide) rfl (fun ls hl => ?_)
  have LP_153 : ∀ (n : Nat) (x3_39 : Int32) (v_now_39 : (Nat → Int64)) (w : (Nat → Int64)) (H : Heap) (locs : List Loc) (ls : Array Slot), L_X10_layTable_39 v_read x1 x2 n x3_39 v_now_39 = some w → va_P (dC, dI) vwCl [(h0, .inr (8, [.ref q_now, .ref q_text, .int v_typed, .ref q_row, .int v_rowMany, .int v_thrown, .int v_length, .int v_at, .int v_wrong, .ref q_read, .ref q_ranks, .ref q_distinct, .ref q_proper, .int v_properMany, .ref q_line, .ref q_order, .int v_orderMany, .ref q_then, .ref q_bestOrder, .ref q_lineThen, .ref q_undos, .ref q_was, .int v_undoMany, .int v_drawn, .ref q_kept, .ref q_isKept])), (q_now, .inl (cJ, 120, .inr (.inl v_now_39))), (q_read, .inl (cI, 480, .inl v_read))] H → va_D A [(h0, .inr (8, [.ref q_now, .ref q_text, .int v_typed, .ref q_row, .int v_rowMany, .int v_thrown, .int v_length, .int v_at, .int v_wrong, .ref q_read, .ref q_ranks, .ref q_distinct, .ref q_proper, .int v_properMany, .ref q_line, .ref q_order, .int v_orderMany, .ref q_then, .ref q_bestOrder, .ref q_lineThen, .ref q_undos, .ref q_was, .int v_undoMany, .int v_drawn, .ref q_kept, .ref q_isKept])), (q_now, .inl (cJ, 120, .inr (.inl v_now_39))), (q_read, .inl (cI, 480, .inl v_read))] → va_S A s.heap H locs → lv_has ls 5 [(0, .ref h0), (1, .int x1), (2, .int x2), (3, .int x3_39)] → (∀ (H : Heap) (locs : List Loc) (ls : Array Slot), va_P (dC, dI) vwCl [(h0, .inr (8, [.ref q_now, .ref q_text, .int v_typed, .ref q_row, .int v_rowMany, .int v_thrown, .int v_length, .int v_at, .int v_wrong, .ref q_read, .ref q_ranks, .ref q_distinct, .ref q_proper, .int v_properMany, .ref q_line, .ref q_order, .int v_orderMany, .ref q_then, .ref q_bestOrder, .ref q_lineThen, .ref q_undos, .ref q_was, .int v_undoMany, .int v_drawn, .ref q_kept, .ref q_isKept])), (q_now, .inl (cJ, 120, .inr (.inl w))), (q_read, .inl (cI, 480, .inl v_read))] H → va_D A [(h0, .inr (8, [.ref q_now, .ref q_text, .int v_typed, .ref q_row, .int v_rowMany, .int v_thrown, .int v_length, .int v_at, .int v_wrong, .ref q_read, .ref q_ranks, .ref q_distinct, .ref q_proper, .int v_properMany, .ref q_line, .ref q_order, .int v_orderMany, .ref q_then, .ref q_bestOrder, .ref q_lineThen, .ref q_undos, .ref q_was, .int v_undoMany, .int v_drawn, .ref q_kept, .ref q_isKept])), (q_now, .inl (cJ, 120, .inr (.inl w))), (q_read, .inl (cI, 480, .inl v_read))] → va_S A s.heap H locs → lv_has ls 5 [(0, .ref h0), (1, .int x1)] → W p l e rm_X10_layTable s m args below meth c H locs 0 0 QQ (F0 m 114 ls [])) → W p l e rm_X10_layTable s m args below meth c H locs 0 0 QQ (F0 m 39 ls []) := by
    intro n
    induction n with
    | zero => intro x3_39 v_now_39 w H locs ls h; exact absurd (show none = some w from h) nofun
    | succ n ih =>
      intro x3_39 v_now_39 w H locs ls h hP hD hS hl K
      rw [L_X10_layTable_39] at h
      refine lv_iload_n hx hb dX10_layTable_39 rfl (lv_at hl 3 rfl) ?_
      refine lv_iload_n hx hb dX10_layTable_40 rfl (lv_at hl 2 rfl) ?_
      refine lv_icmp_ge (tgt := 114) hx hb dX10_layTable_41 (by decide) (fun c_140 => ?_) (fun c_140 => ?_)
      · replace h := op c_140 h
        have ho := Option.some.inj h
        subst ho
        exact K H _ ls hP hD hS (lv_sub hl [0, 1] rfl)
      · replace h := on c_140 h
        refine lv_aload_n hx hb dX10_layTable_44 rfl (lv_at hl 0 rfl) ?_
        refine va_get (D := (dC, dI)) (ci := 8) (v := .ref q_now) (C := RX10) (T := TX10) (N := 26) hx hb hts hi_X10 hown hK hP 0 rfl rfl 0 (by decide) (hts _ (List.mem_of_getElem? (i := 1) rfl)) (fun _ h9 => h9) rfl dX10_layTable_45 ?_
        refine lv_iconst (v := 2) hx hb dX10_layTable_48 (by decide) ?_
        refine lv_iload_n hx hb dX10_layTable_49 rfl (lv_at hl 3 rfl) ?_
        refine lv_iadd hx hb dX10_layTable_50 ?_
        refine lv_aload_n hx hb dX10_layTable_51 rfl (lv_at hl 0 rfl) ?_
        refine va_get (D := (dC, dI)) (ci := 8) (v := .ref q_read) (C := RX10) (T := TX10) (N := 26) hx hb hts hi_X10 hown hK hP 0 rfl rfl 9 (by decide) (hts _ (List.mem_of_getElem? (i := 2) rfl)) (fun _ h9 => h9) rfl dX10_layTable_52 ?_
        refine lv_iload_n hx hb dX10_layTable_55 rfl (lv_at hl 3 rfl) ?_
        obtain ⟨hi_141, h⟩ := og h
        refine va_iald hx hb hK hP 2 0 rfl rfl hi_141 dX10_layTable_56 ?_
        refine lv_i2l (v := (v_read (x3_39).toNatClampNeg).toInt64) hx hb dX10_layTable_57 rfl ?_
        obtain ⟨hi_142, h⟩ := og h
        refine va_last hx hb hK hP hD hS 1 1 rfl rfl hi_142 dX10_layTable_58 (fun H locs hP hD hS => ?_)
        replace hP : va_P (dC, dI) vwCl [(h0, .inr (8, [.ref q_now, .ref q_text, .int v_typed, .ref q_row, .int v_rowMany, .int v_thrown, .int v_length, .int v_at, .int v_wrong, .ref q_read, .ref q_ranks, .ref q_distinct, .ref q_proper, .int v_properMany, .ref q_line, .ref q_order, .int v_orderMany, .ref q_then, .ref q_bestOrder, .ref q_lineThen, .ref q_undos, .ref q_was, .int v_undoMany, .int v_drawn, .ref q_kept, .ref q_isKept])), (q_now, .inl (cJ, 120, .inr (.inl (vp_updL v_now_39 (((2 : Int32) + x3_39)).toNatClampNeg (v_read (x3_39).toNatClampNeg).toInt64)))), (q_read, .inl (cI, 480, .inl v_read))] H := hP
        replace hD : va_D A [(h0, .inr (8, [.ref q_now, .ref q_text, .int v_typed, .ref q_row, .int v_rowMany, .int v_thrown, .int v_length, .int v_at, .int v_wrong, .ref q_read, .ref q_ranks, .ref q_distinct, .ref q_proper, .int v_properMany, .ref q_line, .ref q_order, .int v_orderMany, .ref q_then, .ref q_bestOrder, .ref q_lineThen, .ref q_undos, .ref q_was, .int v_undoMany, .int v_drawn, .ref q_kept, .ref q_isKept])), (q_now, .inl (cJ, 120, .inr (.inl (vp_updL v_now_39 (((2 : Int32) + x3_39)).toNatClampNeg (v_read (x3_39).toNatClampNeg).toInt64)))), (q_read, .inl (cI, 480, .inl v_read))] := hD
        refine lv_iconst (v := 0) hx hb dX10_layTable_59 (by decide) ?_
        refine lv_istore (lv' := [(4, .int (0 : Int32)), (0, .ref h0), (1, .int x1), (2, .int x2), (3, .int x3_39)]) hx hb dX10_layTable_60 hl (by decide) rfl (fun ls hl => ?_)
        have LP_152 : ∀ (n : Nat) (x4_62 : Int32) (v_now_62 : (Nat → Int64)) (w : (Nat → Int64)) (H : Heap) (locs : List Loc) (ls : Array Slot), L_X10_layTable_62 v_read x1 x3_39 n x4_62 v_now_62 = some w → va_P (dC, dI) vwCl [(h0, .inr (8, [.ref q_now, .ref q_text, .int v_typed, .ref q_row, .int v_rowMany, .int v_thrown, .int v_length, .int v_at, .int v_wrong, .ref q_read, .ref q_ranks, .ref q_distinct, .ref q_proper, .int v_properMany, .ref q_line, .ref q_order, .int v_orderMany, .ref q_then, .ref q_bestOrder, .ref q_lineThen, .ref q_undos, .ref q_was, .int v_undoMany, .int v_drawn, .ref q_kept, .ref q_isKept])), (q_now, .inl (cJ, 120, .inr (.inl v_now_62))), (q_read, .inl (cI, 480, .inl v_read))] H → va_D A [(h0, .inr (8, [.ref q_now, .ref q_text, .int v_typed, .ref q_row, .int v_rowMany, .int v_thrown, .int v_length, .int v_at, .int v_wrong, .ref q_read, .ref q_ranks, .ref q_distinct, .ref q_proper, .int v_properMany, .ref q_line, .ref q_order, .int v_orderMany, .ref q_then, .ref q_bestOrder, .ref q_lineThen, .ref q_undos, .ref q_was, .int v_undoMany, .int v_drawn, .ref q_kept, .ref q_isKept])), (q_now, .inl (cJ, 120, .inr (.inl v_now_62))), (q_read, .inl (cI, 480, .inl v_read))] → va_S A s.heap H locs → lv_has ls 5 [(0, .ref h0), (1, .int x1), (2, .int x2), (3, .int x3_39), (4, .int x4_62)] → (∀ (H : Heap) (locs : List Loc) (ls : Array Slot), va_P (dC, dI) vwCl [(h0, .inr (8, [.ref q_now, .ref q_text, .int v_typed, .ref q_row, .int v_rowMany, .int v_thrown, .int v_length, .int v_at, .int v_wrong, .ref q_read, .ref q_ranks, .ref q_distinct, .ref q_proper, .int v_properMany, .ref q_line, .ref q_order, .int v_orderMany, .ref q_then, .ref q_bestOrder, .ref q_lineThen, .ref q_undos, .ref q_was, .int v_undoMany, .int v_drawn, .ref q_kept, .ref q_isKept])), (q_now, .inl (cJ, 120, .inr (.inl w))), (q_read, .inl (cI, 480, .inl v_read))] H → va_D A [(h0, .inr (8, [.ref q_now, .ref q_text, .int v_typed, .ref q_row, .int v_rowMany, .int v_thrown, .int v_length, .int v_at, .int v_wrong, .ref q_read, .ref q_ranks, .ref q_distinct, .ref q_proper, .int v_properMany, .ref q_line, .ref q_order, .int v_orderMany, .ref q_then, .ref q_bestOrder, .ref q_lineThen, .ref q_undos, .ref q_was, .int v_undoMany, .int v_drawn, .ref q_kept, .ref q_isKept])), (q_now, .inl (cJ, 120, .inr (.inl w))), (q_read, .inl (cI, 480, .inl v_read))] → va_S A s.heap H locs → lv_has ls 5 [(0, .ref h0), (1, .int x1), (2, .int x2), (3, .int x3_39)] → W p l e rm_X10_layTable s m args below meth c H locs 0 0 QQ (F0 m 108 ls [])) → W p l e rm_X10_layTable s m args below meth c H locs 0 0 QQ (F0 m 62 ls []) := by
          intro n
          induction n with
          | zero => intro x4_62 v_now_62 w H locs ls h; exact absurd (show none = some w from h) nofun
          | succ n ih =>
            intro x4_62 v_now_62 w H locs ls h hP hD hS hl K
            rw [L_X10_layTable_62] at h
            refine lv_iload hx hb dX10_layTable_62 (lv_at hl 4 rfl) ?_
            refine lv_iload_n hx hb dX10_layTable_64 rfl (lv_at hl 1 rfl) ?_
            refine lv_icmp_ge (tgt := 108) hx hb dX10_layTable_65 (by decide) (fun c_143 => ?_) (fun c_143 => ?_)
            · replace h := op c_143 h
              have ho := Option.some.inj h
              subst ho
              exact K H _ ls hP hD hS (lv_sub hl [0, 1, 2, 3] rfl)
            · replace h := on c_143 h
              refine lv_aload_n hx hb dX10_layTable_68 rfl (lv_at hl 0 rfl) ?_
              refine va_get (D := (dC, dI)) (ci := 8) (v := .ref q_now) (C := RX10) (T := TX10) (N := 26) hx hb hts hi_X10 hown hK hP 0 rfl rfl 0 (by decide) (hts _ (List.mem_of_getElem? (i := 1) rfl)) (fun _ h9 => h9) rfl dX10_layTable_69 ?_
              refine lv_iload_n hx hb dX10_layTable_72 rfl (lv_at hl 3 rfl) ?_
              refine lv_iload hx hb dX10_layTable_73 (lv_at hl 4 rfl) ?_
              obtain ⟨o_144, hr_144, h⟩ := ob h
              refine vp_callSi (va_Run.run (va_runS (As := [.int x3_39, .int x4_62]) (rest := [.ref q_now]) ⟨hx, hb, hml, hown, hts⟩ (c_X10_cellAt l dC dI cB cC cI cJ cZ cT x3_39 x4_62 o_144 hr_144) (va_cwS 2 hts gX10_layTable_X10_cellAt rfl rfl rfl (by decide +kernel) ⟨Nat.le_of_ble_eq_true rfl, Nat.le_of_ble_eq_true rfl⟩) ⟨blT, fun U hU hW => ⟨rfl, trivial⟩⟩ rfl rfl hl.1 rfl (lv_room (Nat.le_of_ble_eq_true rfl)) dX10_layTable_75 ⟨Nat.le_of_ble_eq_true rfl, Nat.le_of_ble_eq_true rfl⟩)) (fun r_144 e_144 => ?_)
              subst e_144
              refine lv_aload_n hx hb dX10_layTable_78 rfl (lv_at hl 0 rfl) ?_
              refine va_get (D := (dC, dI)) (ci := 8) (v := .ref q_read) (C := RX10) (T := TX10) (N := 26) hx hb hts hi_X10 hown hK hP 0 rfl rfl 9 (by decide) (hts _ (List.mem_of_getElem? (i := 2) rfl)) (fun _ h9 => h9) rfl dX10_layTable_79 ?_
              refine lv_iload_n hx hb dX10_layTable_82 rfl (lv_at hl 3 rfl) ?_
              obtain ⟨hi_146, h⟩ := og h
              refine va_iald hx hb hK hP 2 0 rfl rfl hi_146 dX10_layTable_83 ?_
              refine lv_bipush (v := 8) hx hb dX10_layTable_84 (by decide) ?_
              refine lv_bipush (v := 10) hx hb dX10_layTable_86 (by decide) ?_
              obtain ⟨o_147, hr_147, h⟩ := ob h
              refine vp_callSi (va_Run.run (va_runS (As := [.int (v_read (x3_39).toNatClampNeg), .int (8 : Int32), .int (10 : Int32)]) (rest := [.int o_144, .ref q_now]) ⟨hx, hb, hml, hown, hts⟩ (c_X10_in l dC dI cB cC cI cJ cZ cT (v_read (x3_39).toNatClampNeg) (8 : Int32) (10 : Int32) o_147 hr_147) (va_cwS 3 hts gX10_layTable_X10_in rfl rfl rfl (by decide +kernel) ⟨Nat.le_of_ble_eq_true rfl, Nat.le_of_ble_eq_true rfl⟩) ⟨blT, fun U hU hW => ⟨rfl, trivial⟩⟩ rfl rfl hl.1 rfl (lv_room (Nat.le_of_ble_eq_true rfl)) dX10_layTable_88 ⟨Nat.le_of_ble_eq_true rfl, Nat.le_of_ble_eq_true rfl⟩)) (fun r_147 e_147 => ?_)
              subst e_147
              refine lv_if_eq (tgt := 100) hx hb dX10_layTable_91 (by decide) (fun c_149 => ?_) (fun c_149 => ?_)
              · replace h := op c_149 h
                refine lv_lconst (v := 0) hx hb dX10_layTable_100 (by decide) ?_
                obtain ⟨hi_150, h⟩ := og h
                refine va_last hx hb hK hP hD hS 1 1 rfl rfl hi_150 dX10_layTable_101 (fun H locs hP hD hS => ?_)
                replace hP : va_P (dC, dI) vwCl [(h0, .inr (8, [.ref q_now, .ref q_text, .int v_typed, .ref q_row, .int v_rowMany, .int v_thrown, .int v_length, .int v_at, .int v_wrong, .ref q_read, .ref q_ranks, .ref q_distinct, .ref q_proper, .int v_properMany, .ref q_line, .ref q_order, .int v_orderMany, .ref q_then, .ref q_bestOrder, .ref q_lineThen, .ref q_undos, .ref q_was, .int v_undoMany, .int v_drawn, .ref q_kept, .ref q_isKept])), (q_now, .inl (cJ, 120, .inr (.inl (vp_updL v_now_62 (o_144).toNatClampNeg (0 : Int64))))), (q_read, .inl (cI, 480, .inl v_read))] H := hP
                replace hD : va_D A [(h0, .inr (8, [.ref q_now, .ref q_text, .int v_typed, .ref q_row, .int v_rowMany, .int v_thrown, .int v_length, .int v_at, .int v_wrong, .ref q_read, .ref q_ranks, .ref q_distinct, .ref q_proper, .int v_properMany, .ref q_line, .ref q_order, .int v_orderMany, .ref q_then, .ref q_bestOrder, .ref q_lineThen, .ref q_undos, .ref q_was, .int v_undoMany, .int v_drawn, .ref q_kept, .ref q_isKept])), (q_now, .inl (cJ, 120, .inr (.inl (vp_updL v_now_62 (o_144).toNatClampNeg (0 : Int64))))), (q_read, .inl (cI, 480, .inl v_read))] := hD
                refine lv_iinc (v := (x4_62 + 1)) (lv' := [(4, .int (x4_62 + 1)), (0, .ref h0), (1, .int x1), (2, .int x2), (3, .int x3_39)]) hx hb dX10_layTable_102 hl (k := 4) rfl (by rfl) (by decide) rfl (fun ls hl => ?_)
                refine lv_goto (tgt := 62) hx hb dX10_layTable_105 (by decide) ?_
                exact ih (x4_62 + 1) (vp_updL v_now_62 (o_144).toNatClampNeg (0 : Int64)) w H _ ls h hP hD hS (lv_sub hl [1, 2, 3, 4, 0] rfl) K
              · replace h := on c_149 h
                refine lv_ldc2 (v := -9223372036854775808) hx hb hown (hts _ (List.mem_of_getElem? (i := 3) rfl)) dX10_layTable_94 ?_
                refine lv_goto (tgt := 101) hx hb dX10_layTable_97 (by decide) ?_
                obtain ⟨hi_151, h⟩ := og h
                refine va_last hx hb hK hP hD hS 1 1 rfl rfl hi_151 dX10_layTable_101 (fun H locs hP hD hS => ?_)
                replace hP : va_P (dC, dI) vwCl [(h0, .inr (8, [.ref q_now, .ref q_text, .int v_typed, .ref q_row, .int v_rowMany, .int v_thrown, .int v_length, .int v_at, .int v_wrong, .ref q_read, .ref q_ranks, .ref q_distinct, .ref q_proper, .int v_properMany, .ref q_line, .ref q_order, .int v_orderMany, .ref q_then, .ref q_bestOrder, .ref q_lineThen, .ref q_undos, .ref q_was, .int v_undoMany, .int v_drawn, .ref q_kept, .ref q_isKept])), (q_now, .inl (cJ, 120, .inr (.inl (vp_updL v_now_62 (o_144).toNatClampNeg (-9223372036854775808 : Int64))))), (q_read, .inl (cI, 480, .inl v_read))] H := hP
                replace hD : va_D A [(h0, .inr (8, [.ref q_now, .ref q_text, .int v_typed, .ref q_row, .int v_rowMany, .int v_thrown, .int v_length, .int v_at, .int v_wrong, .ref q_read, .ref q_ranks, .ref q_distinct, .ref q_proper, .int v_properMany, .ref q_line, .ref q_order, .int v_orderMany, .ref q_then, .ref q_bestOrder, .ref q_lineThen, .ref q_undos, .ref q_was, .int v_undoMany, .int v_drawn, .ref q_kept, .ref q_isKept])), (q_now, .inl (cJ, 120, .inr (.inl (vp_updL v_now_62 (o_144).toNatClampNeg (-9223372036854775808 : Int64))))), (q_read, .inl (cI, 480, .inl v_read))] := hD
                refine lv_iinc (v := (x4_62 + 1)) (lv' := [(4, .int (x4_62 + 1)), (0, .ref h0), (1, .int x1), (2, .int x2), (3, .int x3_39)]) hx hb dX10_layTable_102 hl (k := 4) rfl (by rfl) (by decide) rfl (fun ls hl => ?_)
                refine lv_goto (tgt := 62) hx hb dX10_layTable_105 (by decide) ?_
                exact ih (x4_62 + 1) (vp_updL v_now_62 (o_144).toNatClampNeg (-9223372036854775808 : Int64)) w H _ ls h hP hD hS (lv_sub hl [1, 2, 3, 4, 0] rfl) K
        obtain ⟨w_152, hw_152, h⟩ := ob h
        refine LP_152 fu (0 : Int32) (vp_updL v_now_39 (((2 : Int32) + x3_39)).toNatClampNeg (v_read (x3_39).toNatClampNeg).toInt64) w_152 H _ ls hw_152 hP hD hS (lv_sub hl [1, 2, 3, 4, 0] rfl) (fun H locs ls hP hD hS hl => ?_)
        refine lv_iinc (v := (x3_39 + 1)) (lv' := [(3, .int (x3_39 + 1)), (0, .ref h0), (1, .int x1), (2, .int x2)]) hx hb dX10_layTable_108 hl (k := 3) rfl (by rfl) (by decide) rfl (fun ls hl => ?_)
        refine lv_goto (tgt := 39) hx hb dX10_layTable_111 (by decide) ?_
        exact ih (x3_39 + 1) w_152 w H _ ls h hP hD hS (lv_sub hl [1, 2, 3, 0] rfl) K
  obtain ⟨w_153, hw_153, h⟩ := ob h
  refine LP_153 fu (0 : Int32) (vp_updL (vp_updL w_137 ((0 : Int32)).toNatClampNeg (x1).toInt64) ((1 : Int32)).toNatClampNeg (x2).toInt64) w_153 H _ ls hw_153 hP hD hS (lv_sub hl [1, 2, 3, 0] rfl) (fun H locs ls hP hD hS hl => ?_)
  refine lv_iconst (v := 0) hx hb dX10_layTable_114 (by decide) ?_
  refine lv_istore_n (lv' := [(3, .int (0 : Int32)), (0, .ref h0), (1, .int x1)]) hx hb dX10_layTable_115 rfl hl (by decide) rfl (fun ls hl => ?_)
  have LP_156 : ∀ (n : Nat) (x3_116 : Int32) (v_now_116 : (Nat → Int64)) (w : (Nat → Int64)) (H : Heap) (locs : List Loc) (ls : Array Slot), L_X10_layTable_116 x1 n x3_116 v_now_116 = some w → va_P (dC, dI) vwCl [(h0, .inr (8, [.ref q_now, .ref q_text, .int v_typed, .ref q_row, .int v_rowMany, .int v_thrown, .int v_length, .int v_at, .int v_wrong, .ref q_read, .ref q_ranks, .ref q_distinct, .ref q_proper, .int v_properMany, .ref q_line, .ref q_order, .int v_orderMany, .ref q_then, .ref q_bestOrder, .ref q_lineThen, .ref q_undos, .ref q_was, .int v_undoMany, .int v_drawn, .ref q_kept, .ref q_isKept])), (q_now, .inl (cJ, 120, .inr (.inl v_now_116))), (q_read, .inl (cI, 480, .inl v_read))] H → va_D A [(h0, .inr (8, [.ref q_now, .ref q_text, .int v_typed, .ref q_row, .int v_rowMany, .int v_thrown, .int v_length, .int v_at, .int v_wrong, .ref q_read, .ref q_ranks, .ref q_distinct, .ref q_proper, .int v_properMany, .ref q_line, .ref q_order, .int v_orderMany, .ref q_then, .ref q_bestOrder, .ref q_lineThen, .ref q_undos, .ref q_was, .int v_undoMany, .int v_drawn, .ref q_kept, .ref q_isKept])), (q_now, .inl (cJ, 120, .inr (.inl v_now_116))), (q_read, .inl (cI, 480, .inl v_read))] → va_S A s.heap H locs → lv_has ls 5 [(0, .ref h0), (1, .int x1), (3, .int x3_116)] → (∀ (H : Heap) (locs : List Loc) (ls : Array Slot), va_P (dC, dI) vwCl [(h0, .inr (8, [.ref q_now, .ref q_text, .int v_typed, .ref q_row, .int v_rowMany, .int v_thrown, .int v_length, .int v_at, .int v_wrong, .ref q_read, .ref q_ranks, .ref q_distinct, .ref q_proper, .int v_properMany, .ref q_line, .ref q_order, .int v_orderMany, .ref q_then, .ref q_bestOrder, .ref q_lineThen, .ref q_undos, .ref q_was, .int v_undoMany, .int v_drawn, .ref q_kept, .ref q_isKept])), (q_now, .inl (cJ, 120, .inr (.inl w))), (q_read, .inl (cI, 480, .inl v_read))] H → va_D A [(h0, .inr (8, [.ref q_now, .ref q_text, .int v_typed, .ref q_row, .int v_rowMany, .int v_thrown, .int v_length, .int v_at, .int v_wrong, .ref q_read, .ref q_ranks, .ref q_distinct, .ref q_proper, .int v_properMany, .ref q_line, .ref q_order, .int v_orderMany, .ref q_then, .ref q_bestOrder, .ref q_lineThen, .ref q_undos, .ref q_was, .int v_undoMany, .int v_drawn, .ref q_kept, .ref q_isKept])), (q_now, .inl (cJ, 120, .inr (.inl w))), (q_read, .inl (cI, 480, .inl v_read))] → va_S A s.heap H locs → lv_has ls 5 [] → W p l e rm_X10_layTable s m args below meth c H locs 0 0 QQ (F0 m 138 ls [])) → W p l e rm_X10_layTable s m args below meth c H locs 0 0 QQ (F0 m 116 ls []) := by
    intro n
    induction n with
    | zero => intro x3_116 v_now_116 w H locs ls h; exact absurd (show none = some w from h) nofun
    | succ n ih =>
      intro x3_116 v_now_116 w H locs ls h hP hD hS hl K
      rw [L_X10_layTable_116] at h
      refine lv_iload_n hx hb dX10_layTable_116 rfl (lv_at hl 2 rfl) ?_
      refine lv_iload_n hx hb dX10_layTable_117 rfl (lv_at hl 1 rfl) ?_
      refine lv_icmp_ge (tgt := 138) hx hb dX10_layTable_118 (by decide) (fun c_154 => ?_) (fun c_154 => ?_)
      · replace h := op c_154 h
        have ho := Option.some.inj h
        subst ho
        exact K H _ ls hP hD hS (lv_sub hl [] rfl)
      · replace h := on c_154 h
        refine lv_aload_n hx hb dX10_layTable_121 rfl (lv_at hl 0 rfl) ?_
        refine va_get (D := (dC, dI)) (ci := 8) (v := .ref q_now) (C := RX10) (T := TX10) (N := 26) hx hb hts hi_X10 hown hK hP 0 rfl rfl 0 (by decide) (hts _ (List.mem_of_getElem? (i := 1) rfl)) (fun _ h9 => h9) rfl dX10_layTable_122 ?_
        refine lv_bipush (v := 8) hx hb dX10_layTable_125 (by decide) ?_
        refine lv_iload_n hx hb dX10_layTable_127 rfl (lv_at hl 2 rfl) ?_
        refine lv_iadd hx hb dX10_layTable_128 ?_
        refine lv_iload_n hx hb dX10_layTable_129 rfl (lv_at hl 2 rfl) ?_
        refine lv_i2l (v := (x3_116).toInt64) hx hb dX10_layTable_130 rfl ?_
        obtain ⟨hi_155, h⟩ := og h
        refine va_last hx hb hK hP hD hS 1 1 rfl rfl hi_155 dX10_layTable_131 (fun H locs hP hD hS => ?_)
        replace hP : va_P (dC, dI) vwCl [(h0, .inr (8, [.ref q_now, .ref q_text, .int v_typed, .ref q_row, .int v_rowMany, .int v_thrown, .int v_length, .int v_at, .int v_wrong, .ref q_read, .ref q_ranks, .ref q_distinct, .ref q_proper, .int v_properMany, .ref q_line, .ref q_order, .int v_orderMany, .ref q_then, .ref q_bestOrder, .ref q_lineThen, .ref q_undos, .ref q_was, .int v_undoMany, .int v_drawn, .ref q_kept, .ref q_isKept])), (q_now, .inl (cJ, 120, .inr (.inl (vp_updL v_now_116 (((8 : Int32) + x3_116)).toNatClampNeg (x3_116).toInt64)))), (q_read, .inl (cI, 480, .inl v_read))] H := hP
        replace hD : va_D A [(h0, .inr (8, [.ref q_now, .ref q_text, .int v_typed, .ref q_row, .int v_rowMany, .int v_thrown, .int v_length, .int v_at, .int v_wrong, .ref q_read, .ref q_ranks, .ref q_distinct, .ref q_proper, .int v_properMany, .ref q_line, .ref q_order, .int v_orderMany, .ref q_then, .ref q_bestOrder, .ref q_lineThen, .ref q_undos, .ref q_was, .int v_undoMany, .int v_drawn, .ref q_kept, .ref q_isKept])), (q_now, .inl (cJ, 120, .inr (.inl (vp_updL v_now_116 (((8 : Int32) + x3_116)).toNatClampNeg (x3_116).toInt64)))), (q_read, .inl (cI, 480, .inl v_read))] := hD
        refine lv_iinc (v := (x3_116 + 1)) (lv' := [(3, .int (x3_116 + 1)), (0, .ref h0), (1, .int x1)]) hx hb dX10_layTable_132 hl (k := 2) rfl (by rfl) (by decide) rfl (fun ls hl => ?_)
        refine lv_goto (tgt := 116) hx hb dX10_layTable_135 (by decide) ?_
        exact ih (x3_116 + 1) (vp_updL v_now_116 (((8 : Int32) + x3_116)).toNatClampNeg (x3_116).toInt64) w H _ ls h hP hD hS (lv_sub hl [1, 2, 0] rfl) K
  obtain ⟨w_156, hw_156, h⟩ := ob h
  refine LP_156 fu (0 : Int32) w_153 w_156 H _ ls hw_156 hP hD hS (lv_sub hl [1, 2, 0] rfl) (fun H locs ls hP hD hS hl => ?_)
  rw [hQQ]
  have ho := Option.some.inj h
  subst ho
  exact W.vret hx hb hr (fun t ht hW => ⟨⟨(), rfl, trivial, by rw [ht]; exact hP, va_K.moved hW.alike hK, hD⟩, hS.F ht⟩) hS.2.2 dX10_layTable_138
def L_X10_letterHere_2 (v_length : Int32) (v_at : Int32) (v_text : (Nat → Int32)) : Nat → Int32 → Option (Unit ⊕ Int32)
  | 0, _ => none
  | n+1, x1_2 => ((f_J0_length_8abf5).bind (fun o_157 => (if o_157 ≤ x1_2 then (some (.inl ())) else ((f_X10_here v_length v_at v_text).bind (fun o_160 => ((f_J0_charAt_5068e x1_2).bind (fun o_162 => (if o_160 = o_162 then (some (.inr x1_2)) else (L_X10_letterHere_2 v_length v_at v_text n (x1_2 + 1))))))))))
def f_X10_letterHere (v_length : Int32) (v_at : Int32) (v_text : Nat → Int32) : Option Int32 :=
  ((L_X10_letterHere_2 v_length v_at v_text fu (0 : Int32)).bind (sm (fun u_165 => (some (-1 : Int32)))))
abbrev rm_X10_letterHere : Room := { frames := 4, cells := 0, slots := 0, locals := 85 }
set_option maxHeartbeats 4000000 in
set_option maxRecDepth 100000 in
theorem c_X10_letterHere (l : Launch) (dC : Nat → ClassId) (dI : Nat → Nat → Nat) (cB cC cI cJ cZ cT : ClassId) (h0 q_now q_text q_row q_read q_ranks q_distinct q_proper q_line q_order q_then q_bestOrder q_lineThen q_undos q_was q_kept q_isKept : Nat) (v_typed : Int32) (v_rowMany : Int32) (v_thrown : Int32) (v_length : Int32) (v_at : Int32) (v_wrong : Int32) (v_properMany : Int32) (v_orderMany : Int32) (v_undoMany : Int32) (v_drawn : Int32) (v_text : Nat → Int32) (o : Int32) (hf : f_X10_letterHere v_length v_at v_text = some o) : Met l yX10_letterHere wsX10_letterHere rm_X10_letterHere (va_Pc [.ref h0] (fun U => va_P (dC, dI) vwCl [(h0, .inr (8, [.ref q_now, .ref q_text, .int v_typed, .ref q_row, .int v_rowMany, .int v_thrown, .int v_length, .int v_at, .int v_wrong, .ref q_read, .ref q_ranks, .ref q_distinct, .ref q_proper, .int v_properMany, .ref q_line, .ref q_order, .int v_orderMany, .ref q_then, .ref q_bestOrder, .ref q_lineThen, .ref q_undos, .ref q_was, .int v_undoMany, .int v_drawn, .ref q_kept, .ref q_isKept])), (q_text, .inl (cB, 80, .inl v_text))] U.heap ∧ va_K (dC, dI) vwCl (tyA cB cC cI cJ cZ cT) U ∧ SX (fun _ => False) U U.heap)) (vp_Si (fun r => o = r)) 0 0 (fun _ => False) := by
  refine Met.ofW (cc := cX10_letterHere) (maxL := 2) (ret := (some .int)) (by decide +kernel) rfl ?_
  intro p e s m args below meth c s₁ B hml hv
  obtain ⟨hav, hP, hK, hX⟩ := hv
  have hx := B.exec
  have hb := B.bytes
  have hr := B.returns
  have hts := atoms_spec (ws := wsX10_letterHere) B.pre
  have hown : s.vm.findClass RX10 = some m.cls := findClass_of_methodNamed B.named
  have hlocks := B.notSynchronized
  have hS : va_S (fun _ => False) s.heap s.heap [] := va_S.rf
  obtain ⟨-, -, ⟨aM, vM, hRM, hEM⟩, aC, vC, hRC, hEC⟩ := id hX
  obtain ⟨-, -, -, hOM, -, -⟩ := id hEM
  obtain ⟨-, -, -, hOC, -, -⟩ := id hEC
  refine wstart (rm := rm_X10_letterHere) hav (Nat.le_of_ble_eq_true rfl) (fun QQ ls hQQ hl => ?_)
  have hl : lv_has ls 2 [(0, .ref h0)] := hl
  have h := hf
  unfold f_X10_letterHere at h
  refine lv_iconst (v := 0) hx hb dX10_letterHere_0 (by decide) ?_
  refine lv_istore_n (lv' := [(1, .int (0 : Int32)), (0, .ref h0)]) hx hb dX10_letterHere_1 rfl hl (by decide) rfl (fun ls hl => ?_)
  have LP_165 : ∀ (n : Nat) (x1_2 : Int32) (w : (Unit ⊕ Int32)) (ls : Array Slot), L_X10_letterHere_2 v_length v_at v_text n x1_2 = some w → lv_has ls 2 [(0, .ref h0), (1, .int x1_2)] → (∀ u : Unit, w = .inl u → ∀ (ls : Array Slot), lv_has ls 2 [] → W p l e rm_X10_letterHere s m args below meth c s.heap [] 0 0 QQ (F0 m 32 ls [])) → (∀ r : Int32, w = .inr r → some r = some o) → W p l e rm_X10_letterHere s m args below meth c s.heap [] 0 0 QQ (F0 m 2 ls []) := by
    intro n
    induction n with
    | zero => intro x1_2 w ls h; exact absurd (show none = some w from h) nofun
    | succ n ih =>
      intro x1_2 w ls h hl K KR
      rw [L_X10_letterHere_2] at h
      refine lv_iload_n hx hb dX10_letterHere_2 rfl (lv_at hl 1 rfl) ?_
      refine va_ldcS hx hb hown hRM dX10_letterHere_3 ?_
      obtain ⟨o_157, hr_157, h⟩ := ob h
      refine vp_callSi (va_Run.run (va_runV (As := []) (rest := [.int x1_2]) ⟨hx, hb, hml, hown, hts⟩ (c_J0_length_8abf5 l dC dI cB cC cI cJ cZ cT aM vM o_157 hr_157) (cwV 0 hts gX10_letterHere_J0_length_8abf5 rfl rfl rfl (by decide +kernel) ⟨Nat.le_of_ble_eq_true rfl, Nat.le_of_ble_eq_true rfl⟩) ⟨blS, va_Orecv hOM hS, fun U hU hW => ⟨rfl, by show STR _ _ (fun _ => False) U U.heap; rw [hU]; exact hEM.go hW.alike hS.2.1 (fun _ q => q.elim)⟩⟩ rfl rfl hl.1 rfl (lv_room (Nat.le_of_ble_eq_true rfl)) dX10_letterHere_5 ⟨Nat.le_of_ble_eq_true rfl, Nat.le_of_ble_eq_true rfl⟩)) (fun r_157 e_157 => ?_)
      subst e_157
      refine lv_icmp_ge (tgt := 32) hx hb dX10_letterHere_8 (by decide) (fun c_159 => ?_) (fun c_159 => ?_)
      · replace h := op c_159 h
        have ho := Option.some.inj h
        subst ho
        exact K _ rfl ls (lv_sub hl [] rfl)
      · replace h := on c_159 h
        refine lv_aload_n hx hb dX10_letterHere_11 rfl (lv_at hl 0 rfl) ?_
        obtain ⟨o_160, hr_160, h⟩ := ob h
        refine vp_callSi (va_Run.run (va_runV (As := []) (rest := []) ⟨hx, hb, hml, hown, hts⟩ (c_X10_here l dC dI cB cC cI cJ cZ cT h0 q_now q_text q_row q_read q_ranks q_distinct q_proper q_line q_order q_then q_bestOrder q_lineThen q_undos q_was q_kept q_isKept v_typed v_rowMany v_thrown v_length v_at v_wrong v_properMany v_orderMany v_undoMany v_drawn v_text o_160 hr_160) (cwV 0 hts gX10_letterHere_X10_here rfl rfl rfl (by decide +kernel) ⟨Nat.le_of_ble_eq_true rfl, Nat.le_of_ble_eq_true rfl⟩) ⟨blR, va_recv hK hP (ci := 8) (q0 := 0) rfl rfl, fun U hU hW => ⟨rfl, by rw [hU]; exact hP.sub [0, 1] rfl, va_K.moved hW.alike hK⟩⟩ rfl rfl hl.1 rfl (lv_room (Nat.le_of_ble_eq_true rfl)) dX10_letterHere_12 ⟨Nat.le_of_ble_eq_true rfl, Nat.le_of_ble_eq_true rfl⟩)) (fun r_160 e_160 => ?_)
        subst e_160
        refine va_ldcS hx hb hown hRM dX10_letterHere_15 ?_
        refine lv_iload_n hx hb dX10_letterHere_17 rfl (lv_at hl 1 rfl) ?_
        obtain ⟨o_162, hr_162, h⟩ := ob h
        refine vp_callSi (va_Run.run (va_runV (As := [.int x1_2]) (rest := [.int o_160]) ⟨hx, hb, hml, hown, hts⟩ (c_J0_charAt_5068e l dC dI cB cC cI cJ cZ cT aM vM x1_2 o_162 hr_162) (cwV 1 hts gX10_letterHere_J0_charAt_5068e rfl rfl rfl (by decide +kernel) ⟨Nat.le_of_ble_eq_true rfl, Nat.le_of_ble_eq_true rfl⟩) ⟨blS, va_Orecv hOM hS, fun U hU hW => ⟨rfl, by show STR _ _ (fun _ => False) U U.heap; rw [hU]; exact hEM.go hW.alike hS.2.1 (fun _ q => q.elim)⟩⟩ rfl rfl hl.1 rfl (lv_room (Nat.le_of_ble_eq_true rfl)) dX10_letterHere_18 ⟨Nat.le_of_ble_eq_true rfl, Nat.le_of_ble_eq_true rfl⟩)) (fun r_162 e_162 => ?_)
        subst e_162
        refine lv_icmp_ne (tgt := 26) hx hb dX10_letterHere_21 (by decide) (fun c_164 => ?_) (fun c_164 => ?_)
        · replace h := on c_164 h
          refine lv_iinc (v := (x1_2 + 1)) (lv' := [(1, .int (x1_2 + 1)), (0, .ref h0)]) hx hb dX10_letterHere_26 hl (k := 1) rfl (by rfl) (by decide) rfl (fun ls hl => ?_)
          refine lv_goto (tgt := 2) hx hb dX10_letterHere_29 (by decide) ?_
          exact ih (x1_2 + 1) w ls h (lv_sub hl [1, 0] rfl) K KR
        · replace h := op c_164 h
          refine lv_iload_n hx hb dX10_letterHere_24 rfl (lv_at hl 1 rfl) ?_
          replace h := KR _ (Option.some.inj h).symm
          rw [hQQ]
          exact W.iret hx hb hr (fun t ht hW => ⟨_, rfl, (Option.some.inj h).symm, ht⟩) (fun q hq => absurd hq List.not_mem_nil) dX10_letterHere_25
  obtain ⟨w_165, hw_165, h⟩ := ob h
  refine LP_165 fu (0 : Int32) w_165 ls hw_165 (lv_sub hl [1, 0] rfl) (fun u_165 e_165 ls hl => ?_) (fun r_165 e_165 => by subst e_165; exact h)
  subst e_165
  replace h := sm_l h
  refine lv_iconst (v := -1) hx hb dX10_letterHere_32 (by decide) ?_
  rw [hQQ]
  exact W.iret hx hb hr (fun t ht hW => ⟨_, rfl, (Option.some.inj h).symm, ht⟩) (fun q hq => absurd hq List.not_mem_nil) dX10_letterHere_33
def L_X10_lay_2 (v_now : (Nat → Int64)) : Nat → Int32 → (Nat → Int64) → Option (Nat → Int64)
  | 0, _, _ => none
  | n+1, x1_2, v_was_2 => (if (120 : Int32) ≤ x1_2 then (some v_was_2) else (if x1_2 < 0 ∨ 120 ≤ (x1_2).toNatClampNeg then none else (if x1_2 < 0 ∨ 120 ≤ (x1_2).toNatClampNeg then none else (L_X10_lay_2 v_now n (x1_2 + 1) (vp_updL v_was_2 (x1_2).toNatClampNeg (v_now (x1_2).toNatClampNeg))))))
def f_X10_lay (v_now : Nat → Int64) (v_was : Nat → Int64) : Option (Nat → Int64) :=
  ((L_X10_lay_2 v_now fu (0 : Int32) v_was).bind (fun w_169 => (some w_169)))
abbrev rm_X10_lay : Room := { frames := 0, cells := 0, slots := 0, locals := 0 }
set_option maxHeartbeats 4000000 in
set_option maxRecDepth 100000 in
theorem c_X10_lay (l : Launch) (dC : Nat → ClassId) (dI : Nat → Nat → Nat) (cB cC cI cJ cZ cT : ClassId) (h0 q_now q_text q_row q_read q_ranks q_distinct q_proper q_line q_order q_then q_bestOrder q_lineThen q_undos q_was q_kept q_isKept : Nat) (sz : Nat) (v_typed : Int32) (v_rowMany : Int32) (v_thrown : Int32) (v_length : Int32) (v_at : Int32) (v_wrong : Int32) (v_properMany : Int32) (v_orderMany : Int32) (v_undoMany : Int32) (v_drawn : Int32) (v_now : Nat → Int64) (v_was : Nat → Int64) (o : (Nat → Int64)) (hf : f_X10_lay v_now v_was = some o) : Met l yX10_lay wsX10_lay rm_X10_lay (va_Pc [.ref h0] (fun U => U.heap.size = sz ∧ va_P (dC, dI) vwCl [(h0, .inr (8, [.ref q_now, .ref q_text, .int v_typed, .ref q_row, .int v_rowMany, .int v_thrown, .int v_length, .int v_at, .int v_wrong, .ref q_read, .ref q_ranks, .ref q_distinct, .ref q_proper, .int v_properMany, .ref q_line, .ref q_order, .int v_orderMany, .ref q_then, .ref q_bestOrder, .ref q_lineThen, .ref q_undos, .ref q_was, .int v_undoMany, .int v_drawn, .ref q_kept, .ref q_isKept])), (q_now, .inl (cJ, 120, .inr (.inl v_now))), (q_was, .inl (cJ, 120, .inr (.inl v_was)))] U.heap ∧ va_K (dC, dI) vwCl (tyA cB cC cI cJ cZ cT) U ∧ va_D (fun _ => True) [(h0, .inr (8, [.ref q_now, .ref q_text, .int v_typed, .ref q_row, .int v_rowMany, .int v_thrown, .int v_length, .int v_at, .int v_wrong, .ref q_read, .ref q_ranks, .ref q_distinct, .ref q_proper, .int v_properMany, .ref q_line, .ref q_order, .int v_orderMany, .ref q_then, .ref q_bestOrder, .ref q_lineThen, .ref q_undos, .ref q_was, .int v_undoMany, .int v_drawn, .ref q_kept, .ref q_isKept])), (q_now, .inl (cJ, 120, .inr (.inl v_now))), (q_was, .inl (cJ, 120, .inr (.inl v_was)))])) (va_Qv (fun _ : Unit => True) (fun _ t => va_P (dC, dI) vwCl [(h0, .inr (8, [.ref q_now, .ref q_text, .int v_typed, .ref q_row, .int v_rowMany, .int v_thrown, .int v_length, .int v_at, .int v_wrong, .ref q_read, .ref q_ranks, .ref q_distinct, .ref q_proper, .int v_properMany, .ref q_line, .ref q_order, .int v_orderMany, .ref q_then, .ref q_bestOrder, .ref q_lineThen, .ref q_undos, .ref q_was, .int v_undoMany, .int v_drawn, .ref q_kept, .ref q_isKept])), (q_now, .inl (cJ, 120, .inr (.inl v_now))), (q_was, .inl (cJ, 120, .inr (.inl o)))] t.heap ∧ va_K (dC, dI) vwCl (tyA cB cC cI cJ cZ cT) t ∧ va_D (va_A [(h0, .inr (8, [.ref q_now, .ref q_text, .int v_typed, .ref q_row, .int v_rowMany, .int v_thrown, .int v_length, .int v_at, .int v_wrong, .ref q_read, .ref q_ranks, .ref q_distinct, .ref q_proper, .int v_properMany, .ref q_line, .ref q_order, .int v_orderMany, .ref q_then, .ref q_bestOrder, .ref q_lineThen, .ref q_undos, .ref q_was, .int v_undoMany, .int v_drawn, .ref q_kept, .ref q_isKept])), (q_now, .inl (cJ, 120, .inr (.inl v_now))), (q_was, .inl (cJ, 120, .inr (.inl v_was)))] sz) [(h0, .inr (8, [.ref q_now, .ref q_text, .int v_typed, .ref q_row, .int v_rowMany, .int v_thrown, .int v_length, .int v_at, .int v_wrong, .ref q_read, .ref q_ranks, .ref q_distinct, .ref q_proper, .int v_properMany, .ref q_line, .ref q_order, .int v_orderMany, .ref q_then, .ref q_bestOrder, .ref q_lineThen, .ref q_undos, .ref q_was, .int v_undoMany, .int v_drawn, .ref q_kept, .ref q_isKept])), (q_now, .inl (cJ, 120, .inr (.inl v_now))), (q_was, .inl (cJ, 120, .inr (.inl o)))]) (va_A [(h0, .inr (8, [.ref q_now, .ref q_text, .int v_typed, .ref q_row, .int v_rowMany, .int v_thrown, .int v_length, .int v_at, .int v_wrong, .ref q_read, .ref q_ranks, .ref q_distinct, .ref q_proper, .int v_properMany, .ref q_line, .ref q_order, .int v_orderMany, .ref q_then, .ref q_bestOrder, .ref q_lineThen, .ref q_undos, .ref q_was, .int v_undoMany, .int v_drawn, .ref q_kept, .ref q_isKept])), (q_now, .inl (cJ, 120, .inr (.inl v_now))), (q_was, .inl (cJ, 120, .inr (.inl v_was)))] sz)) 0 0 (va_A [(h0, .inr (8, [.ref q_now, .ref q_text, .int v_typed, .ref q_row, .int v_rowMany, .int v_thrown, .int v_length, .int v_at, .int v_wrong, .ref q_read, .ref q_ranks, .ref q_distinct, .ref q_proper, .int v_properMany, .ref q_line, .ref q_order, .int v_orderMany, .ref q_then, .ref q_bestOrder, .ref q_lineThen, .ref q_undos, .ref q_was, .int v_undoMany, .int v_drawn, .ref q_kept, .ref q_isKept])), (q_now, .inl (cJ, 120, .inr (.inl v_now))), (q_was, .inl (cJ, 120, .inr (.inl v_was)))] sz) := by
  refine Met.ofW (cc := cX10_lay) (maxL := 2) (ret := none) (by decide +kernel) rfl ?_
  intro p e s m args below meth c s₁ B hml hv
  obtain ⟨hav, hsz, hP, hK, hD0⟩ := hv
  have hx := B.exec
  have hb := B.bytes
  have hr := B.returns
  have hts := atoms_spec (ws := wsX10_lay) B.pre
  have hown : s.vm.findClass RX10 = some m.cls := findClass_of_methodNamed B.named
  have hlocks := B.notSynchronized
  subst hsz
  have hD := hD0.self (sz := s.heap.size)
  generalize hAe : va_A [(h0, .inr (8, [.ref q_now, .ref q_text, .int v_typed, .ref q_row, .int v_rowMany, .int v_thrown, .int v_length, .int v_at, .int v_wrong, .ref q_read, .ref q_ranks, .ref q_distinct, .ref q_proper, .int v_properMany, .ref q_line, .ref q_order, .int v_orderMany, .ref q_then, .ref q_bestOrder, .ref q_lineThen, .ref q_undos, .ref q_was, .int v_undoMany, .int v_drawn, .ref q_kept, .ref q_isKept])), (q_now, .inl (cJ, 120, .inr (.inl v_now))), (q_was, .inl (cJ, 120, .inr (.inl v_was)))] s.heap.size = A at hD ⊢
  have hA : ∀ q : Nat, s.heap.size ≤ q → A q := fun q h => by rw [← hAe]; exact Or.inr h
  have hS : va_S A s.heap s.heap [] := va_S.rf
  refine wstart (rm := rm_X10_lay) hav (Nat.le_of_ble_eq_true rfl) (fun QQ ls hQQ hl => ?_)
  have hl : lv_has ls 2 [(0, .ref h0)] := hl
  have hi_X10 : ∀ w ∈ u_ws RX10 TX10 26, w ∈ wsX10_lay := by decide +kernel
  have h := hf
  unfold f_X10_lay at h
  refine lv_iconst (v := 0) hx hb dX10_lay_0 (by decide) ?_
  refine lv_istore_n (lv' := [(1, .int (0 : Int32)), (0, .ref h0)]) hx hb dX10_lay_1 rfl hl (by decide) rfl (fun ls hl => ?_)
  have LP_169 : ∀ (n : Nat) (x1_2 : Int32) (v_was_2 : (Nat → Int64)) (w : (Nat → Int64)) (H : Heap) (locs : List Loc) (ls : Array Slot), L_X10_lay_2 v_now n x1_2 v_was_2 = some w → va_P (dC, dI) vwCl [(h0, .inr (8, [.ref q_now, .ref q_text, .int v_typed, .ref q_row, .int v_rowMany, .int v_thrown, .int v_length, .int v_at, .int v_wrong, .ref q_read, .ref q_ranks, .ref q_distinct, .ref q_proper, .int v_properMany, .ref q_line, .ref q_order, .int v_orderMany, .ref q_then, .ref q_bestOrder, .ref q_lineThen, .ref q_undos, .ref q_was, .int v_undoMany, .int v_drawn, .ref q_kept, .ref q_isKept])), (q_now, .inl (cJ, 120, .inr (.inl v_now))), (q_was, .inl (cJ, 120, .inr (.inl v_was_2)))] H → va_D A [(h0, .inr (8, [.ref q_now, .ref q_text, .int v_typed, .ref q_row, .int v_rowMany, .int v_thrown, .int v_length, .int v_at, .int v_wrong, .ref q_read, .ref q_ranks, .ref q_distinct, .ref q_proper, .int v_properMany, .ref q_line, .ref q_order, .int v_orderMany, .ref q_then, .ref q_bestOrder, .ref q_lineThen, .ref q_undos, .ref q_was, .int v_undoMany, .int v_drawn, .ref q_kept, .ref q_isKept])), (q_now, .inl (cJ, 120, .inr (.inl v_now))), (q_was, .inl (cJ, 120, .inr (.inl v_was_2)))] → va_S A s.heap H locs → lv_has ls 2 [(0, .ref h0), (1, .int x1_2)] → (∀ (H : Heap) (locs : List Loc) (ls : Array Slot), va_P (dC, dI) vwCl [(h0, .inr (8, [.ref q_now, .ref q_text, .int v_typed, .ref q_row, .int v_rowMany, .int v_thrown, .int v_length, .int v_at, .int v_wrong, .ref q_read, .ref q_ranks, .ref q_distinct, .ref q_proper, .int v_properMany, .ref q_line, .ref q_order, .int v_orderMany, .ref q_then, .ref q_bestOrder, .ref q_lineThen, .ref q_undos, .ref q_was, .int v_undoMany, .int v_drawn, .ref q_kept, .ref q_isKept])), (q_now, .inl (cJ, 120, .inr (.inl v_now))), (q_was, .inl (cJ, 120, .inr (.inl w)))] H → va_D A [(h0, .inr (8, [.ref q_now, .ref q_text, .int v_typed, .ref q_row, .int v_rowMany, .int v_thrown, .int v_length, .int v_at, .int v_wrong, .ref q_read, .ref q_ranks, .ref q_distinct, .ref q_proper, .int v_properMany, .ref q_line, .ref q_order, .int v_orderMany, .ref q_then, .ref q_bestOrder, .ref q_lineThen, .ref q_undos, .ref q_was, .int v_undoMany, .int v_drawn, .ref q_kept, .ref q_isKept])), (q_now, .inl (cJ, 120, .inr (.inl v_now))), (q_was, .inl (cJ, 120, .inr (.inl w)))] → va_S A s.heap H locs → lv_has ls 2 [] → W p l e rm_X10_lay s m args below meth c H locs 0 0 QQ (F0 m 26 ls [])) → W p l e rm_X10_lay s m args below meth c H locs 0 0 QQ (F0 m 2 ls []) := by
    intro n
    induction n with
    | zero => intro x1_2 v_was_2 w H locs ls h; exact absurd (show none = some w from h) nofun
    | succ n ih =>
      intro x1_2 v_was_2 w H locs ls h hP hD hS hl K
      rw [L_X10_lay_2] at h
      refine lv_iload_n hx hb dX10_lay_2 rfl (lv_at hl 1 rfl) ?_
      refine lv_bipush (v := 120) hx hb dX10_lay_3 (by decide) ?_
      refine lv_icmp_ge (tgt := 26) hx hb dX10_lay_5 (by decide) (fun c_166 => ?_) (fun c_166 => ?_)
      · replace h := op c_166 h
        have ho := Option.some.inj h
        subst ho
        exact K H _ ls hP hD hS (lv_sub hl [] rfl)
      · replace h := on c_166 h
        refine lv_aload_n hx hb dX10_lay_8 rfl (lv_at hl 0 rfl) ?_
        refine va_get (D := (dC, dI)) (ci := 8) (v := .ref q_was) (C := RX10) (T := TX10) (N := 26) hx hb hts hi_X10 hown hK hP 0 rfl rfl 21 (by decide) (hts _ (List.mem_of_getElem? (i := 1) rfl)) (fun _ h9 => h9) rfl dX10_lay_9 ?_
        refine lv_iload_n hx hb dX10_lay_12 rfl (lv_at hl 1 rfl) ?_
        refine lv_aload_n hx hb dX10_lay_13 rfl (lv_at hl 0 rfl) ?_
        refine va_get (D := (dC, dI)) (ci := 8) (v := .ref q_now) (C := RX10) (T := TX10) (N := 26) hx hb hts hi_X10 hown hK hP 0 rfl rfl 0 (by decide) (hts _ (List.mem_of_getElem? (i := 2) rfl)) (fun _ h9 => h9) rfl dX10_lay_14 ?_
        refine lv_iload_n hx hb dX10_lay_17 rfl (lv_at hl 1 rfl) ?_
        obtain ⟨hi_167, h⟩ := og h
        refine va_lald hx hb hK hP 1 1 rfl rfl hi_167 dX10_lay_18 ?_
        obtain ⟨hi_168, h⟩ := og h
        refine va_last hx hb hK hP hD hS 2 1 rfl rfl hi_168 dX10_lay_19 (fun H locs hP hD hS => ?_)
        replace hP : va_P (dC, dI) vwCl [(h0, .inr (8, [.ref q_now, .ref q_text, .int v_typed, .ref q_row, .int v_rowMany, .int v_thrown, .int v_length, .int v_at, .int v_wrong, .ref q_read, .ref q_ranks, .ref q_distinct, .ref q_proper, .int v_properMany, .ref q_line, .ref q_order, .int v_orderMany, .ref q_then, .ref q_bestOrder, .ref q_lineThen, .ref q_undos, .ref q_was, .int v_undoMany, .int v_drawn, .ref q_kept, .ref q_isKept])), (q_now, .inl (cJ, 120, .inr (.inl v_now))), (q_was, .inl (cJ, 120, .inr (.inl (vp_updL v_was_2 (x1_2).toNatClampNeg (v_now (x1_2).toNatClampNeg)))))] H := hP
        replace hD : va_D A [(h0, .inr (8, [.ref q_now, .ref q_text, .int v_typed, .ref q_row, .int v_rowMany, .int v_thrown, .int v_length, .int v_at, .int v_wrong, .ref q_read, .ref q_ranks, .ref q_distinct, .ref q_proper, .int v_properMany, .ref q_line, .ref q_order, .int v_orderMany, .ref q_then, .ref q_bestOrder, .ref q_lineThen, .ref q_undos, .ref q_was, .int v_undoMany, .int v_drawn, .ref q_kept, .ref q_isKept])), (q_now, .inl (cJ, 120, .inr (.inl v_now))), (q_was, .inl (cJ, 120, .inr (.inl (vp_updL v_was_2 (x1_2).toNatClampNeg (v_now (x1_2).toNatClampNeg)))))] := hD
        refine lv_iinc (v := (x1_2 + 1)) (lv' := [(1, .int (x1_2 + 1)), (0, .ref h0)]) hx hb dX10_lay_20 hl (k := 1) rfl (by rfl) (by decide) rfl (fun ls hl => ?_)
        refine lv_goto (tgt := 2) hx hb dX10_lay_23 (by decide) ?_
        exact ih (x1_2 + 1) (vp_updL v_was_2 (x1_2).toNatClampNeg (v_now (x1_2).toNatClampNeg)) w H _ ls h hP hD hS (lv_sub hl [1, 0] rfl) K
  obtain ⟨w_169, hw_169, h⟩ := ob h
  refine LP_169 fu (0 : Int32) v_was w_169 s.heap _ ls hw_169 hP hD hS (lv_sub hl [1, 0] rfl) (fun H locs ls hP hD hS hl => ?_)
  rw [hQQ]
  have ho := Option.some.inj h
  subst ho
  exact W.vret hx hb hr (fun t ht hW => ⟨⟨(), rfl, trivial, by rw [ht]; exact hP, va_K.moved hW.alike hK, hD⟩, hS.F ht⟩) hS.2.2 dX10_lay_26
def L_X10_note_11  : Nat → Int32 → (Nat → Int64) → Option (Nat → Int64)
  | 0, _, _ => none
  | n+1, x1_11, v_undos_11 => (if (840 : Int32) ≤ x1_11 then (some v_undos_11) else (if (x1_11 + (120 : Int32)) < 0 ∨ 960 ≤ ((x1_11 + (120 : Int32))).toNatClampNeg then none else (if x1_11 < 0 ∨ 960 ≤ (x1_11).toNatClampNeg then none else (L_X10_note_11 n (x1_11 + 1) (vp_updL v_undos_11 (x1_11).toNatClampNeg (v_undos_11 ((x1_11 + (120 : Int32))).toNatClampNeg))))))
def L_X10_note_51 (v_was : (Nat → Int64)) (v_170 : (Int32 × (Nat → Int64))) : Nat → Int32 → (Nat → Int64) → Option (Nat → Int64)
  | 0, _, _ => none
  | n+1, x1_51, v_undos_51 => (if (120 : Int32) ≤ x1_51 then (some v_undos_51) else (if x1_51 < 0 ∨ 120 ≤ (x1_51).toNatClampNeg then none else (if (((120 : Int32) * v_170.1) + x1_51) < 0 ∨ 960 ≤ ((((120 : Int32) * v_170.1) + x1_51)).toNatClampNeg then none else (L_X10_note_51 v_was v_170 n (x1_51 + 1) (vp_updL v_undos_51 ((((120 : Int32) * v_170.1) + x1_51)).toNatClampNeg (v_was (x1_51).toNatClampNeg))))))
def f_X10_note (v_undoMany : Int32) (v_undos : Nat → Int64) (v_was : Nat → Int64) : Option (Int32 × (Nat → Int64)) :=
  (((if v_undoMany = (8 : Int32) then ((L_X10_note_11 fu (0 : Int32) v_undos).bind (fun w_180 => (some ((v_undoMany - (1 : Int32)), w_180)))) else (some (v_undoMany, v_undos)))).bind (fun v_170 => ((L_X10_note_51 v_was v_170 fu (0 : Int32) v_170.2).bind (fun w_184 => (some ((v_170.1 + (1 : Int32)), w_184))))))
abbrev rm_X10_note : Room := { frames := 0, cells := 0, slots := 0, locals := 0 }
set_option maxHeartbeats 4000000 in
set_option maxRecDepth 100000 in
theorem c_X10_note (l : Launch) (dC : Nat → ClassId) (dI : Nat → Nat → Nat) (cB cC cI cJ cZ cT : ClassId) (h0 q_now q_text q_row q_read q_ranks q_distinct q_proper q_line q_order q_then q_bestOrder q_lineThen q_undos q_was q_kept q_isKept : Nat) (sz : Nat) (v_typed : Int32) (v_rowMany : Int32) (v_thrown : Int32) (v_length : Int32) (v_at : Int32) (v_wrong : Int32) (v_properMany : Int32) (v_orderMany : Int32) (v_undoMany : Int32) (v_drawn : Int32) (v_undos : Nat → Int64) (v_was : Nat → Int64) (o : (Int32 × (Nat → Int64))) (hf : f_X10_note v_undoMany v_undos v_was = some o) : Met l yX10_note wsX10_note rm_X10_note (va_Pc [.ref h0] (fun U => U.heap.size = sz ∧ va_P (dC, dI) vwCl [(h0, .inr (8, [.ref q_now, .ref q_text, .int v_typed, .ref q_row, .int v_rowMany, .int v_thrown, .int v_length, .int v_at, .int v_wrong, .ref q_read, .ref q_ranks, .ref q_distinct, .ref q_proper, .int v_properMany, .ref q_line, .ref q_order, .int v_orderMany, .ref q_then, .ref q_bestOrder, .ref q_lineThen, .ref q_undos, .ref q_was, .int v_undoMany, .int v_drawn, .ref q_kept, .ref q_isKept])), (q_undos, .inl (cJ, 960, .inr (.inl v_undos))), (q_was, .inl (cJ, 120, .inr (.inl v_was)))] U.heap ∧ va_K (dC, dI) vwCl (tyA cB cC cI cJ cZ cT) U ∧ va_D (fun _ => True) [(h0, .inr (8, [.ref q_now, .ref q_text, .int v_typed, .ref q_row, .int v_rowMany, .int v_thrown, .int v_length, .int v_at, .int v_wrong, .ref q_read, .ref q_ranks, .ref q_distinct, .ref q_proper, .int v_properMany, .ref q_line, .ref q_order, .int v_orderMany, .ref q_then, .ref q_bestOrder, .ref q_lineThen, .ref q_undos, .ref q_was, .int v_undoMany, .int v_drawn, .ref q_kept, .ref q_isKept])), (q_undos, .inl (cJ, 960, .inr (.inl v_undos))), (q_was, .inl (cJ, 120, .inr (.inl v_was)))])) (va_Qv (fun _ : Unit => True) (fun _ t => va_P (dC, dI) vwCl [(h0, .inr (8, [.ref q_now, .ref q_text, .int v_typed, .ref q_row, .int v_rowMany, .int v_thrown, .int v_length, .int v_at, .int v_wrong, .ref q_read, .ref q_ranks, .ref q_distinct, .ref q_proper, .int v_properMany, .ref q_line, .ref q_order, .int v_orderMany, .ref q_then, .ref q_bestOrder, .ref q_lineThen, .ref q_undos, .ref q_was, .int o.1, .int v_drawn, .ref q_kept, .ref q_isKept])), (q_undos, .inl (cJ, 960, .inr (.inl o.2))), (q_was, .inl (cJ, 120, .inr (.inl v_was)))] t.heap ∧ va_K (dC, dI) vwCl (tyA cB cC cI cJ cZ cT) t ∧ va_D (va_A [(h0, .inr (8, [.ref q_now, .ref q_text, .int v_typed, .ref q_row, .int v_rowMany, .int v_thrown, .int v_length, .int v_at, .int v_wrong, .ref q_read, .ref q_ranks, .ref q_distinct, .ref q_proper, .int v_properMany, .ref q_line, .ref q_order, .int v_orderMany, .ref q_then, .ref q_bestOrder, .ref q_lineThen, .ref q_undos, .ref q_was, .int v_undoMany, .int v_drawn, .ref q_kept, .ref q_isKept])), (q_undos, .inl (cJ, 960, .inr (.inl v_undos))), (q_was, .inl (cJ, 120, .inr (.inl v_was)))] sz) [(h0, .inr (8, [.ref q_now, .ref q_text, .int v_typed, .ref q_row, .int v_rowMany, .int v_thrown, .int v_length, .int v_at, .int v_wrong, .ref q_read, .ref q_ranks, .ref q_distinct, .ref q_proper, .int v_properMany, .ref q_line, .ref q_order, .int v_orderMany, .ref q_then, .ref q_bestOrder, .ref q_lineThen, .ref q_undos, .ref q_was, .int o.1, .int v_drawn, .ref q_kept, .ref q_isKept])), (q_undos, .inl (cJ, 960, .inr (.inl o.2))), (q_was, .inl (cJ, 120, .inr (.inl v_was)))]) (va_A [(h0, .inr (8, [.ref q_now, .ref q_text, .int v_typed, .ref q_row, .int v_rowMany, .int v_thrown, .int v_length, .int v_at, .int v_wrong, .ref q_read, .ref q_ranks, .ref q_distinct, .ref q_proper, .int v_properMany, .ref q_line, .ref q_order, .int v_orderMany, .ref q_then, .ref q_bestOrder, .ref q_lineThen, .ref q_undos, .ref q_was, .int v_undoMany, .int v_drawn, .ref q_kept, .ref q_isKept])), (q_undos, .inl (cJ, 960, .inr (.inl v_undos))), (q_was, .inl (cJ, 120, .inr (.inl v_was)))] sz)) 0 0 (va_A [(h0, .inr (8, [.ref q_now, .ref q_text, .int v_typed, .ref q_row, .int v_rowMany, .int v_thrown, .int v_length, .int v_at, .int v_wrong, .ref q_read, .ref q_ranks, .ref q_distinct, .ref q_proper, .int v_properMany, .ref q_line, .ref q_order, .int v_orderMany, .ref q_then, .ref q_bestOrder, .ref q_lineThen, .ref q_undos, .ref q_was, .int v_undoMany, .int v_drawn, .ref q_kept, .ref q_isKept])), (q_undos, .inl (cJ, 960, .inr (.inl v_undos))), (q_was, .inl (cJ, 120, .inr (.inl v_was)))] sz) := by
  refine Met.ofW (cc := cX10_note) (maxL := 2) (ret := none) (by decide +kernel) rfl ?_
  intro p e s m args below meth c s₁ B hml hv
  obtain ⟨hav, hsz, hP, hK, hD0⟩ := hv
  have hx := B.exec
  have hb := B.bytes
  have hr := B.returns
  have hts := atoms_spec (ws := wsX10_note) B.pre
  have hown : s.vm.findClass RX10 = some m.cls := findClass_of_methodNamed B.named
  have hlocks := B.notSynchronized
  subst hsz
  have hD := hD0.self (sz := s.heap.size)
  generalize hAe : va_A [(h0, .inr (8, [.ref q_now, .ref q_text, .int v_typed, .ref q_row, .int v_rowMany, .int v_thrown, .int v_length, .int v_at, .int v_wrong, .ref q_read, .ref q_ranks, .ref q_distinct, .ref q_proper, .int v_properMany, .ref q_line, .ref q_order, .int v_orderMany, .ref q_then, .ref q_bestOrder, .ref q_lineThen, .ref q_undos, .ref q_was, .int v_undoMany, .int v_drawn, .ref q_kept, .ref q_isKept])), (q_undos, .inl (cJ, 960, .inr (.inl v_undos))), (q_was, .inl (cJ, 120, .inr (.inl v_was)))] s.heap.size = A at hD ⊢
  have hA : ∀ q : Nat, s.heap.size ≤ q → A q := fun q h => by rw [← hAe]; exact Or.inr h
  have hS : va_S A s.heap s.heap [] := va_S.rf
  refine wstart (rm := rm_X10_note) hav (Nat.le_of_ble_eq_true rfl) (fun QQ ls hQQ hl => ?_)
  have hl : lv_has ls 2 [(0, .ref h0)] := hl
  have hi_X10 : ∀ w ∈ u_ws RX10 TX10 26, w ∈ wsX10_note := by decide +kernel
  have h := hf
  unfold f_X10_note at h
  refine lv_aload_n hx hb dX10_note_0 rfl (lv_at hl 0 rfl) ?_
  refine va_get (D := (dC, dI)) (ci := 8) (v := .int v_undoMany) (C := RX10) (T := TX10) (N := 26) hx hb hts hi_X10 hown hK hP 0 rfl rfl 22 (by decide) (hts _ (List.mem_of_getElem? (i := 1) rfl)) (fun _ h9 => h9) rfl dX10_note_1 ?_
  refine lv_bipush (v := 8) hx hb dX10_note_4 (by decide) ?_
  obtain ⟨v_170, hv_170, h⟩ := ob h
  have J_170 : ∀ (H : Heap) (locs : List Loc) (ls : Array Slot), va_P (dC, dI) vwCl [(h0, .inr (8, [.ref q_now, .ref q_text, .int v_typed, .ref q_row, .int v_rowMany, .int v_thrown, .int v_length, .int v_at, .int v_wrong, .ref q_read, .ref q_ranks, .ref q_distinct, .ref q_proper, .int v_properMany, .ref q_line, .ref q_order, .int v_orderMany, .ref q_then, .ref q_bestOrder, .ref q_lineThen, .ref q_undos, .ref q_was, .int v_170.1, .int v_drawn, .ref q_kept, .ref q_isKept])), (q_undos, .inl (cJ, 960, .inr (.inl v_170.2))), (q_was, .inl (cJ, 120, .inr (.inl v_was)))] H → va_D A [(h0, .inr (8, [.ref q_now, .ref q_text, .int v_typed, .ref q_row, .int v_rowMany, .int v_thrown, .int v_length, .int v_at, .int v_wrong, .ref q_read, .ref q_ranks, .ref q_distinct, .ref q_proper, .int v_properMany, .ref q_line, .ref q_order, .int v_orderMany, .ref q_then, .ref q_bestOrder, .ref q_lineThen, .ref q_undos, .ref q_was, .int v_170.1, .int v_drawn, .ref q_kept, .ref q_isKept])), (q_undos, .inl (cJ, 960, .inr (.inl v_170.2))), (q_was, .inl (cJ, 120, .inr (.inl v_was)))] → va_S A s.heap H locs → lv_has ls 2 [(0, .ref h0)] → W p l e rm_X10_note s m args below meth c H locs 0 0 QQ (F0 m 49 ls []) := by
    intro H locs ls hP hD hS hl
    refine lv_iconst (v := 0) hx hb dX10_note_49 (by decide) ?_
    refine lv_istore_n (lv' := [(1, .int (0 : Int32)), (0, .ref h0)]) hx hb dX10_note_50 rfl hl (by decide) rfl (fun ls hl => ?_)
    have LP_184 : ∀ (n : Nat) (x1_51 : Int32) (v_undos_51 : (Nat → Int64)) (w : (Nat → Int64)) (H : Heap) (locs : List Loc) (ls : Array Slot), L_X10_note_51 v_was v_170 n x1_51 v_undos_51 = some w → va_P (dC, dI) vwCl [(h0, .inr (8, [.ref q_now, .ref q_text, .int v_typed, .ref q_row, .int v_rowMany, .int v_thrown, .int v_length, .int v_at, .int v_wrong, .ref q_read, .ref q_ranks, .ref q_distinct, .ref q_proper, .int v_properMany, .ref q_line, .ref q_order, .int v_orderMany, .ref q_then, .ref q_bestOrder, .ref q_lineThen, .ref q_undos, .ref q_was, .int v_170.1, .int v_drawn, .ref q_kept, .ref q_isKept])), (q_undos, .inl (cJ, 960, .inr (.inl v_undos_51))), (q_was, .inl (cJ, 120, .inr (.inl v_was)))] H → va_D A [(h0, .inr (8, [.ref q_now, .ref q_text, .int v_typed, .ref q_row, .int v_rowMany, .int v_thrown, .int v_length, .int v_at, .int v_wrong, .ref q_read, .ref q_ranks, .ref q_distinct, .ref q_proper, .int v_properMany, .ref q_line, .ref q_order, .int v_orderMany, .ref q_then, .ref q_bestOrder, .ref q_lineThen, .ref q_undos, .ref q_was, .int v_170.1, .int v_drawn, .ref q_kept, .ref q_isKept])), (q_undos, .inl (cJ, 960, .inr (.inl v_undos_51))), (q_was, .inl (cJ, 120, .inr (.inl v_was)))] → va_S A s.heap H locs → lv_has ls 2 [(0, .ref h0), (1, .int x1_51)] → (∀ (H : Heap) (locs : List Loc) (ls : Array Slot), va_P (dC, dI) vwCl [(h0, .inr (8, [.ref q_now, .ref q_text, .int v_typed, .ref q_row, .int v_rowMany, .int v_thrown, .int v_length, .int v_at, .int v_wrong, .ref q_read, .ref q_ranks, .ref q_distinct, .ref q_proper, .int v_properMany, .ref q_line, .ref q_order, .int v_orderMany, .ref q_then, .ref q_bestOrder, .ref q_lineThen, .ref q_undos, .ref q_was, .int v_170.1, .int v_drawn, .ref q_kept, .ref q_isKept])), (q_undos, .inl (cJ, 960, .inr (.inl w))), (q_was, .inl (cJ, 120, .inr (.inl v_was)))] H → va_D A [(h0, .inr (8, [.ref q_now, .ref q_text, .int v_typed, .ref q_row, .int v_rowMany, .int v_thrown, .int v_length, .int v_at, .int v_wrong, .ref q_read, .ref q_ranks, .ref q_distinct, .ref q_proper, .int v_properMany, .ref q_line, .ref q_order, .int v_orderMany, .ref q_then, .ref q_bestOrder, .ref q_lineThen, .ref q_undos, .ref q_was, .int v_170.1, .int v_drawn, .ref q_kept, .ref q_isKept])), (q_undos, .inl (cJ, 960, .inr (.inl w))), (q_was, .inl (cJ, 120, .inr (.inl v_was)))] → va_S A s.heap H locs → lv_has ls 2 [(0, .ref h0)] → W p l e rm_X10_note s m args below meth c H locs 0 0 QQ (F0 m 83 ls [])) → W p l e rm_X10_note s m args below meth c H locs 0 0 QQ (F0 m 51 ls []) := by
      intro n
      induction n with
      | zero => intro x1_51 v_undos_51 w H locs ls h; exact absurd (show none = some w from h) nofun
      | succ n ih =>
        intro x1_51 v_undos_51 w H locs ls h hP hD hS hl K
        rw [L_X10_note_51] at h
        refine lv_iload_n hx hb dX10_note_51 rfl (lv_at hl 1 rfl) ?_
        refine lv_bipush (v := 120) hx hb dX10_note_52 (by decide) ?_
        refine lv_icmp_ge (tgt := 83) hx hb dX10_note_54 (by decide) (fun c_181 => ?_) (fun c_181 => ?_)
        · replace h := op c_181 h
          have ho := Option.some.inj h
          subst ho
          exact K H _ ls hP hD hS (lv_sub hl [0] rfl)
        · replace h := on c_181 h
          refine lv_aload_n hx hb dX10_note_57 rfl (lv_at hl 0 rfl) ?_
          refine va_get (D := (dC, dI)) (ci := 8) (v := .ref q_undos) (C := RX10) (T := TX10) (N := 26) hx hb hts hi_X10 hown hK hP 0 rfl rfl 20 (by decide) (hts _ (List.mem_of_getElem? (i := 2) rfl)) (fun _ h9 => h9) rfl dX10_note_58 ?_
          refine lv_bipush (v := 120) hx hb dX10_note_61 (by decide) ?_
          refine lv_aload_n hx hb dX10_note_63 rfl (lv_at hl 0 rfl) ?_
          refine va_get (D := (dC, dI)) (ci := 8) (v := .int v_170.1) (C := RX10) (T := TX10) (N := 26) hx hb hts hi_X10 hown hK hP 0 rfl rfl 22 (by decide) (hts _ (List.mem_of_getElem? (i := 1) rfl)) (fun _ h9 => h9) rfl dX10_note_64 ?_
          refine lv_imul hx hb dX10_note_67 ?_
          refine lv_iload_n hx hb dX10_note_68 rfl (lv_at hl 1 rfl) ?_
          refine lv_iadd hx hb dX10_note_69 ?_
          refine lv_aload_n hx hb dX10_note_70 rfl (lv_at hl 0 rfl) ?_
          refine va_get (D := (dC, dI)) (ci := 8) (v := .ref q_was) (C := RX10) (T := TX10) (N := 26) hx hb hts hi_X10 hown hK hP 0 rfl rfl 21 (by decide) (hts _ (List.mem_of_getElem? (i := 3) rfl)) (fun _ h9 => h9) rfl dX10_note_71 ?_
          refine lv_iload_n hx hb dX10_note_74 rfl (lv_at hl 1 rfl) ?_
          obtain ⟨hi_182, h⟩ := og h
          refine va_lald hx hb hK hP 2 1 rfl rfl hi_182 dX10_note_75 ?_
          obtain ⟨hi_183, h⟩ := og h
          refine va_last hx hb hK hP hD hS 1 1 rfl rfl hi_183 dX10_note_76 (fun H locs hP hD hS => ?_)
          replace hP : va_P (dC, dI) vwCl [(h0, .inr (8, [.ref q_now, .ref q_text, .int v_typed, .ref q_row, .int v_rowMany, .int v_thrown, .int v_length, .int v_at, .int v_wrong, .ref q_read, .ref q_ranks, .ref q_distinct, .ref q_proper, .int v_properMany, .ref q_line, .ref q_order, .int v_orderMany, .ref q_then, .ref q_bestOrder, .ref q_lineThen, .ref q_undos, .ref q_was, .int v_170.1, .int v_drawn, .ref q_kept, .ref q_isKept])), (q_undos, .inl (cJ, 960, .inr (.inl (vp_updL v_undos_51 ((((120 : Int32) * v_170.1) + x1_51)).toNatClampNeg (v_was (x1_51).toNatClampNeg))))), (q_was, .inl (cJ, 120, .inr (.inl v_was)))] H := hP
          replace hD : va_D A [(h0, .inr (8, [.ref q_now, .ref q_text, .int v_typed, .ref q_row, .int v_rowMany, .int v_thrown, .int v_length, .int v_at, .int v_wrong, .ref q_read, .ref q_ranks, .ref q_distinct, .ref q_proper, .int v_properMany, .ref q_line, .ref q_order, .int v_orderMany, .ref q_then, .ref q_bestOrder, .ref q_lineThen, .ref q_undos, .ref q_was, .int v_170.1, .int v_drawn, .ref q_kept, .ref q_isKept])), (q_undos, .inl (cJ, 960, .inr (.inl (vp_updL v_undos_51 ((((120 : Int32) * v_170.1) + x1_51)).toNatClampNeg (v_was (x1_51).toNatClampNeg))))), (q_was, .inl (cJ, 120, .inr (.inl v_was)))] := hD
          refine lv_iinc (v := (x1_51 + 1)) (lv' := [(1, .int (x1_51 + 1)), (0, .ref h0)]) hx hb dX10_note_77 hl (k := 1) rfl (by rfl) (by decide) rfl (fun ls hl => ?_)
          refine lv_goto (tgt := 51) hx hb dX10_note_80 (by decide) ?_
          exact ih (x1_51 + 1) (vp_updL v_undos_51 ((((120 : Int32) * v_170.1) + x1_51)).toNatClampNeg (v_was (x1_51).toNatClampNeg)) w H _ ls h hP hD hS (lv_sub hl [1, 0] rfl) K
    obtain ⟨w_184, hw_184, h⟩ := ob h
    refine LP_184 fu (0 : Int32) v_170.2 w_184 H _ ls hw_184 hP hD hS (lv_sub hl [1, 0] rfl) (fun H locs ls hP hD hS hl => ?_)
    refine lv_aload_n hx hb dX10_note_83 rfl (lv_at hl 0 rfl) ?_
    refine lv_dup hx hb dX10_note_84 rfl ?_
    refine va_get (D := (dC, dI)) (ci := 8) (v := .int v_170.1) (C := RX10) (T := TX10) (N := 26) hx hb hts hi_X10 hown hK hP 0 rfl rfl 22 (by decide) (hts _ (List.mem_of_getElem? (i := 1) rfl)) (fun _ h9 => h9) rfl dX10_note_85 ?_
    refine lv_iconst (v := 1) hx hb dX10_note_88 (by decide) ?_
    refine lv_iadd hx hb dX10_note_89 ?_
    refine va_put (D := (dC, dI)) (ci := 8) (v := .int (v_170.1 + (1 : Int32))) (ty := .int) (C := RX10) (T := TX10) (N := 26) hx hb hts hi_X10 tyX10 tyX10_ok nmX10 hown hK hP hD hS 0 rfl rfl 22 (by decide) (hts _ (List.mem_of_getElem? (i := 1) rfl)) (fun _ h9 => h9) rfl (by decide +kernel) rfl rfl (Nat.le_of_ble_eq_true rfl) dX10_note_90 (fun H locs hP hD hS => ?_)
    replace hP : va_P (dC, dI) vwCl [(h0, .inr (8, [.ref q_now, .ref q_text, .int v_typed, .ref q_row, .int v_rowMany, .int v_thrown, .int v_length, .int v_at, .int v_wrong, .ref q_read, .ref q_ranks, .ref q_distinct, .ref q_proper, .int v_properMany, .ref q_line, .ref q_order, .int v_orderMany, .ref q_then, .ref q_bestOrder, .ref q_lineThen, .ref q_undos, .ref q_was, .int (v_170.1 + (1 : Int32)), .int v_drawn, .ref q_kept, .ref q_isKept])), (q_undos, .inl (cJ, 960, .inr (.inl w_184))), (q_was, .inl (cJ, 120, .inr (.inl v_was)))] H := hP
    replace hD : va_D A [(h0, .inr (8, [.ref q_now, .ref q_text, .int v_typed, .ref q_row, .int v_rowMany, .int v_thrown, .int v_length, .int v_at, .int v_wrong, .ref q_read, .ref q_ranks, .ref q_distinct, .ref q_proper, .int v_properMany, .ref q_line, .ref q_order, .int v_orderMany, .ref q_then, .ref q_bestOrder, .ref q_lineThen, .ref q_undos, .ref q_was, .int (v_170.1 + (1 : Int32)), .int v_drawn, .ref q_kept, .ref q_isKept])), (q_undos, .inl (cJ, 960, .inr (.inl w_184))), (q_was, .inl (cJ, 120, .inr (.inl v_was)))] := hD
    rw [hQQ]
    have ho := Option.some.inj h
    subst ho
    exact W.vret hx hb hr (fun t ht hW => ⟨⟨(), rfl, trivial, by rw [ht]; exact hP, va_K.moved hW.alike hK, hD⟩, hS.F ht⟩) hS.2.2 dX10_note_93
  replace h := hv_170
  refine lv_icmp_ne (tgt := 49) hx hb dX10_note_6 (by decide) (fun c_176 => ?_) (fun c_176 => ?_)
  · replace h := on c_176 h
    have ho := Option.some.inj h
    subst ho
    exact J_170 s.heap _ ls hP hD hS (lv_sub hl [0] rfl)
  · replace h := op c_176 h
    refine lv_iconst (v := 0) hx hb dX10_note_9 (by decide) ?_
    refine lv_istore_n (lv' := [(1, .int (0 : Int32)), (0, .ref h0)]) hx hb dX10_note_10 rfl hl (by decide) rfl (fun ls hl => ?_)
    have LP_180 : ∀ (n : Nat) (x1_11 : Int32) (v_undos_11 : (Nat → Int64)) (w : (Nat → Int64)) (H : Heap) (locs : List Loc) (ls : Array Slot), L_X10_note_11 n x1_11 v_undos_11 = some w → va_P (dC, dI) vwCl [(h0, .inr (8, [.ref q_now, .ref q_text, .int v_typed, .ref q_row, .int v_rowMany, .int v_thrown, .int v_length, .int v_at, .int v_wrong, .ref q_read, .ref q_ranks, .ref q_distinct, .ref q_proper, .int v_properMany, .ref q_line, .ref q_order, .int v_orderMany, .ref q_then, .ref q_bestOrder, .ref q_lineThen, .ref q_undos, .ref q_was, .int v_undoMany, .int v_drawn, .ref q_kept, .ref q_isKept])), (q_undos, .inl (cJ, 960, .inr (.inl v_undos_11))), (q_was, .inl (cJ, 120, .inr (.inl v_was)))] H → va_D A [(h0, .inr (8, [.ref q_now, .ref q_text, .int v_typed, .ref q_row, .int v_rowMany, .int v_thrown, .int v_length, .int v_at, .int v_wrong, .ref q_read, .ref q_ranks, .ref q_distinct, .ref q_proper, .int v_properMany, .ref q_line, .ref q_order, .int v_orderMany, .ref q_then, .ref q_bestOrder, .ref q_lineThen, .ref q_undos, .ref q_was, .int v_undoMany, .int v_drawn, .ref q_kept, .ref q_isKept])), (q_undos, .inl (cJ, 960, .inr (.inl v_undos_11))), (q_was, .inl (cJ, 120, .inr (.inl v_was)))] → va_S A s.heap H locs → lv_has ls 2 [(0, .ref h0), (1, .int x1_11)] → (∀ (H : Heap) (locs : List Loc) (ls : Array Slot), va_P (dC, dI) vwCl [(h0, .inr (8, [.ref q_now, .ref q_text, .int v_typed, .ref q_row, .int v_rowMany, .int v_thrown, .int v_length, .int v_at, .int v_wrong, .ref q_read, .ref q_ranks, .ref q_distinct, .ref q_proper, .int v_properMany, .ref q_line, .ref q_order, .int v_orderMany, .ref q_then, .ref q_bestOrder, .ref q_lineThen, .ref q_undos, .ref q_was, .int v_undoMany, .int v_drawn, .ref q_kept, .ref q_isKept])), (q_undos, .inl (cJ, 960, .inr (.inl w))), (q_was, .inl (cJ, 120, .inr (.inl v_was)))] H → va_D A [(h0, .inr (8, [.ref q_now, .ref q_text, .int v_typed, .ref q_row, .int v_rowMany, .int v_thrown, .int v_length, .int v_at, .int v_wrong, .ref q_read, .ref q_ranks, .ref q_distinct, .ref q_proper, .int v_properMany, .ref q_line, .ref q_order, .int v_orderMany, .ref q_then, .ref q_bestOrder, .ref q_lineThen, .ref q_undos, .ref q_was, .int v_undoMany, .int v_drawn, .ref q_kept, .ref q_isKept])), (q_undos, .inl (cJ, 960, .inr (.inl w))), (q_was, .inl (cJ, 120, .inr (.inl v_was)))] → va_S A s.heap H locs → lv_has ls 2 [(0, .ref h0)] → W p l e rm_X10_note s m args below meth c H locs 0 0 QQ (F0 m 39 ls [])) → W p l e rm_X10_note s m args below meth c H locs 0 0 QQ (F0 m 11 ls []) := by
      intro n
      induction n with
      | zero => intro x1_11 v_undos_11 w H locs ls h; exact absurd (show none = some w from h) nofun
      | succ n ih =>
        intro x1_11 v_undos_11 w H locs ls h hP hD hS hl K
        rw [L_X10_note_11] at h
        refine lv_iload_n hx hb dX10_note_11 rfl (lv_at hl 1 rfl) ?_
        refine lv_sipush (v := 840) hx hb dX10_note_12 (by decide) ?_
        refine lv_icmp_ge (tgt := 39) hx hb dX10_note_15 (by decide) (fun c_177 => ?_) (fun c_177 => ?_)
        · replace h := op c_177 h
          have ho := Option.some.inj h
          subst ho
          exact K H _ ls hP hD hS (lv_sub hl [0] rfl)
        · replace h := on c_177 h
          refine lv_aload_n hx hb dX10_note_18 rfl (lv_at hl 0 rfl) ?_
          refine va_get (D := (dC, dI)) (ci := 8) (v := .ref q_undos) (C := RX10) (T := TX10) (N := 26) hx hb hts hi_X10 hown hK hP 0 rfl rfl 20 (by decide) (hts _ (List.mem_of_getElem? (i := 2) rfl)) (fun _ h9 => h9) rfl dX10_note_19 ?_
          refine lv_iload_n hx hb dX10_note_22 rfl (lv_at hl 1 rfl) ?_
          refine lv_aload_n hx hb dX10_note_23 rfl (lv_at hl 0 rfl) ?_
          refine va_get (D := (dC, dI)) (ci := 8) (v := .ref q_undos) (C := RX10) (T := TX10) (N := 26) hx hb hts hi_X10 hown hK hP 0 rfl rfl 20 (by decide) (hts _ (List.mem_of_getElem? (i := 2) rfl)) (fun _ h9 => h9) rfl dX10_note_24 ?_
          refine lv_iload_n hx hb dX10_note_27 rfl (lv_at hl 1 rfl) ?_
          refine lv_bipush (v := 120) hx hb dX10_note_28 (by decide) ?_
          refine lv_iadd hx hb dX10_note_30 ?_
          obtain ⟨hi_178, h⟩ := og h
          refine va_lald hx hb hK hP 1 1 rfl rfl hi_178 dX10_note_31 ?_
          obtain ⟨hi_179, h⟩ := og h
          refine va_last hx hb hK hP hD hS 1 1 rfl rfl hi_179 dX10_note_32 (fun H locs hP hD hS => ?_)
          replace hP : va_P (dC, dI) vwCl [(h0, .inr (8, [.ref q_now, .ref q_text, .int v_typed, .ref q_row, .int v_rowMany, .int v_thrown, .int v_length, .int v_at, .int v_wrong, .ref q_read, .ref q_ranks, .ref q_distinct, .ref q_proper, .int v_properMany, .ref q_line, .ref q_order, .int v_orderMany, .ref q_then, .ref q_bestOrder, .ref q_lineThen, .ref q_undos, .ref q_was, .int v_undoMany, .int v_drawn, .ref q_kept, .ref q_isKept])), (q_undos, .inl (cJ, 960, .inr (.inl (vp_updL v_undos_11 (x1_11).toNatClampNeg (v_undos_11 ((x1_11 + (120 : Int32))).toNatClampNeg))))), (q_was, .inl (cJ, 120, .inr (.inl v_was)))] H := hP
          replace hD : va_D A [(h0, .inr (8, [.ref q_now, .ref q_text, .int v_typed, .ref q_row, .int v_rowMany, .int v_thrown, .int v_length, .int v_at, .int v_wrong, .ref q_read, .ref q_ranks, .ref q_distinct, .ref q_proper, .int v_properMany, .ref q_line, .ref q_order, .int v_orderMany, .ref q_then, .ref q_bestOrder, .ref q_lineThen, .ref q_undos, .ref q_was, .int v_undoMany, .int v_drawn, .ref q_kept, .ref q_isKept])), (q_undos, .inl (cJ, 960, .inr (.inl (vp_updL v_undos_11 (x1_11).toNatClampNeg (v_undos_11 ((x1_11 + (120 : Int32))).toNatClampNeg))))), (q_was, .inl (cJ, 120, .inr (.inl v_was)))] := hD
          refine lv_iinc (v := (x1_11 + 1)) (lv' := [(1, .int (x1_11 + 1)), (0, .ref h0)]) hx hb dX10_note_33 hl (k := 1) rfl (by rfl) (by decide) rfl (fun ls hl => ?_)
          refine lv_goto (tgt := 11) hx hb dX10_note_36 (by decide) ?_
          exact ih (x1_11 + 1) (vp_updL v_undos_11 (x1_11).toNatClampNeg (v_undos_11 ((x1_11 + (120 : Int32))).toNatClampNeg)) w H _ ls h hP hD hS (lv_sub hl [1, 0] rfl) K
    obtain ⟨w_180, hw_180, h⟩ := ob h
    refine LP_180 fu (0 : Int32) v_undos w_180 s.heap _ ls hw_180 hP hD hS (lv_sub hl [1, 0] rfl) (fun H locs ls hP hD hS hl => ?_)
    refine lv_aload_n hx hb dX10_note_39 rfl (lv_at hl 0 rfl) ?_
    refine lv_dup hx hb dX10_note_40 rfl ?_
    refine va_get (D := (dC, dI)) (ci := 8) (v := .int v_undoMany) (C := RX10) (T := TX10) (N := 26) hx hb hts hi_X10 hown hK hP 0 rfl rfl 22 (by decide) (hts _ (List.mem_of_getElem? (i := 1) rfl)) (fun _ h9 => h9) rfl dX10_note_41 ?_
    refine lv_iconst (v := 1) hx hb dX10_note_44 (by decide) ?_
    refine lv_isub hx hb dX10_note_45 ?_
    refine va_put (D := (dC, dI)) (ci := 8) (v := .int (v_undoMany - (1 : Int32))) (ty := .int) (C := RX10) (T := TX10) (N := 26) hx hb hts hi_X10 tyX10 tyX10_ok nmX10 hown hK hP hD hS 0 rfl rfl 22 (by decide) (hts _ (List.mem_of_getElem? (i := 1) rfl)) (fun _ h9 => h9) rfl (by decide +kernel) rfl rfl (Nat.le_of_ble_eq_true rfl) dX10_note_46 (fun H locs hP hD hS => ?_)
    replace hP : va_P (dC, dI) vwCl [(h0, .inr (8, [.ref q_now, .ref q_text, .int v_typed, .ref q_row, .int v_rowMany, .int v_thrown, .int v_length, .int v_at, .int v_wrong, .ref q_read, .ref q_ranks, .ref q_distinct, .ref q_proper, .int v_properMany, .ref q_line, .ref q_order, .int v_orderMany, .ref q_then, .ref q_bestOrder, .ref q_lineThen, .ref q_undos, .ref q_was, .int (v_undoMany - (1 : Int32)), .int v_drawn, .ref q_kept, .ref q_isKept])), (q_undos, .inl (cJ, 960, .inr (.inl w_180))), (q_was, .inl (cJ, 120, .inr (.inl v_was)))] H := hP
    replace hD : va_D A [(h0, .inr (8, [.ref q_now, .ref q_text, .int v_typed, .ref q_row, .int v_rowMany, .int v_thrown, .int v_length, .int v_at, .int v_wrong, .ref q_read, .ref q_ranks, .ref q_distinct, .ref q_proper, .int v_properMany, .ref q_line, .ref q_order, .int v_orderMany, .ref q_then, .ref q_bestOrder, .ref q_lineThen, .ref q_undos, .ref q_was, .int (v_undoMany - (1 : Int32)), .int v_drawn, .ref q_kept, .ref q_isKept])), (q_undos, .inl (cJ, 960, .inr (.inl w_180))), (q_was, .inl (cJ, 120, .inr (.inl v_was)))] := hD
    have ho := Option.some.inj h
    subst ho
    exact J_170 H _ ls hP hD hS (lv_sub hl [0] rfl)
def f_X10_change (v_undoMany : Int32) (v_now : Nat → Int64) (v_undos : Nat → Int64) (v_was : Nat → Int64) : Option (Int32 × (Nat → Int64) × (Nat → Int64)) :=
  ((f_X10_lay v_now v_was).bind (fun o_185 => ((f_X10_note v_undoMany v_undos o_185).bind (fun o_187 => (some (o_187.1, o_187.2, o_185))))))
abbrev rm_X10_change : Room := { frames := 1, cells := 0, slots := 0, locals := 21 }
set_option maxHeartbeats 4000000 in
set_option maxRecDepth 100000 in
theorem c_X10_change (l : Launch) (dC : Nat → ClassId) (dI : Nat → Nat → Nat) (cB cC cI cJ cZ cT : ClassId) (h0 q_now q_text q_row q_read q_ranks q_distinct q_proper q_line q_order q_then q_bestOrder q_lineThen q_undos q_was q_kept q_isKept : Nat) (sz : Nat) (v_typed : Int32) (v_rowMany : Int32) (v_thrown : Int32) (v_length : Int32) (v_at : Int32) (v_wrong : Int32) (v_properMany : Int32) (v_orderMany : Int32) (v_undoMany : Int32) (v_drawn : Int32) (v_now : Nat → Int64) (v_undos : Nat → Int64) (v_was : Nat → Int64) (o : (Int32 × (Nat → Int64) × (Nat → Int64))) (hf : f_X10_change v_undoMany v_now v_undos v_was = some o) : Met l yX10_change wsX10_change rm_X10_change (va_Pc [.ref h0] (fun U => U.heap.size = sz ∧ va_P (dC, dI) vwCl [(h0, .inr (8, [.ref q_now, .ref q_text, .int v_typed, .ref q_row, .int v_rowMany, .int v_thrown, .int v_length, .int v_at, .int v_wrong, .ref q_read, .ref q_ranks, .ref q_distinct, .ref q_proper, .int v_properMany, .ref q_line, .ref q_order, .int v_orderMany, .ref q_then, .ref q_bestOrder, .ref q_lineThen, .ref q_undos, .ref q_was, .int v_undoMany, .int v_drawn, .ref q_kept, .ref q_isKept])), (q_now, .inl (cJ, 120, .inr (.inl v_now))), (q_undos, .inl (cJ, 960, .inr (.inl v_undos))), (q_was, .inl (cJ, 120, .inr (.inl v_was)))] U.heap ∧ va_K (dC, dI) vwCl (tyA cB cC cI cJ cZ cT) U ∧ va_D (fun _ => True) [(h0, .inr (8, [.ref q_now, .ref q_text, .int v_typed, .ref q_row, .int v_rowMany, .int v_thrown, .int v_length, .int v_at, .int v_wrong, .ref q_read, .ref q_ranks, .ref q_distinct, .ref q_proper, .int v_properMany, .ref q_line, .ref q_order, .int v_orderMany, .ref q_then, .ref q_bestOrder, .ref q_lineThen, .ref q_undos, .ref q_was, .int v_undoMany, .int v_drawn, .ref q_kept, .ref q_isKept])), (q_now, .inl (cJ, 120, .inr (.inl v_now))), (q_undos, .inl (cJ, 960, .inr (.inl v_undos))), (q_was, .inl (cJ, 120, .inr (.inl v_was)))])) (va_Qv (fun _ : Unit => True) (fun _ t => va_P (dC, dI) vwCl [(h0, .inr (8, [.ref q_now, .ref q_text, .int v_typed, .ref q_row, .int v_rowMany, .int v_thrown, .int v_length, .int v_at, .int v_wrong, .ref q_read, .ref q_ranks, .ref q_distinct, .ref q_proper, .int v_properMany, .ref q_line, .ref q_order, .int v_orderMany, .ref q_then, .ref q_bestOrder, .ref q_lineThen, .ref q_undos, .ref q_was, .int o.1, .int v_drawn, .ref q_kept, .ref q_isKept])), (q_now, .inl (cJ, 120, .inr (.inl v_now))), (q_undos, .inl (cJ, 960, .inr (.inl o.2.1))), (q_was, .inl (cJ, 120, .inr (.inl o.2.2)))] t.heap ∧ va_K (dC, dI) vwCl (tyA cB cC cI cJ cZ cT) t ∧ va_D (va_A [(h0, .inr (8, [.ref q_now, .ref q_text, .int v_typed, .ref q_row, .int v_rowMany, .int v_thrown, .int v_length, .int v_at, .int v_wrong, .ref q_read, .ref q_ranks, .ref q_distinct, .ref q_proper, .int v_properMany, .ref q_line, .ref q_order, .int v_orderMany, .ref q_then, .ref q_bestOrder, .ref q_lineThen, .ref q_undos, .ref q_was, .int v_undoMany, .int v_drawn, .ref q_kept, .ref q_isKept])), (q_now, .inl (cJ, 120, .inr (.inl v_now))), (q_undos, .inl (cJ, 960, .inr (.inl v_undos))), (q_was, .inl (cJ, 120, .inr (.inl v_was)))] sz) [(h0, .inr (8, [.ref q_now, .ref q_text, .int v_typed, .ref q_row, .int v_rowMany, .int v_thrown, .int v_length, .int v_at, .int v_wrong, .ref q_read, .ref q_ranks, .ref q_distinct, .ref q_proper, .int v_properMany, .ref q_line, .ref q_order, .int v_orderMany, .ref q_then, .ref q_bestOrder, .ref q_lineThen, .ref q_undos, .ref q_was, .int o.1, .int v_drawn, .ref q_kept, .ref q_isKept])), (q_now, .inl (cJ, 120, .inr (.inl v_now))), (q_undos, .inl (cJ, 960, .inr (.inl o.2.1))), (q_was, .inl (cJ, 120, .inr (.inl o.2.2)))]) (va_A [(h0, .inr (8, [.ref q_now, .ref q_text, .int v_typed, .ref q_row, .int v_rowMany, .int v_thrown, .int v_length, .int v_at, .int v_wrong, .ref q_read, .ref q_ranks, .ref q_distinct, .ref q_proper, .int v_properMany, .ref q_line, .ref q_order, .int v_orderMany, .ref q_then, .ref q_bestOrder, .ref q_lineThen, .ref q_undos, .ref q_was, .int v_undoMany, .int v_drawn, .ref q_kept, .ref q_isKept])), (q_now, .inl (cJ, 120, .inr (.inl v_now))), (q_undos, .inl (cJ, 960, .inr (.inl v_undos))), (q_was, .inl (cJ, 120, .inr (.inl v_was)))] sz)) 0 0 (va_A [(h0, .inr (8, [.ref q_now, .ref q_text, .int v_typed, .ref q_row, .int v_rowMany, .int v_thrown, .int v_length, .int v_at, .int v_wrong, .ref q_read, .ref q_ranks, .ref q_distinct, .ref q_proper, .int v_properMany, .ref q_line, .ref q_order, .int v_orderMany, .ref q_then, .ref q_bestOrder, .ref q_lineThen, .ref q_undos, .ref q_was, .int v_undoMany, .int v_drawn, .ref q_kept, .ref q_isKept])), (q_now, .inl (cJ, 120, .inr (.inl v_now))), (q_undos, .inl (cJ, 960, .inr (.inl v_undos))), (q_was, .inl (cJ, 120, .inr (.inl v_was)))] sz) := by
  refine Met.ofW (cc := cX10_change) (maxL := 1) (ret := none) (by decide +kernel) rfl ?_
  intro p e s m args below meth c s₁ B hml hv
  obtain ⟨hav, hsz, hP, hK, hD0⟩ := hv
  have hx := B.exec
  have hb := B.bytes
  have hr := B.returns
  have hts := atoms_spec (ws := wsX10_change) B.pre
  have hown : s.vm.findClass RX10 = some m.cls := findClass_of_methodNamed B.named
  have hlocks := B.notSynchronized
  subst hsz
  have hD := hD0.self (sz := s.heap.size)
  generalize hAe : va_A [(h0, .inr (8, [.ref q_now, .ref q_text, .int v_typed, .ref q_row, .int v_rowMany, .int v_thrown, .int v_length, .int v_at, .int v_wrong, .ref q_read, .ref q_ranks, .ref q_distinct, .ref q_proper, .int v_properMany, .ref q_line, .ref q_order, .int v_orderMany, .ref q_then, .ref q_bestOrder, .ref q_lineThen, .ref q_undos, .ref q_was, .int v_undoMany, .int v_drawn, .ref q_kept, .ref q_isKept])), (q_now, .inl (cJ, 120, .inr (.inl v_now))), (q_undos, .inl (cJ, 960, .inr (.inl v_undos))), (q_was, .inl (cJ, 120, .inr (.inl v_was)))] s.heap.size = A at hD ⊢
  have hA : ∀ q : Nat, s.heap.size ≤ q → A q := fun q h => by rw [← hAe]; exact Or.inr h
  have hS : va_S A s.heap s.heap [] := va_S.rf
  refine wstart (rm := rm_X10_change) hav (Nat.le_of_ble_eq_true rfl) (fun QQ ls hQQ hl => ?_)
  have hl : lv_has ls 1 [(0, .ref h0)] := hl
  have h := hf
  unfold f_X10_change at h
  refine lv_aload_n hx hb dX10_change_0 rfl (lv_at hl 0 rfl) ?_
  obtain ⟨o_185, hr_185, h⟩ := ob h
  have hPc := hP.sub (ws' := [(h0, .inr (8, [.ref q_now, .ref q_text, .int v_typed, .ref q_row, .int v_rowMany, .int v_thrown, .int v_length, .int v_at, .int v_wrong, .ref q_read, .ref q_ranks, .ref q_distinct, .ref q_proper, .int v_properMany, .ref q_line, .ref q_order, .int v_orderMany, .ref q_then, .ref q_bestOrder, .ref q_lineThen, .ref q_undos, .ref q_was, .int v_undoMany, .int v_drawn, .ref q_kept, .ref q_isKept])), (q_now, .inl (cJ, 120, .inr (.inl v_now))), (q_was, .inl (cJ, 120, .inr (.inl v_was)))]) [0, 1, 3] rfl
  have hDc := hD.sub (ws' := [(h0, .inr (8, [.ref q_now, .ref q_text, .int v_typed, .ref q_row, .int v_rowMany, .int v_thrown, .int v_length, .int v_at, .int v_wrong, .ref q_read, .ref q_ranks, .ref q_distinct, .ref q_proper, .int v_properMany, .ref q_line, .ref q_order, .int v_orderMany, .ref q_then, .ref q_bestOrder, .ref q_lineThen, .ref q_undos, .ref q_was, .int v_undoMany, .int v_drawn, .ref q_kept, .ref q_isKept])), (q_now, .inl (cJ, 120, .inr (.inl v_now))), (q_was, .inl (cJ, 120, .inr (.inl v_was)))]) [0, 1, 3] (by decide) rfl
  have hFc := va_free (wc := [(h0, .inr (8, [.ref q_now, .ref q_text, .int v_typed, .ref q_row, .int v_rowMany, .int v_thrown, .int v_length, .int v_at, .int v_wrong, .ref q_read, .ref q_ranks, .ref q_distinct, .ref q_proper, .int v_properMany, .ref q_line, .ref q_order, .int v_orderMany, .ref q_then, .ref q_bestOrder, .ref q_lineThen, .ref q_undos, .ref q_was, .int v_undoMany, .int v_drawn, .ref q_kept, .ref q_isKept])), (q_now, .inl (cJ, 120, .inr (.inl v_now))), (q_was, .inl (cJ, 120, .inr (.inl v_was)))]) hD hS hA [0, 1, 3] rfl
  refine va_callv (va_runV (As := []) (rest := []) ⟨hx, hb, hml, hown, hts⟩ (c_X10_lay l dC dI cB cC cI cJ cZ cT h0 q_now q_text q_row q_read q_ranks q_distinct q_proper q_line q_order q_then q_bestOrder q_lineThen q_undos q_was q_kept q_isKept s.heap.size v_typed v_rowMany v_thrown v_length v_at v_wrong v_properMany v_orderMany v_undoMany v_drawn v_now v_was o_185 hr_185) (cwV 0 hts gX10_change_X10_lay rfl rfl rfl (by decide +kernel) ⟨Nat.le_of_ble_eq_true rfl, Nat.le_of_ble_eq_true rfl⟩) ⟨blW, va_recv hK hP (ci := 8) (q0 := 0) rfl rfl, fun U hU hW => ⟨rfl, by rw [hU], by rw [hU]; exact hPc, va_K.moved hW.alike hK, hDc.weaken (fun _ _ _ _ => trivial)⟩⟩ rfl rfl hl.1 rfl (lv_room (Nat.le_of_ble_eq_true rfl)) dX10_change_1 ⟨Nat.le_of_ble_eq_true rfl, Nat.le_of_ble_eq_true rfl⟩) hS (fun q _ h => hFc q h) hFc (fun u_185 t_185 H locs ht hvm e_185 hB hz1 hk1 hS => ?_)
  obtain ⟨hP1, -, hD1⟩ := hB
  rw [ht] at hP1
  obtain ⟨hP, hD⟩ := va_join (wr := [(q_undos, .inl (cJ, 960, .inr (.inl v_undos)))]) (w1 := [(h0, .inr (8, [.ref q_now, .ref q_text, .int v_typed, .ref q_row, .int v_rowMany, .int v_thrown, .int v_length, .int v_at, .int v_wrong, .ref q_read, .ref q_ranks, .ref q_distinct, .ref q_proper, .int v_properMany, .ref q_line, .ref q_order, .int v_orderMany, .ref q_then, .ref q_bestOrder, .ref q_lineThen, .ref q_undos, .ref q_was, .int v_undoMany, .int v_drawn, .ref q_kept, .ref q_isKept])), (q_now, .inl (cJ, 120, .inr (.inl v_now))), (q_was, .inl (cJ, 120, .inr (.inl o_185)))]) hP hD [0, 1, 3] [2] rfl rfl (by decide) (by decide) hk1 hFc hP1 hD1
  replace hP := hP.sub (ws' := [(h0, .inr (8, [.ref q_now, .ref q_text, .int v_typed, .ref q_row, .int v_rowMany, .int v_thrown, .int v_length, .int v_at, .int v_wrong, .ref q_read, .ref q_ranks, .ref q_distinct, .ref q_proper, .int v_properMany, .ref q_line, .ref q_order, .int v_orderMany, .ref q_then, .ref q_bestOrder, .ref q_lineThen, .ref q_undos, .ref q_was, .int v_undoMany, .int v_drawn, .ref q_kept, .ref q_isKept])), (q_now, .inl (cJ, 120, .inr (.inl v_now))), (q_undos, .inl (cJ, 960, .inr (.inl v_undos))), (q_was, .inl (cJ, 120, .inr (.inl o_185)))]) [1, 2, 0, 3] rfl
  replace hD := hD.sub (ws' := [(h0, .inr (8, [.ref q_now, .ref q_text, .int v_typed, .ref q_row, .int v_rowMany, .int v_thrown, .int v_length, .int v_at, .int v_wrong, .ref q_read, .ref q_ranks, .ref q_distinct, .ref q_proper, .int v_properMany, .ref q_line, .ref q_order, .int v_orderMany, .ref q_then, .ref q_bestOrder, .ref q_lineThen, .ref q_undos, .ref q_was, .int v_undoMany, .int v_drawn, .ref q_kept, .ref q_isKept])), (q_now, .inl (cJ, 120, .inr (.inl v_now))), (q_undos, .inl (cJ, 960, .inr (.inl v_undos))), (q_was, .inl (cJ, 120, .inr (.inl o_185)))]) [1, 2, 0, 3] (by decide) rfl
  refine lv_aload_n hx hb dX10_change_4 rfl (lv_at hl 0 rfl) ?_
  obtain ⟨o_187, hr_187, h⟩ := ob h
  have hPc := hP.sub (ws' := [(h0, .inr (8, [.ref q_now, .ref q_text, .int v_typed, .ref q_row, .int v_rowMany, .int v_thrown, .int v_length, .int v_at, .int v_wrong, .ref q_read, .ref q_ranks, .ref q_distinct, .ref q_proper, .int v_properMany, .ref q_line, .ref q_order, .int v_orderMany, .ref q_then, .ref q_bestOrder, .ref q_lineThen, .ref q_undos, .ref q_was, .int v_undoMany, .int v_drawn, .ref q_kept, .ref q_isKept])), (q_undos, .inl (cJ, 960, .inr (.inl v_undos))), (q_was, .inl (cJ, 120, .inr (.inl o_185)))]) [0, 2, 3] rfl
  have hDc := hD.sub (ws' := [(h0, .inr (8, [.ref q_now, .ref q_text, .int v_typed, .ref q_row, .int v_rowMany, .int v_thrown, .int v_length, .int v_at, .int v_wrong, .ref q_read, .ref q_ranks, .ref q_distinct, .ref q_proper, .int v_properMany, .ref q_line, .ref q_order, .int v_orderMany, .ref q_then, .ref q_bestOrder, .ref q_lineThen, .ref q_undos, .ref q_was, .int v_undoMany, .int v_drawn, .ref q_kept, .ref q_isKept])), (q_undos, .inl (cJ, 960, .inr (.inl v_undos))), (q_was, .inl (cJ, 120, .inr (.inl o_185)))]) [0, 2, 3] (by decide) rfl
  have hFc := va_free (wc := [(h0, .inr (8, [.ref q_now, .ref q_text, .int v_typed, .ref q_row, .int v_rowMany, .int v_thrown, .int v_length, .int v_at, .int v_wrong, .ref q_read, .ref q_ranks, .ref q_distinct, .ref q_proper, .int v_properMany, .ref q_line, .ref q_order, .int v_orderMany, .ref q_then, .ref q_bestOrder, .ref q_lineThen, .ref q_undos, .ref q_was, .int v_undoMany, .int v_drawn, .ref q_kept, .ref q_isKept])), (q_undos, .inl (cJ, 960, .inr (.inl v_undos))), (q_was, .inl (cJ, 120, .inr (.inl o_185)))]) hD hS hA [0, 2, 3] rfl
  refine va_callv (va_runV (As := []) (rest := []) ⟨hx, hb, hml, hown, hts⟩ (c_X10_note l dC dI cB cC cI cJ cZ cT h0 q_now q_text q_row q_read q_ranks q_distinct q_proper q_line q_order q_then q_bestOrder q_lineThen q_undos q_was q_kept q_isKept H.size v_typed v_rowMany v_thrown v_length v_at v_wrong v_properMany v_orderMany v_undoMany v_drawn v_undos o_185 o_187 hr_187) (cwV 0 hts gX10_change_X10_note rfl rfl rfl (by decide +kernel) ⟨Nat.le_of_ble_eq_true rfl, Nat.le_of_ble_eq_true rfl⟩) ⟨blW, va_recv hK hP (ci := 8) (q0 := 0) rfl rfl, fun U hU hW => ⟨rfl, by rw [hU], by rw [hU]; exact hPc, va_K.moved hW.alike hK, hDc.weaken (fun _ _ _ _ => trivial)⟩⟩ rfl rfl hl.1 rfl (lv_room (Nat.le_of_ble_eq_true rfl)) dX10_change_5 ⟨Nat.le_of_ble_eq_true rfl, Nat.le_of_ble_eq_true rfl⟩) hS (fun q _ h => hFc q h) hFc (fun u_187 t_187 H locs ht hvm e_187 hB hz1 hk1 hS => ?_)
  obtain ⟨hP1, -, hD1⟩ := hB
  rw [ht] at hP1
  obtain ⟨hP, hD⟩ := va_join (wr := [(q_now, .inl (cJ, 120, .inr (.inl v_now)))]) (w1 := [(h0, .inr (8, [.ref q_now, .ref q_text, .int v_typed, .ref q_row, .int v_rowMany, .int v_thrown, .int v_length, .int v_at, .int v_wrong, .ref q_read, .ref q_ranks, .ref q_distinct, .ref q_proper, .int v_properMany, .ref q_line, .ref q_order, .int v_orderMany, .ref q_then, .ref q_bestOrder, .ref q_lineThen, .ref q_undos, .ref q_was, .int o_187.1, .int v_drawn, .ref q_kept, .ref q_isKept])), (q_undos, .inl (cJ, 960, .inr (.inl o_187.2))), (q_was, .inl (cJ, 120, .inr (.inl o_185)))]) hP hD [0, 2, 3] [1] rfl rfl (by decide) (by decide) hk1 hFc hP1 hD1
  replace hP := hP.sub (ws' := [(h0, .inr (8, [.ref q_now, .ref q_text, .int v_typed, .ref q_row, .int v_rowMany, .int v_thrown, .int v_length, .int v_at, .int v_wrong, .ref q_read, .ref q_ranks, .ref q_distinct, .ref q_proper, .int v_properMany, .ref q_line, .ref q_order, .int v_orderMany, .ref q_then, .ref q_bestOrder, .ref q_lineThen, .ref q_undos, .ref q_was, .int o_187.1, .int v_drawn, .ref q_kept, .ref q_isKept])), (q_now, .inl (cJ, 120, .inr (.inl v_now))), (q_undos, .inl (cJ, 960, .inr (.inl o_187.2))), (q_was, .inl (cJ, 120, .inr (.inl o_185)))]) [1, 0, 2, 3] rfl
  replace hD := hD.sub (ws' := [(h0, .inr (8, [.ref q_now, .ref q_text, .int v_typed, .ref q_row, .int v_rowMany, .int v_thrown, .int v_length, .int v_at, .int v_wrong, .ref q_read, .ref q_ranks, .ref q_distinct, .ref q_proper, .int v_properMany, .ref q_line, .ref q_order, .int v_orderMany, .ref q_then, .ref q_bestOrder, .ref q_lineThen, .ref q_undos, .ref q_was, .int o_187.1, .int v_drawn, .ref q_kept, .ref q_isKept])), (q_now, .inl (cJ, 120, .inr (.inl v_now))), (q_undos, .inl (cJ, 960, .inr (.inl o_187.2))), (q_was, .inl (cJ, 120, .inr (.inl o_185)))]) [1, 0, 2, 3] (by decide) rfl
  rw [hQQ]
  have ho := Option.some.inj h
  subst ho
  exact W.vret hx hb hr (fun t ht hW => ⟨⟨(), rfl, trivial, by rw [ht]; exact hP, va_K.moved hW.alike hK, hD⟩, hS.F ht⟩) hS.2.2 dX10_change_8
