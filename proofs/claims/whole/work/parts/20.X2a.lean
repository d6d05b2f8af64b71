def f_X2_addProper (v_size : Int32) (v_columns : Nat → Int32) (v_p1_columns : Int32) (v_p1_kinds : Nat → Int32) (x2 : Int32) : Option (Int32 × (Nat → Int32)) :=
  ((f_X8_isProper v_p1_columns v_p1_kinds x2).bind (fun o_1998 => (if (b2i o_1998) = 0 then (some (v_size, v_columns)) else (if (6 : Int32) ≤ v_size then (some (v_size, v_columns)) else (if v_size < 0 ∨ 6 ≤ (v_size).toNatClampNeg then none else (some ((v_size + (1 : Int32)), (upd v_columns (v_size).toNatClampNeg x2))))))))
abbrev rm_X2_addProper : Room := { frames := 2, cells := 0, slots := 0, locals := 42 }
set_option maxHeartbeats 4000000 in
set_option maxRecDepth 100000 in
theorem c_X2_addProper (l : Launch) (dC : Nat → ClassId) (dI : Nat → Nat → Nat) (cB cC cI cJ cZ cT : ClassId) (h0 q_columns q_p1 q_p1_kinds q_p1_tags q_p1_cells : Nat) (sz : Nat) (v_size : Int32) (v_columns : Nat → Int32) (v_p1_columns : Int32) (v_p1_rows : Int32) (v_p1_kinds : Nat → Int32) (x2 : Int32) (o : (Int32 × (Nat → Int32))) (hf : f_X2_addProper v_size v_columns v_p1_columns v_p1_kinds x2 = some o) : Met l yX2_addProper wsX2_addProper rm_X2_addProper (va_Pc [.ref h0, .ref q_p1, .int x2] (fun U => U.heap.size = sz ∧ va_P (dC, dI) vwCl [(h0, .inr (1, [.ref q_columns, .int v_size])), (q_columns, .inl (cI, 6, .inl v_columns)), (q_p1, .inr (6, [.ref q_p1_kinds, .ref q_p1_tags, .ref q_p1_cells, .int v_p1_columns, .int v_p1_rows])), (q_p1_kinds, .inl (cI, 6, .inl v_p1_kinds))] U.heap ∧ va_K (dC, dI) vwCl (tyA cB cC cI cJ cZ cT) U ∧ va_D (fun _ => True) [(h0, .inr (1, [.ref q_columns, .int v_size])), (q_columns, .inl (cI, 6, .inl v_columns)), (q_p1, .inr (6, [.ref q_p1_kinds, .ref q_p1_tags, .ref q_p1_cells, .int v_p1_columns, .int v_p1_rows])), (q_p1_kinds, .inl (cI, 6, .inl v_p1_kinds))])) (va_Qv (fun _ : Unit => True) (fun _ t => va_P (dC, dI) vwCl [(h0, .inr (1, [.ref q_columns, .int o.1])), (q_columns, .inl (cI, 6, .inl o.2)), (q_p1, .inr (6, [.ref q_p1_kinds, .ref q_p1_tags, .ref q_p1_cells, .int v_p1_columns, .int v_p1_rows])), (q_p1_kinds, .inl (cI, 6, .inl v_p1_kinds))] t.heap ∧ va_K (dC, dI) vwCl (tyA cB cC cI cJ cZ cT) t ∧ va_D (va_A [(h0, .inr (1, [.ref q_columns, .int v_size])), (q_columns, .inl (cI, 6, .inl v_columns)), (q_p1, .inr (6, [.ref q_p1_kinds, .ref q_p1_tags, .ref q_p1_cells, .int v_p1_columns, .int v_p1_rows])), (q_p1_kinds, .inl (cI, 6, .inl v_p1_kinds))] sz) [(h0, .inr (1, [.ref q_columns, .int o.1])), (q_columns, .inl (cI, 6, .inl o.2)), (q_p1, .inr (6, [.ref q_p1_kinds, .ref q_p1_tags, .ref q_p1_cells, .int v_p1_columns, .int v_p1_rows])), (q_p1_kinds, .inl (cI, 6, .inl v_p1_kinds))]) (va_A [(h0, .inr (1, [.ref q_columns, .int v_size])), (q_columns, .inl (cI, 6, .inl v_columns)), (q_p1, .inr (6, [.ref q_p1_kinds, .ref q_p1_tags, .ref q_p1_cells, .int v_p1_columns, .int v_p1_rows])), (q_p1_kinds, .inl (cI, 6, .inl v_p1_kinds))] sz)) 0 0 (va_A [(h0, .inr (1, [.ref q_columns, .int v_size])), (q_columns, .inl (cI, 6, .inl v_columns)), (q_p1, .inr (6, [.ref q_p1_kinds, .ref q_p1_tags, .ref q_p1_cells, .int v_p1_columns, .int v_p1_rows])), (q_p1_kinds, .inl (cI, 6, .inl v_p1_kinds))] sz) := by
  refine Met.ofW (cc := cX2_addProper) (maxL := 3) (ret := none) (by decide +kernel) rfl ?_
  intro p e s m args below meth c s₁ B hml hv
  obtain ⟨hav, hsz, hP, hK, hD0⟩ := hv
  have hx := B.exec
  have hb := B.bytes
  have hr := B.returns
  have hts := atoms_spec (ws := wsX2_addProper) B.pre
  have hown : s.vm.findClass RX2 = some m.cls := findClass_of_methodNamed B.named
  have hlocks := B.notSynchronized
  subst hsz
  have hD := hD0.self (sz := s.heap.size)
  generalize hAe : va_A [(h0, .inr (1, [.ref q_columns, .int v_size])), (q_columns, .inl (cI, 6, .inl v_columns)), (q_p1, .inr (6, [.ref q_p1_kinds, .ref q_p1_tags, .ref q_p1_cells, .int v_p1_columns, .int v_p1_rows])), (q_p1_kinds, .inl (cI, 6, .inl v_p1_kinds))] s.heap.size = A at hD ⊢
  have hA : ∀ q : Nat, s.heap.size ≤ q → A q := fun q h => by rw [← hAe]; exact Or.inr h
  have hS : va_S A s.heap s.heap [] := va_S.rf
  refine wstart (rm := rm_X2_addProper) hav (Nat.le_of_ble_eq_true rfl) (fun QQ ls hQQ hl => ?_)
  have hl : lv_has ls 3 [(0, .ref h0), (1, .ref q_p1), (2, .int x2)] := hl
  have hi_X2 : ∀ w ∈ u_ws RX2 TX2 2, w ∈ wsX2_addProper := by decide +kernel
  have h := hf
  unfold f_X2_addProper at h
  refine lv_aload_n hx hb dX2_addProper_0 rfl (lv_at hl 1 rfl) ?_
  refine lv_iload_n hx hb dX2_addProper_1 rfl (lv_at hl 2 rfl) ?_
  obtain ⟨o_1998, hr_1998, h⟩ := ob h
  refine vp_callSi (va_Run.run (va_runV (As := [.int x2]) (rest := []) ⟨hx, hb, hml, hown, hts⟩ (c_X8_isProper l dC dI cB cC cI cJ cZ cT q_p1 q_p1_kinds q_p1_tags q_p1_cells v_p1_columns v_p1_rows v_p1_kinds x2 o_1998 hr_1998) (cwV 1 hts gX2_addProper_X8_isProper rfl rfl rfl (by decide +kernel) ⟨Nat.le_of_ble_eq_true rfl, Nat.le_of_ble_eq_true rfl⟩) ⟨blR, va_recv hK hP (ci := 6) (q0 := 2) rfl rfl, fun U hU hW => ⟨rfl, by rw [hU]; exact hP.sub [2, 3] rfl, va_K.moved hW.alike hK⟩⟩ rfl rfl hl.1 rfl (lv_room (Nat.le_of_ble_eq_true rfl)) dX2_addProper_2 ⟨Nat.le_of_ble_eq_true rfl, Nat.le_of_ble_eq_true rfl⟩)) (fun r_1998 e_1998 => ?_)
  subst e_1998
  refine lv_if_eq (tgt := 37) hx hb dX2_addProper_5 (by decide) (fun c_2000 => ?_) (fun c_2000 => ?_)
  · replace h := op c_2000 h
    rw [hQQ]
    have ho := Option.some.inj h
    subst ho
    exact W.vret hx hb hr (fun t ht hW => ⟨⟨(), rfl, trivial, by rw [ht]; exact hP, va_K.moved hW.alike hK, hD⟩, hS.F ht⟩) hS.2.2 dX2_addProper_37
  · replace h := on c_2000 h
    refine lv_aload_n hx hb dX2_addProper_8 rfl (lv_at hl 0 rfl) ?_
    refine va_get (D := (dC, dI)) (ci := 1) (v := .int v_size) (C := RX2) (T := TX2) (N := 2) hx hb hts hi_X2 hown hK hP 0 rfl rfl 1 (by decide) (hts _ (List.mem_of_getElem? (i := 1) rfl)) (fun _ h9 => h9) rfl dX2_addProper_9 ?_
    refine lv_bipush (v := 6) hx hb dX2_addProper_12 (by decide) ?_
    refine lv_icmp_ge (tgt := 37) hx hb dX2_addProper_14 (by decide) (fun c_2001 => ?_) (fun c_2001 => ?_)
    · replace h := op c_2001 h
      rw [hQQ]
      have ho := Option.some.inj h
      subst ho
      exact W.vret hx hb hr (fun t ht hW => ⟨⟨(), rfl, trivial, by rw [ht]; exact hP, va_K.moved hW.alike hK, hD⟩, hS.F ht⟩) hS.2.2 dX2_addProper_37
    · replace h := on c_2001 h
      refine lv_aload_n hx hb dX2_addProper_17 rfl (lv_at hl 0 rfl) ?_
      refine va_get (D := (dC, dI)) (ci := 1) (v := .ref q_columns) (C := RX2) (T := TX2) (N := 2) hx hb hts hi_X2 hown hK hP 0 rfl rfl 0 (by decide) (hts _ (List.mem_of_getElem? (i := 2) rfl)) (fun _ h9 => h9) rfl dX2_addProper_18 ?_
      refine lv_aload_n hx hb dX2_addProper_21 rfl (lv_at hl 0 rfl) ?_
      refine va_get (D := (dC, dI)) (ci := 1) (v := .int v_size) (C := RX2) (T := TX2) (N := 2) hx hb hts hi_X2 hown hK hP 0 rfl rfl 1 (by decide) (hts _ (List.mem_of_getElem? (i := 1) rfl)) (fun _ h9 => h9) rfl dX2_addProper_22 ?_
      refine lv_iload_n hx hb dX2_addProper_25 rfl (lv_at hl 2 rfl) ?_
      obtain ⟨hi_2002, h⟩ := og h
      refine va_iast hx hb hK hP hD hS 1 0 rfl rfl hi_2002 dX2_addProper_26 (fun H locs hP hD hS => ?_)
      replace hP : va_P (dC, dI) vwCl [(h0, .inr (1, [.ref q_columns, .int v_size])), (q_columns, .inl (cI, 6, .inl (upd v_columns (v_size).toNatClampNeg x2))), (q_p1, .inr (6, [.ref q_p1_kinds, .ref q_p1_tags, .ref q_p1_cells, .int v_p1_columns, .int v_p1_rows])), (q_p1_kinds, .inl (cI, 6, .inl v_p1_kinds))] H := hP
      replace hD : va_D A [(h0, .inr (1, [.ref q_columns, .int v_size])), (q_columns, .inl (cI, 6, .inl (upd v_columns (v_size).toNatClampNeg x2))), (q_p1, .inr (6, [.ref q_p1_kinds, .ref q_p1_tags, .ref q_p1_cells, .int v_p1_columns, .int v_p1_rows])), (q_p1_kinds, .inl (cI, 6, .inl v_p1_kinds))] := hD
      refine lv_aload_n hx hb dX2_addProper_27 rfl (lv_at hl 0 rfl) ?_
      refine lv_dup hx hb dX2_addProper_28 rfl ?_
      refine va_get (D := (dC, dI)) (ci := 1) (v := .int v_size) (C := RX2) (T := TX2) (N := 2) hx hb hts hi_X2 hown hK hP 0 rfl rfl 1 (by decide) (hts _ (List.mem_of_getElem? (i := 1) rfl)) (fun _ h9 => h9) rfl dX2_addProper_29 ?_
      refine lv_iconst (v := 1) hx hb dX2_addProper_32 (by decide) ?_
      refine lv_iadd hx hb dX2_addProper_33 ?_
      refine va_put (D := (dC, dI)) (ci := 1) (v := .int (v_size + (1 : Int32))) (ty := .int) (C := RX2) (T := TX2) (N := 2) hx hb hts hi_X2 tyX2 tyX2_ok nmX2 hown hK hP hD hS 0 rfl rfl 1 (by decide) (hts _ (List.mem_of_getElem? (i := 1) rfl)) (fun _ h9 => h9) rfl (by decide +kernel) rfl rfl (Nat.le_of_ble_eq_true rfl) dX2_addProper_34 (fun H locs hP hD hS => ?_)
      replace hP : va_P (dC, dI) vwCl [(h0, .inr (1, [.ref q_columns, .int (v_size + (1 : Int32))])), (q_columns, .inl (cI, 6, .inl (upd v_columns (v_size).toNatClampNeg x2))), (q_p1, .inr (6, [.ref q_p1_kinds, .ref q_p1_tags, .ref q_p1_cells, .int v_p1_columns, .int v_p1_rows])), (q_p1_kinds, .inl (cI, 6, .inl v_p1_kinds))] H := hP
      replace hD : va_D A [(h0, .inr (1, [.ref q_columns, .int (v_size + (1 : Int32))])), (q_columns, .inl (cI, 6, .inl (upd v_columns (v_size).toNatClampNeg x2))), (q_p1, .inr (6, [.ref q_p1_kinds, .ref q_p1_tags, .ref q_p1_cells, .int v_p1_columns, .int v_p1_rows])), (q_p1_kinds, .inl (cI, 6, .inl v_p1_kinds))] := hD
      rw [hQQ]
      have ho := Option.some.inj h
      subst ho
      exact W.vret hx hb hr (fun t ht hW => ⟨⟨(), rfl, trivial, by rw [ht]; exact hP, va_K.moved hW.alike hK, hD⟩, hS.F ht⟩) hS.2.2 dX2_addProper_37
def L_X2_readProper_7 (v_p1_columns : Int32) (v_p1_kinds : (Nat → Int32)) : Nat → Int32 → Int32 → (Nat → Int32) → Option (Int32 × (Nat → Int32))
  | 0, _, _, _ => none
  | n+1, x2_7, v_size_7, v_columns_7 => (if v_p1_columns ≤ x2_7 then (some (v_size_7, v_columns_7)) else ((f_X2_addProper v_size_7 v_columns_7 v_p1_columns v_p1_kinds x2_7).bind (fun o_2004 => (L_X2_readProper_7 v_p1_columns v_p1_kinds n (x2_7 + 1) o_2004.1 o_2004.2))))
def f_X2_readProper (v_columns : Nat → Int32) (v_p1_columns : Int32) (v_p1_kinds : Nat → Int32) : Option (Int32 × (Nat → Int32)) :=
  ((L_X2_readProper_7 v_p1_columns v_p1_kinds fu (0 : Int32) (0 : Int32) v_columns).bind (fun w_2006 => (some (w_2006.1, w_2006.2))))
abbrev rm_X2_readProper : Room := { frames := 3, cells := 0, slots := 0, locals := 64 }
set_option maxHeartbeats 4000000 in
set_option maxRecDepth 100000 in
theorem c_X2_readProper (l : Launch) (dC : Nat → ClassId) (dI : Nat → Nat → Nat) (cB cC cI cJ cZ cT : ClassId) (h0 q_columns q_p1 q_p1_kinds q_p1_tags q_p1_cells : Nat) (sz : Nat) (v_size : Int32) (v_columns : Nat → Int32) (v_p1_columns : Int32) (v_p1_rows : Int32) (v_p1_kinds : Nat → Int32) (o : (Int32 × (Nat → Int32))) (hf : f_X2_readProper v_columns v_p1_columns v_p1_kinds = some o) : Met l yX2_readProper wsX2_readProper rm_X2_readProper (va_Pc [.ref h0, .ref q_p1] (fun U => U.heap.size = sz ∧ va_P (dC, dI) vwCl [(h0, .inr (1, [.ref q_columns, .int v_size])), (q_columns, .inl (cI, 6, .inl v_columns)), (q_p1, .inr (6, [.ref q_p1_kinds, .ref q_p1_tags, .ref q_p1_cells, .int v_p1_columns, .int v_p1_rows])), (q_p1_kinds, .inl (cI, 6, .inl v_p1_kinds))] U.heap ∧ va_K (dC, dI) vwCl (tyA cB cC cI cJ cZ cT) U ∧ va_D (fun _ => True) [(h0, .inr (1, [.ref q_columns, .int v_size])), (q_columns, .inl (cI, 6, .inl v_columns)), (q_p1, .inr (6, [.ref q_p1_kinds, .ref q_p1_tags, .ref q_p1_cells, .int v_p1_columns, .int v_p1_rows])), (q_p1_kinds, .inl (cI, 6, .inl v_p1_kinds))])) (va_Qv (fun _ : Unit => True) (fun _ t => va_P (dC, dI) vwCl [(h0, .inr (1, [.ref q_columns, .int o.1])), (q_columns, .inl (cI, 6, .inl o.2)), (q_p1, .inr (6, [.ref q_p1_kinds, .ref q_p1_tags, .ref q_p1_cells, .int v_p1_columns, .int v_p1_rows])), (q_p1_kinds, .inl (cI, 6, .inl v_p1_kinds))] t.heap ∧ va_K (dC, dI) vwCl (tyA cB cC cI cJ cZ cT) t ∧ va_D (va_A [(h0, .inr (1, [.ref q_columns, .int v_size])), (q_columns, .inl (cI, 6, .inl v_columns)), (q_p1, .inr (6, [.ref q_p1_kinds, .ref q_p1_tags, .ref q_p1_cells, .int v_p1_columns, .int v_p1_rows])), (q_p1_kinds, .inl (cI, 6, .inl v_p1_kinds))] sz) [(h0, .inr (1, [.ref q_columns, .int o.1])), (q_columns, .inl (cI, 6, .inl o.2)), (q_p1, .inr (6, [.ref q_p1_kinds, .ref q_p1_tags, .ref q_p1_cells, .int v_p1_columns, .int v_p1_rows])), (q_p1_kinds, .inl (cI, 6, .inl v_p1_kinds))]) (va_A [(h0, .inr (1, [.ref q_columns, .int v_size])), (q_columns, .inl (cI, 6, .inl v_columns)), (q_p1, .inr (6, [.ref q_p1_kinds, .ref q_p1_tags, .ref q_p1_cells, .int v_p1_columns, .int v_p1_rows])), (q_p1_kinds, .inl (cI, 6, .inl v_p1_kinds))] sz)) 0 0 (va_A [(h0, .inr (1, [.ref q_columns, .int v_size])), (q_columns, .inl (cI, 6, .inl v_columns)), (q_p1, .inr (6, [.ref q_p1_kinds, .ref q_p1_tags, .ref q_p1_cells, .int v_p1_columns, .int v_p1_rows])), (q_p1_kinds, .inl (cI, 6, .inl v_p1_kinds))] sz) := by
  refine Met.ofW (cc := cX2_readProper) (maxL := 3) (ret := none) (by decide +kernel) rfl ?_
  intro p e s m args below meth c s₁ B hml hv
  obtain ⟨hav, hsz, hP, hK, hD0⟩ := hv
  have hx := B.exec
  have hb := B.bytes
  have hr := B.returns
  have hts := atoms_spec (ws := wsX2_readProper) B.pre
  have hown : s.vm.findClass RX2 = some m.cls := findClass_of_methodNamed B.named
  have hlocks := B.notSynchronized
  subst hsz
  have hD := hD0.self (sz := s.heap.size)
  generalize hAe : va_A [(h0, .inr (1, [.ref q_columns, .int v_size])), (q_columns, .inl (cI, 6, .inl v_columns)), (q_p1, .inr (6, [.ref q_p1_kinds, .ref q_p1_tags, .ref q_p1_cells, .int v_p1_columns, .int v_p1_rows])), (q_p1_kinds, .inl (cI, 6, .inl v_p1_kinds))] s.heap.size = A at hD ⊢
  have hA : ∀ q : Nat, s.heap.size ≤ q → A q := fun q h => by rw [← hAe]; exact Or.inr h
  have hS : va_S A s.heap s.heap [] := va_S.rf
  refine wstart (rm := rm_X2_readProper) hav (Nat.le_of_ble_eq_true rfl) (fun QQ ls hQQ hl => ?_)
  have hl : lv_has ls 3 [(0, .ref h0), (1, .ref q_p1)] := hl
  have hi_X2 : ∀ w ∈ u_ws RX2 TX2 2, w ∈ wsX2_readProper := by decide +kernel
  have hi_X8 : ∀ w ∈ u_ws RX8 TX8 5, w ∈ wsX2_readProper := by decide +kernel
  have h := hf
  unfold f_X2_readProper at h
  refine lv_aload_n hx hb dX2_readProper_0 rfl (lv_at hl 0 rfl) ?_
  refine lv_iconst (v := 0) hx hb dX2_readProper_1 (by decide) ?_
  refine va_put (D := (dC, dI)) (ci := 1) (v := .int (0 : Int32)) (ty := .int) (C := RX2) (T := TX2) (N := 2) hx hb hts hi_X2 tyX2 tyX2_ok nmX2 hown hK hP hD hS 0 rfl rfl 1 (by decide) (hts _ (List.mem_of_getElem? (i := 1) rfl)) (fun _ h9 => h9) rfl (by decide +kernel) rfl rfl (Nat.le_of_ble_eq_true rfl) dX2_readProper_2 (fun H locs hP hD hS => ?_)
  replace hP : va_P (dC, dI) vwCl [(h0, .inr (1, [.ref q_columns, .int (0 : Int32)])), (q_columns, .inl (cI, 6, .inl v_columns)), (q_p1, .inr (6, [.ref q_p1_kinds, .ref q_p1_tags, .ref q_p1_cells, .int v_p1_columns, .int v_p1_rows])), (q_p1_kinds, .inl (cI, 6, .inl v_p1_kinds))] H := hP
  replace hD : va_D A [(h0, .inr (1, [.ref q_columns, .int (0 : Int32)])), (q_columns, .inl (cI, 6, .inl v_columns)), (q_p1, .inr (6, [.ref q_p1_kinds, .ref q_p1_tags, .ref q_p1_cells, .int v_p1_columns, .int v_p1_rows])), (q_p1_kinds, .inl (cI, 6, .inl v_p1_kinds))] := hD
  refine lv_iconst (v := 0) hx hb dX2_readProper_5 (by decide) ?_
  refine lv_istore_n (lv' := [(2, .int (0 : Int32)), (0, .ref h0), (1, .ref q_p1)]) hx hb dX2_readProper_6 rfl hl (by decide) rfl (fun ls hl => ?_)
  have LP_2006 : ∀ (n : Nat) (x2_7 : Int32) (v_size_7 : Int32) (v_columns_7 : (Nat → Int32)) (w : (Int32 × (Nat → Int32))) (H : Heap) (locs : List Loc) (ls : Array Slot), L_X2_readProper_7 v_p1_columns v_p1_kinds n x2_7 v_size_7 v_columns_7 = some w → va_P (dC, dI) vwCl [(h0, .inr (1, [.ref q_columns, .int v_size_7])), (q_columns, .inl (cI, 6, .inl v_columns_7)), (q_p1, .inr (6, [.ref q_p1_kinds, .ref q_p1_tags, .ref q_p1_cells, .int v_p1_columns, .int v_p1_rows])), (q_p1_kinds, .inl (cI, 6, .inl v_p1_kinds))] H → va_D A [(h0, .inr (1, [.ref q_columns, .int v_size_7])), (q_columns, .inl (cI, 6, .inl v_columns_7)), (q_p1, .inr (6, [.ref q_p1_kinds, .ref q_p1_tags, .ref q_p1_cells, .int v_p1_columns, .int v_p1_rows])), (q_p1_kinds, .inl (cI, 6, .inl v_p1_kinds))] → va_S A s.heap H locs → lv_has ls 3 [(0, .ref h0), (1, .ref q_p1), (2, .int x2_7)] → (∀ (H : Heap) (locs : List Loc) (ls : Array Slot), va_P (dC, dI) vwCl [(h0, .inr (1, [.ref q_columns, .int w.1])), (q_columns, .inl (cI, 6, .inl w.2)), (q_p1, .inr (6, [.ref q_p1_kinds, .ref q_p1_tags, .ref q_p1_cells, .int v_p1_columns, .int v_p1_rows])), (q_p1_kinds, .inl (cI, 6, .inl v_p1_kinds))] H → va_D A [(h0, .inr (1, [.ref q_columns, .int w.1])), (q_columns, .inl (cI, 6, .inl w.2)), (q_p1, .inr (6, [.ref q_p1_kinds, .ref q_p1_tags, .ref q_p1_cells, .int v_p1_columns, .int v_p1_rows])), (q_p1_kinds, .inl (cI, 6, .inl v_p1_kinds))] → va_S A s.heap H locs → lv_has ls 3 [] → W p l e rm_X2_readProper s m args below meth c H locs 0 0 QQ (F0 m 27 ls [])) → W p l e rm_X2_readProper s m args below meth c H locs 0 0 QQ (F0 m 7 ls []) := by
    intro n
    induction n with
    | zero => intro x2_7 v_size_7 v_columns_7 w H locs ls h; exact absurd (show none = some w from h) nofun
    | succ n ih =>
      intro x2_7 v_size_7 v_columns_7 w H locs ls h hP hD hS hl K
      rw [L_X2_readProper_7] at h
      refine lv_iload_n hx hb dX2_readProper_7 rfl (lv_at hl 2 rfl) ?_
      refine lv_aload_n hx hb dX2_readProper_8 rfl (lv_at hl 1 rfl) ?_
      refine va_get (D := (dC, dI)) (ci := 6) (v := .int v_p1_columns) (C := RX8) (T := TX8) (N := 5) hx hb hts hi_X8 hown hK hP 2 rfl rfl 3 (by decide) (hts _ (List.mem_of_getElem? (i := 2) rfl)) (fun _ h9 => h9) rfl dX2_readProper_9 ?_
      refine lv_icmp_ge (tgt := 27) hx hb dX2_readProper_12 (by decide) (fun c_2003 => ?_) (fun c_2003 => ?_)
      · replace h := op c_2003 h
        have ho := Option.some.inj h
        subst ho
        exact K H _ ls hP hD hS (lv_sub hl [] rfl)
      · replace h := on c_2003 h
        refine lv_aload_n hx hb dX2_readProper_15 rfl (lv_at hl 0 rfl) ?_
        refine lv_aload_n hx hb dX2_readProper_16 rfl (lv_at hl 1 rfl) ?_
        refine lv_iload_n hx hb dX2_readProper_17 rfl (lv_at hl 2 rfl) ?_
        obtain ⟨o_2004, hr_2004, h⟩ := ob h
        have hPc := hP.sub (ws' := [(h0, .inr (1, [.ref q_columns, .int v_size_7])), (q_columns, .inl (cI, 6, .inl v_columns_7)), (q_p1, .inr (6, [.ref q_p1_kinds, .ref q_p1_tags, .ref q_p1_cells, .int v_p1_columns, .int v_p1_rows])), (q_p1_kinds, .inl (cI, 6, .inl v_p1_kinds))]) [0, 1, 2, 3] rfl
        have hDc := hD.sub (ws' := [(h0, .inr (1, [.ref q_columns, .int v_size_7])), (q_columns, .inl (cI, 6, .inl v_columns_7)), (q_p1, .inr (6, [.ref q_p1_kinds, .ref q_p1_tags, .ref q_p1_cells, .int v_p1_columns, .int v_p1_rows])), (q_p1_kinds, .inl (cI, 6, .inl v_p1_kinds))]) [0, 1, 2, 3] (by decide) rfl
        have hFc := va_free (wc := [(h0, .inr (1, [.ref q_columns, .int v_size_7])), (q_columns, .inl (cI, 6, .inl v_columns_7)), (q_p1, .inr (6, [.ref q_p1_kinds, .ref q_p1_tags, .ref q_p1_cells, .int v_p1_columns, .int v_p1_rows])), (q_p1_kinds, .inl (cI, 6, .inl v_p1_kinds))]) hD hS hA [0, 1, 2, 3] rfl
        refine va_callv (va_runV (As := [.ref q_p1, .int x2_7]) (rest := []) ⟨hx, hb, hml, hown, hts⟩ (c_X2_addProper l dC dI cB cC cI cJ cZ cT h0 q_columns q_p1 q_p1_kinds q_p1_tags q_p1_cells H.size v_size_7 v_columns_7 v_p1_columns v_p1_rows v_p1_kinds x2_7 o_2004 hr_2004) (cwV 2 hts gX2_readProper_X2_addProper rfl rfl rfl (by decide +kernel) ⟨Nat.le_of_ble_eq_true rfl, Nat.le_of_ble_eq_true rfl⟩) ⟨blW, va_recv hK hP (ci := 1) (q0 := 0) rfl rfl, fun U hU hW => ⟨rfl, by rw [hU], by rw [hU]; exact hPc, va_K.moved hW.alike hK, hDc.weaken (fun _ _ _ _ => trivial)⟩⟩ rfl rfl hl.1 rfl (lv_room (Nat.le_of_ble_eq_true rfl)) dX2_readProper_18 ⟨Nat.le_of_ble_eq_true rfl, Nat.le_of_ble_eq_true rfl⟩) hS (fun q _ h => hFc q h) hFc (fun u_2004 t_2004 H locs ht hvm e_2004 hB hz1 hk1 hS => ?_)
        obtain ⟨hP1, -, hD1⟩ := hB
        rw [ht] at hP1
        obtain ⟨hP, hD⟩ := va_join (wr := []) (w1 := [(h0, .inr (1, [.ref q_columns, .int o_2004.1])), (q_columns, .inl (cI, 6, .inl o_2004.2)), (q_p1, .inr (6, [.ref q_p1_kinds, .ref q_p1_tags, .ref q_p1_cells, .int v_p1_columns, .int v_p1_rows])), (q_p1_kinds, .inl (cI, 6, .inl v_p1_kinds))]) hP hD [0, 1, 2, 3] [] rfl rfl (by decide) (by decide) hk1 hFc hP1 hD1
        replace hP := hP.sub (ws' := [(h0, .inr (1, [.ref q_columns, .int o_2004.1])), (q_columns, .inl (cI, 6, .inl o_2004.2)), (q_p1, .inr (6, [.ref q_p1_kinds, .ref q_p1_tags, .ref q_p1_cells, .int v_p1_columns, .int v_p1_rows])), (q_p1_kinds, .inl (cI, 6, .inl v_p1_kinds))]) [0, 1, 2, 3] rfl
        replace hD := hD.sub (ws' := [(h0, .inr (1, [.ref q_columns, .int o_2004.1])), (q_columns, .inl (cI, 6, .inl o_2004.2)), (q_p1, .inr (6, [.ref q_p1_kinds, .ref q_p1_tags, .ref q_p1_cells, .int v_p1_columns, .int v_p1_rows])), (q_p1_kinds, .inl (cI, 6, .inl v_p1_kinds))]) [0, 1, 2, 3] (by decide) rfl
        refine lv_iinc (v := (x2_7 + 1)) (lv' := [(2, .int (x2_7 + 1)), (0, .ref h0), (1, .ref q_p1)]) hx hb dX2_readProper_21 hl (k := 2) rfl (by rfl) (by decide) rfl (fun ls hl => ?_)
        refine lv_goto (tgt := 7) hx hb dX2_readProper_24 (by decide) ?_
        exact ih (x2_7 + 1) o_2004.1 o_2004.2 w H _ ls h hP hD hS (lv_sub hl [1, 2, 0] rfl) K
  obtain ⟨w_2006, hw_2006, h⟩ := ob h
  refine LP_2006 fu (0 : Int32) (0 : Int32) v_columns w_2006 H _ ls hw_2006 hP hD hS (lv_sub hl [1, 2, 0] rfl) (fun H locs ls hP hD hS hl => ?_)
  rw [hQQ]
  have ho := Option.some.inj h
  subst ho
  exact W.vret hx hb hr (fun t ht hW => ⟨⟨(), rfl, trivial, by rw [ht]; exact hP, va_K.moved hW.alike hK, hD⟩, hS.F ht⟩) hS.2.2 dX2_readProper_27
def L_X2_readTold_10 (v_p1_size : Int32) (v_p1_signs : (Nat → Int32)) (v_p2_columns : Int32) (v_p2_kinds : (Nat → Int32)) : Nat → Int32 → Int32 → Int32 → (Nat → Int32) → Option ((Int32 × Int32 × (Nat → Int32)) ⊕ (Int32 × Int32 × (Nat → Int32)))
  | 0, _, _, _, _ => none
  | n+1, x3_10, x4_10, v_size_10, v_columns_10 => (if v_p1_size ≤ x4_10 then (some (.inl (x3_10, v_size_10, v_columns_10))) else ((f_X7_letterAt v_p1_size v_p1_signs x4_10).bind (fun o_2008 => ((f_X8_hasColumn v_p2_columns o_2008).bind (fun o_2010 => (if (b2i o_2010) = 0 then (some (.inr (x4_10, v_size_10, v_columns_10))) else (if ((x3_10 >>> (o_2008 &&& 31)) &&& (1 : Int32)) = 0 then ((f_X2_addProper v_size_10 v_columns_10 v_p2_columns v_p2_kinds o_2008).bind (fun o_2014 => (L_X2_readTold_10 v_p1_size v_p1_signs v_p2_columns v_p2_kinds n (x3_10 ||| ((1 : Int32) <<< (o_2008 &&& 31))) (x4_10 + 1) o_2014.1 o_2014.2))) else (some (.inr (x4_10, v_size_10, v_columns_10))))))))))
def L_X2_readTold_71 (v_p2_columns : Int32) (v_p2_kinds : (Nat → Int32)) (u_2016 : (Int32 × Int32 × (Nat → Int32))) : Nat → Int32 → Int32 → (Nat → Int32) → Option (Int32 × (Nat → Int32))
  | 0, _, _, _ => none
  | n+1, x4_71, v_size_71, v_columns_71 => (if v_p2_columns ≤ x4_71 then (some (v_size_71, v_columns_71)) else (if ((u_2016.1 >>> (x4_71 &&& 31)) &&& (1 : Int32)) = 0 then ((f_X2_addProper v_size_71 v_columns_71 v_p2_columns v_p2_kinds x4_71).bind (fun o_2019 => (L_X2_readTold_71 v_p2_columns v_p2_kinds u_2016 n (x4_71 + 1) o_2019.1 o_2019.2))) else (L_X2_readTold_71 v_p2_columns v_p2_kinds u_2016 n (x4_71 + 1) v_size_71 v_columns_71)))
def f_X2_readTold (v_columns : Nat → Int32) (v_p1_size : Int32) (v_p1_signs : Nat → Int32) (v_p2_columns : Int32) (v_p2_kinds : Nat → Int32) : Option (Int32 × Int32 × (Nat → Int32)) :=
  ((L_X2_readTold_10 v_p1_size v_p1_signs v_p2_columns v_p2_kinds fu (0 : Int32) (0 : Int32) (0 : Int32) v_columns).bind (sm (fun u_2016 => ((L_X2_readTold_71 v_p2_columns v_p2_kinds u_2016 fu (0 : Int32) u_2016.2.1 u_2016.2.2).bind (fun w_2021 => (some ((-1 : Int32), w_2021.1, w_2021.2)))))))
abbrev rm_X2_readTold : Room := { frames := 3, cells := 0, slots := 0, locals := 64 }
set_option maxHeartbeats 4000000 in
set_option maxRecDepth 100000 in
theorem c_X2_readTold (l : Launch) (dC : Nat → ClassId) (dI : Nat → Nat → Nat) (cB cC cI cJ cZ cT : ClassId) (h0 q_columns q_p1 q_p1_signs q_p2 q_p2_kinds q_p2_tags q_p2_cells : Nat) (sz : Nat) (v_size : Int32) (v_columns : Nat → Int32) (v_p1_size : Int32) (v_p1_signs : Nat → Int32) (v_p2_columns : Int32) (v_p2_rows : Int32) (v_p2_kinds : Nat → Int32) (o : (Int32 × Int32 × (Nat → Int32))) (hf : f_X2_readTold v_columns v_p1_size v_p1_signs v_p2_columns v_p2_kinds = some o) : Met l yX2_readTold wsX2_readTold rm_X2_readTold (va_Pc [.ref h0, .ref q_p1, .ref q_p2] (fun U => U.heap.size = sz ∧ va_P (dC, dI) vwCl [(h0, .inr (1, [.ref q_columns, .int v_size])), (q_columns, .inl (cI, 6, .inl v_columns)), (q_p1, .inr (5, [.ref q_p1_signs, .int v_p1_size])), (q_p1_signs, .inl (cC, 80, .inl v_p1_signs)), (q_p2, .inr (6, [.ref q_p2_kinds, .ref q_p2_tags, .ref q_p2_cells, .int v_p2_columns, .int v_p2_rows])), (q_p2_kinds, .inl (cI, 6, .inl v_p2_kinds))] U.heap ∧ va_K (dC, dI) vwCl (tyA cB cC cI cJ cZ cT) U ∧ va_D (fun _ => True) [(h0, .inr (1, [.ref q_columns, .int v_size])), (q_columns, .inl (cI, 6, .inl v_columns)), (q_p1, .inr (5, [.ref q_p1_signs, .int v_p1_size])), (q_p1_signs, .inl (cC, 80, .inl v_p1_signs)), (q_p2, .inr (6, [.ref q_p2_kinds, .ref q_p2_tags, .ref q_p2_cells, .int v_p2_columns, .int v_p2_rows])), (q_p2_kinds, .inl (cI, 6, .inl v_p2_kinds))])) (va_Qi (fun (r : Int32) (_ : Unit) => o.1 = r) (fun _ t => va_P (dC, dI) vwCl [(h0, .inr (1, [.ref q_columns, .int o.2.1])), (q_columns, .inl (cI, 6, .inl o.2.2)), (q_p1, .inr (5, [.ref q_p1_signs, .int v_p1_size])), (q_p1_signs, .inl (cC, 80, .inl v_p1_signs)), (q_p2, .inr (6, [.ref q_p2_kinds, .ref q_p2_tags, .ref q_p2_cells, .int v_p2_columns, .int v_p2_rows])), (q_p2_kinds, .inl (cI, 6, .inl v_p2_kinds))] t.heap ∧ va_K (dC, dI) vwCl (tyA cB cC cI cJ cZ cT) t ∧ va_D (va_A [(h0, .inr (1, [.ref q_columns, .int v_size])), (q_columns, .inl (cI, 6, .inl v_columns)), (q_p1, .inr (5, [.ref q_p1_signs, .int v_p1_size])), (q_p1_signs, .inl (cC, 80, .inl v_p1_signs)), (q_p2, .inr (6, [.ref q_p2_kinds, .ref q_p2_tags, .ref q_p2_cells, .int v_p2_columns, .int v_p2_rows])), (q_p2_kinds, .inl (cI, 6, .inl v_p2_kinds))] sz) [(h0, .inr (1, [.ref q_columns, .int o.2.1])), (q_columns, .inl (cI, 6, .inl o.2.2)), (q_p1, .inr (5, [.ref q_p1_signs, .int v_p1_size])), (q_p1_signs, .inl (cC, 80, .inl v_p1_signs)), (q_p2, .inr (6, [.ref q_p2_kinds, .ref q_p2_tags, .ref q_p2_cells, .int v_p2_columns, .int v_p2_rows])), (q_p2_kinds, .inl (cI, 6, .inl v_p2_kinds))]) (va_A [(h0, .inr (1, [.ref q_columns, .int v_size])), (q_columns, .inl (cI, 6, .inl v_columns)), (q_p1, .inr (5, [.ref q_p1_signs, .int v_p1_size])), (q_p1_signs, .inl (cC, 80, .inl v_p1_signs)), (q_p2, .inr (6, [.ref q_p2_kinds, .ref q_p2_tags, .ref q_p2_cells, .int v_p2_columns, .int v_p2_rows])), (q_p2_kinds, .inl (cI, 6, .inl v_p2_kinds))] sz)) 0 0 (va_A [(h0, .inr (1, [.ref q_columns, .int v_size])), (q_columns, .inl (cI, 6, .inl v_columns)), (q_p1, .inr (5, [.ref q_p1_signs, .int v_p1_size])), (q_p1_signs, .inl (cC, 80, .inl v_p1_signs)), (q_p2, .inr (6, [.ref q_p2_kinds, .ref q_p2_tags, .ref q_p2_cells, .int v_p2_columns, .int v_p2_rows])), (q_p2_kinds, .inl (cI, 6, .inl v_p2_kinds))] sz) := by
  refine Met.ofW (cc := cX2_readTold) (maxL := 6) (ret := (some .int)) (by decide +kernel) rfl ?_
  intro p e s m args below meth c s₁ B hml hv
  obtain ⟨hav, hsz, hP, hK, hD0⟩ := hv
  have hx := B.exec
  have hb := B.bytes
  have hr := B.returns
  have hts := atoms_spec (ws := wsX2_readTold) B.pre
  have hown : s.vm.findClass RX2 = some m.cls := findClass_of_methodNamed B.named
  have hlocks := B.notSynchronized
  subst hsz
  have hD := hD0.self (sz := s.heap.size)
  generalize hAe : va_A [(h0, .inr (1, [.ref q_columns, .int v_size])), (q_columns, .inl (cI, 6, .inl v_columns)), (q_p1, .inr (5, [.ref q_p1_signs, .int v_p1_size])), (q_p1_signs, .inl (cC, 80, .inl v_p1_signs)), (q_p2, .inr (6, [.ref q_p2_kinds, .ref q_p2_tags, .ref q_p2_cells, .int v_p2_columns, .int v_p2_rows])), (q_p2_kinds, .inl (cI, 6, .inl v_p2_kinds))] s.heap.size = A at hD ⊢
  have hA : ∀ q : Nat, s.heap.size ≤ q → A q := fun q h => by rw [← hAe]; exact Or.inr h
  have hS : va_S A s.heap s.heap [] := va_S.rf
  refine wstart (rm := rm_X2_readTold) hav (Nat.le_of_ble_eq_true rfl) (fun QQ ls hQQ hl => ?_)
  have hl : lv_has ls 6 [(0, .ref h0), (1, .ref q_p1), (2, .ref q_p2)] := hl
  have hi_X2 : ∀ w ∈ u_ws RX2 TX2 2, w ∈ wsX2_readTold := by decide +kernel
  have hi_X7 : ∀ w ∈ u_ws RX7 TX7 2, w ∈ wsX2_readTold := by decide +kernel
  have hi_X8 : ∀ w ∈ u_ws RX8 TX8 5, w ∈ wsX2_readTold := by decide +kernel
  have h := hf
  unfold f_X2_readTold at h
  refine lv_aload_n hx hb dX2_readTold_0 rfl (lv_at hl 0 rfl) ?_
  refine lv_iconst (v := 0) hx hb dX2_readTold_1 (by decide) ?_
  refine va_put (D := (dC, dI)) (ci := 1) (v := .int (0 : Int32)) (ty := .int) (C := RX2) (T := TX2) (N := 2) hx hb hts hi_X2 tyX2 tyX2_ok nmX2 hown hK hP hD hS 0 rfl rfl 1 (by decide) (hts _ (List.mem_of_getElem? (i := 1) rfl)) (fun _ h9 => h9) rfl (by decide +kernel) rfl rfl (Nat.le_of_ble_eq_true rfl) dX2_readTold_2 (fun H locs hP hD hS => ?_)
  replace hP : va_P (dC, dI) vwCl [(h0, .inr (1, [.ref q_columns, .int (0 : Int32)])), (q_columns, .inl (cI, 6, .inl v_columns)), (q_p1, .inr (5, [.ref q_p1_signs, .int v_p1_size])), (q_p1_signs, .inl (cC, 80, .inl v_p1_signs)), (q_p2, .inr (6, [.ref q_p2_kinds, .ref q_p2_tags, .ref q_p2_cells, .int v_p2_columns, .int v_p2_rows])), (q_p2_kinds, .inl (cI, 6, .inl v_p2_kinds))] H := hP
  replace hD : va_D A [(h0, .inr (1, [.ref q_columns, .int (0 : Int32)])), (q_columns, .inl (cI, 6, .inl v_columns)), (q_p1, .inr (5, [.ref q_p1_signs, .int v_p1_size])), (q_p1_signs, .inl (cC, 80, .inl v_p1_signs)), (q_p2, .inr (6, [.ref q_p2_kinds, .ref q_p2_tags, .ref q_p2_cells, .int v_p2_columns, .int v_p2_rows])), (q_p2_kinds, .inl (cI, 6, .inl v_p2_kinds))] := hD
  refine lv_iconst (v := 0) hx hb dX2_readTold_5 (by decide) ?_
  refine lv_istore_n (lv' := [(3, .int (0 : Int32)), (0, .ref h0), (1, .ref q_p1), (2, .ref q_p2)]) hx hb dX2_readTold_6 rfl hl (by decide) rfl (fun ls hl => ?_)
  refine lv_iconst (v := 0) hx hb dX2_readTold_7 (by decide) ?_
  refine lv_istore (lv' := [(4, .int (0 : Int32)), (3, .int (0 : Int32)), (0, .ref h0), (1, .ref q_p1), (2, .ref q_p2)]) hx hb dX2_readTold_8 hl (by decide) rfl (fun ls hl => ?_)
  have LP_2016 : ∀ (n : Nat) (x3_10 : Int32) (x4_10 : Int32) (v_size_10 : Int32) (v_columns_10 : (Nat → Int32)) (w : ((Int32 × Int32 × (Nat → Int32)) ⊕ (Int32 × Int32 × (Nat → Int32)))) (H : Heap) (locs : List Loc) (ls : Array Slot), L_X2_readTold_10 v_p1_size v_p1_signs v_p2_columns v_p2_kinds n x3_10 x4_10 v_size_10 v_columns_10 = some w → va_P (dC, dI) vwCl [(h0, .inr (1, [.ref q_columns, .int v_size_10])), (q_columns, .inl (cI, 6, .inl v_columns_10)), (q_p1, .inr (5, [.ref q_p1_signs, .int v_p1_size])), (q_p1_signs, .inl (cC, 80, .inl v_p1_signs)), (q_p2, .inr (6, [.ref q_p2_kinds, .ref q_p2_tags, .ref q_p2_cells, .int v_p2_columns, .int v_p2_rows])), (q_p2_kinds, .inl (cI, 6, .inl v_p2_kinds))] H → va_D A [(h0, .inr (1, [.ref q_columns, .int v_size_10])), (q_columns, .inl (cI, 6, .inl v_columns_10)), (q_p1, .inr (5, [.ref q_p1_signs, .int v_p1_size])), (q_p1_signs, .inl (cC, 80, .inl v_p1_signs)), (q_p2, .inr (6, [.ref q_p2_kinds, .ref q_p2_tags, .ref q_p2_cells, .int v_p2_columns, .int v_p2_rows])), (q_p2_kinds, .inl (cI, 6, .inl v_p2_kinds))] → va_S A s.heap H locs → lv_has ls 6 [(0, .ref h0), (1, .ref q_p1), (2, .ref q_p2), (3, .int x3_10), (4, .int x4_10)] → (∀ u : (Int32 × Int32 × (Nat → Int32)), w = .inl u → ∀ (H : Heap) (locs : List Loc) (ls : Array Slot), va_P (dC, dI) vwCl [(h0, .inr (1, [.ref q_columns, .int u.2.1])), (q_columns, .inl (cI, 6, .inl u.2.2)), (q_p1, .inr (5, [.ref q_p1_signs, .int v_p1_size])), (q_p1_signs, .inl (cC, 80, .inl v_p1_signs)), (q_p2, .inr (6, [.ref q_p2_kinds, .ref q_p2_tags, .ref q_p2_cells, .int v_p2_columns, .int v_p2_rows])), (q_p2_kinds, .inl (cI, 6, .inl v_p2_kinds))] H → va_D A [(h0, .inr (1, [.ref q_columns, .int u.2.1])), (q_columns, .inl (cI, 6, .inl u.2.2)), (q_p1, .inr (5, [.ref q_p1_signs, .int v_p1_size])), (q_p1_signs, .inl (cC, 80, .inl v_p1_signs)), (q_p2, .inr (6, [.ref q_p2_kinds, .ref q_p2_tags, .ref q_p2_cells, .int v_p2_columns, .int v_p2_rows])), (q_p2_kinds, .inl (cI, 6, .inl v_p2_kinds))] → va_S A s.heap H locs → lv_has ls 6 [(0, .ref h0), (2, .ref q_p2), (3, .int u.1)] → W p l e rm_X2_readTold s m args below meth c H locs 0 0 QQ (F0 m 68 ls [])) → (∀ r : (Int32 × Int32 × (Nat → Int32)), w = .inr r → some r = some o) → W p l e rm_X2_readTold s m args below meth c H locs 0 0 QQ (F0 m 10 ls []) := by
    intro n
    induction n with
    | zero => intro x3_10 x4_10 v_size_10 v_columns_10 w H locs ls h; exact absurd (show none = some w from h) nofun
    | succ n ih =>
      intro x3_10 x4_10 v_size_10 v_columns_10 w H locs ls h hP hD hS hl K KR
      rw [L_X2_readTold_10] at h
      refine lv_iload hx hb dX2_readTold_10 (lv_at hl 4 rfl) ?_
      refine lv_aload_n hx hb dX2_readTold_12 rfl (lv_at hl 1 rfl) ?_
      refine va_get (D := (dC, dI)) (ci := 5) (v := .int v_p1_size) (C := RX7) (T := TX7) (N := 2) hx hb hts hi_X7 hown hK hP 2 rfl rfl 1 (by decide) (hts _ (List.mem_of_getElem? (i := 2) rfl)) (fun _ h9 => h9) rfl dX2_readTold_13 ?_
      refine lv_icmp_ge (tgt := 68) hx hb dX2_readTold_16 (by decide) (fun c_2007 => ?_) (fun c_2007 => ?_)
      · replace h := op c_2007 h
        have ho := Option.some.inj h
        subst ho
        exact K _ rfl H _ ls hP hD hS (lv_sub hl [0, 2, 3] rfl)
      · replace h := on c_2007 h
        refine lv_aload_n hx hb dX2_readTold_19 rfl (lv_at hl 1 rfl) ?_
        refine lv_iload hx hb dX2_readTold_20 (lv_at hl 4 rfl) ?_
        obtain ⟨o_2008, hr_2008, h⟩ := ob h
        refine vp_callSi (va_Run.run (va_runV (As := [.int x4_10]) (rest := []) ⟨hx, hb, hml, hown, hts⟩ (c_X7_letterAt l dC dI cB cC cI cJ cZ cT q_p1 q_p1_signs v_p1_size v_p1_signs x4_10 o_2008 hr_2008) (cwV 1 hts gX2_readTold_X7_letterAt rfl rfl rfl (by decide +kernel) ⟨Nat.le_of_ble_eq_true rfl, Nat.le_of_ble_eq_true rfl⟩) ⟨blR, va_recv hK hP (ci := 5) (q0 := 2) rfl rfl, fun U hU hW => ⟨rfl, by rw [hU]; exact hP.sub [2, 3] rfl, va_K.moved hW.alike hK⟩⟩ rfl rfl hl.1 rfl (lv_room (Nat.le_of_ble_eq_true rfl)) dX2_readTold_22 ⟨Nat.le_of_ble_eq_true rfl, Nat.le_of_ble_eq_true rfl⟩)) (fun r_2008 e_2008 => ?_)
        subst e_2008
        refine lv_istore (lv' := [(5, .int o_2008), (0, .ref h0), (1, .ref q_p1), (2, .ref q_p2), (3, .int x3_10), (4, .int x4_10)]) hx hb dX2_readTold_25 hl (by decide) rfl (fun ls hl => ?_)
        refine lv_aload_n hx hb dX2_readTold_27 rfl (lv_at hl 3 rfl) ?_
        refine lv_iload hx hb dX2_readTold_28 (lv_at hl 0 rfl) ?_
        obtain ⟨o_2010, hr_2010, h⟩ := ob h
        refine vp_callSi (va_Run.run (va_runV (As := [.int o_2008]) (rest := []) ⟨hx, hb, hml, hown, hts⟩ (c_X8_hasColumn l dC dI cB cC cI cJ cZ cT q_p2 q_p2_kinds q_p2_tags q_p2_cells v_p2_columns v_p2_rows o_2008 o_2010 hr_2010) (cwV 1 hts gX2_readTold_X8_hasColumn rfl rfl rfl (by decide +kernel) ⟨Nat.le_of_ble_eq_true rfl, Nat.le_of_ble_eq_true rfl⟩) ⟨blR, va_recv hK hP (ci := 6) (q0 := 4) rfl rfl, fun U hU hW => ⟨rfl, by rw [hU]; exact hP.sub [4] rfl, va_K.moved hW.alike hK⟩⟩ rfl rfl hl.1 rfl (lv_room (Nat.le_of_ble_eq_true rfl)) dX2_readTold_30 ⟨Nat.le_of_ble_eq_true rfl, Nat.le_of_ble_eq_true rfl⟩)) (fun r_2010 e_2010 => ?_)
        subst e_2010
        refine lv_if_eq (tgt := 45) hx hb dX2_readTold_33 (by decide) (fun c_2012 => ?_) (fun c_2012 => ?_)
        · replace h := op c_2012 h
          refine lv_iload hx hb dX2_readTold_45 (lv_at hl 5 rfl) ?_
          replace h := KR _ (Option.some.inj h).symm
          rw [hQQ]
          have ho := Option.some.inj h
          subst ho
          exact W.iret hx hb hr (fun t ht hW => ⟨⟨_, (), rfl, rfl, by rw [ht]; exact hP, va_K.moved hW.alike hK, hD⟩, hS.F ht⟩) hS.2.2 dX2_readTold_47
        · replace h := on c_2012 h
          refine lv_iload_n hx hb dX2_readTold_36 rfl (lv_at hl 4 rfl) ?_
          refine lv_iload hx hb dX2_readTold_37 (lv_at hl 0 rfl) ?_
          refine lv_ishr hx hb dX2_readTold_39 ?_
          refine lv_iconst (v := 1) hx hb dX2_readTold_40 (by decide) ?_
          refine lv_iand hx hb dX2_readTold_41 ?_
          refine lv_if_eq (tgt := 48) hx hb dX2_readTold_42 (by decide) (fun c_2013 => ?_) (fun c_2013 => ?_)
          · replace h := op c_2013 h
            refine lv_iload_n hx hb dX2_readTold_48 rfl (lv_at hl 4 rfl) ?_
            refine lv_iconst (v := 1) hx hb dX2_readTold_49 (by decide) ?_
            refine lv_iload hx hb dX2_readTold_50 (lv_at hl 0 rfl) ?_
            refine lv_ishl hx hb dX2_readTold_52 ?_
            refine lv_ior hx hb dX2_readTold_53 ?_
            refine lv_istore_n (lv' := [(3, .int (x3_10 ||| ((1 : Int32) <<< (o_2008 &&& 31)))), (5, .int o_2008), (0, .ref h0), (1, .ref q_p1), (2, .ref q_p2), (4, .int x4_10)]) hx hb dX2_readTold_54 rfl hl (by decide) rfl (fun ls hl => ?_)
            refine lv_aload_n hx hb dX2_readTold_55 rfl (lv_at hl 2 rfl) ?_
            refine lv_aload_n hx hb dX2_readTold_56 rfl (lv_at hl 4 rfl) ?_
            refine lv_iload hx hb dX2_readTold_57 (lv_at hl 1 rfl) ?_
            obtain ⟨o_2014, hr_2014, h⟩ := ob h
            have hPc := hP.sub (ws' := [(h0, .inr (1, [.ref q_columns, .int v_size_10])), (q_columns, .inl (cI, 6, .inl v_columns_10)), (q_p2, .inr (6, [.ref q_p2_kinds, .ref q_p2_tags, .ref q_p2_cells, .int v_p2_columns, .int v_p2_rows])), (q_p2_kinds, .inl (cI, 6, .inl v_p2_kinds))]) [0, 1, 4, 5] rfl
            have hDc := hD.sub (ws' := [(h0, .inr (1, [.ref q_columns, .int v_size_10])), (q_columns, .inl (cI, 6, .inl v_columns_10)), (q_p2, .inr (6, [.ref q_p2_kinds, .ref q_p2_tags, .ref q_p2_cells, .int v_p2_columns, .int v_p2_rows])), (q_p2_kinds, .inl (cI, 6, .inl v_p2_kinds))]) [0, 1, 4, 5] (by decide) rfl
            have hFc := va_free (wc := [(h0, .inr (1, [.ref q_columns, .int v_size_10])), (q_columns, .inl (cI, 6, .inl v_columns_10)), (q_p2, .inr (6, [.ref q_p2_kinds, .ref q_p2_tags, .ref q_p2_cells, .int v_p2_columns, .int v_p2_rows])), (q_p2_kinds, .inl (cI, 6, .inl v_p2_kinds))]) hD hS hA [0, 1, 4, 5] rfl
            refine va_callv (va_runV (As := [.ref q_p2, .int o_2008]) (rest := []) ⟨hx, hb, hml, hown, hts⟩ (c_X2_addProper l dC dI cB cC cI cJ cZ cT h0 q_columns q_p2 q_p2_kinds q_p2_tags q_p2_cells H.size v_size_10 v_columns_10 v_p2_columns v_p2_rows v_p2_kinds o_2008 o_2014 hr_2014) (cwV 2 hts gX2_readTold_X2_addProper rfl rfl rfl (by decide +kernel) ⟨Nat.le_of_ble_eq_true rfl, Nat.le_of_ble_eq_true rfl⟩) ⟨blW, va_recv hK hP (ci := 1) (q0 := 0) rfl rfl, fun U hU hW => ⟨rfl, by rw [hU], by rw [hU]; exact hPc, va_K.moved hW.alike hK, hDc.weaken (fun _ _ _ _ => trivial)⟩⟩ rfl rfl hl.1 rfl (lv_room (Nat.le_of_ble_eq_true rfl)) dX2_readTold_59 ⟨Nat.le_of_ble_eq_true rfl, Nat.le_of_ble_eq_true rfl⟩) hS (fun q _ h => hFc q h) hFc (fun u_2014 t_2014 H locs ht hvm e_2014 hB hz1 hk1 hS => ?_)
            obtain ⟨hP1, -, hD1⟩ := hB
            rw [ht] at hP1
            obtain ⟨hP, hD⟩ := va_join (wr := [(q_p1, .inr (5, [.ref q_p1_signs, .int v_p1_size])), (q_p1_signs, .inl (cC, 80, .inl v_p1_signs))]) (w1 := [(h0, .inr (1, [.ref q_columns, .int o_2014.1])), (q_columns, .inl (cI, 6, .inl o_2014.2)), (q_p2, .inr (6, [.ref q_p2_kinds, .ref q_p2_tags, .ref q_p2_cells, .int v_p2_columns, .int v_p2_rows])), (q_p2_kinds, .inl (cI, 6, .inl v_p2_kinds))]) hP hD [0, 1, 4, 5] [2, 3] rfl rfl (by decide) (by decide) hk1 hFc hP1 hD1
            replace hP := hP.sub (ws' := [(h0, .inr (1, [.ref q_columns, .int o_2014.1])), (q_columns, .inl (cI, 6, .inl o_2014.2)), (q_p1, .inr (5, [.ref q_p1_signs, .int v_p1_size])), (q_p1_signs, .inl (cC, 80, .inl v_p1_signs)), (q_p2, .inr (6, [.ref q_p2_kinds, .ref q_p2_tags, .ref q_p2_cells, .int v_p2_columns, .int v_p2_rows])), (q_p2_kinds, .inl (cI, 6, .inl v_p2_kinds))]) [2, 3, 0, 1, 4, 5] rfl
            replace hD := hD.sub (ws' := [(h0, .inr (1, [.ref q_columns, .int o_2014.1])), (q_columns, .inl (cI, 6, .inl o_2014.2)), (q_p1, .inr (5, [.ref q_p1_signs, .int v_p1_size])), (q_p1_signs, .inl (cC, 80, .inl v_p1_signs)), (q_p2, .inr (6, [.ref q_p2_kinds, .ref q_p2_tags, .ref q_p2_cells, .int v_p2_columns, .int v_p2_rows])), (q_p2_kinds, .inl (cI, 6, .inl v_p2_kinds))]) [2, 3, 0, 1, 4, 5] (by decide) rfl
            refine lv_iinc (v := (x4_10 + 1)) (lv' := [(4, .int (x4_10 + 1)), (3, .int (x3_10 ||| ((1 : Int32) <<< (o_2008 &&& 31)))), (5, .int o_2008), (0, .ref h0), (1, .ref q_p1), (2, .ref q_p2)]) hx hb dX2_readTold_62 hl (k := 5) rfl (by rfl) (by decide) rfl (fun ls hl => ?_)
            refine lv_goto (tgt := 10) hx hb dX2_readTold_65 (by decide) ?_
            exact ih (x3_10 ||| ((1 : Int32) <<< (o_2008 &&& 31))) (x4_10 + 1) o_2014.1 o_2014.2 w H _ ls h hP hD hS (lv_sub hl [3, 4, 5, 1, 0] rfl) K KR
          · replace h := on c_2013 h
            refine lv_iload hx hb dX2_readTold_45 (lv_at hl 5 rfl) ?_
            replace h := KR _ (Option.some.inj h).symm
            rw [hQQ]
            have ho := Option.some.inj h
            subst ho
            exact W.iret hx hb hr (fun t ht hW => ⟨⟨_, (), rfl, rfl, by rw [ht]; exact hP, va_K.moved hW.alike hK, hD⟩, hS.F ht⟩) hS.2.2 dX2_readTold_47
  obtain ⟨w_2016, hw_2016, h⟩ := ob h
  refine LP_2016 fu (0 : Int32) (0 : Int32) (0 : Int32) v_columns w_2016 H _ ls hw_2016 hP hD hS (lv_sub hl [2, 3, 4, 1, 0] rfl) (fun u_2016 e_2016 H locs ls hP hD hS hl => ?_) (fun r_2016 e_2016 => by subst e_2016; exact h)
  subst e_2016
  replace h := sm_l h
  refine lv_iconst (v := 0) hx hb dX2_readTold_68 (by decide) ?_
  refine lv_istore (lv' := [(4, .int (0 : Int32)), (0, .ref h0), (2, .ref q_p2), (3, .int u_2016.1)]) hx hb dX2_readTold_69 hl (by decide) rfl (fun ls hl => ?_)
  have LP_2021 : ∀ (n : Nat) (x4_71 : Int32) (v_size_71 : Int32) (v_columns_71 : (Nat → Int32)) (w : (Int32 × (Nat → Int32))) (H : Heap) (locs : List Loc) (ls : Array Slot), L_X2_readTold_71 v_p2_columns v_p2_kinds u_2016 n x4_71 v_size_71 v_columns_71 = some w → va_P (dC, dI) vwCl [(h0, .inr (1, [.ref q_columns, .int v_size_71])), (q_columns, .inl (cI, 6, .inl v_columns_71)), (q_p1, .inr (5, [.ref q_p1_signs, .int v_p1_size])), (q_p1_signs, .inl (cC, 80, .inl v_p1_signs)), (q_p2, .inr (6, [.ref q_p2_kinds, .ref q_p2_tags, .ref q_p2_cells, .int v_p2_columns, .int v_p2_rows])), (q_p2_kinds, .inl (cI, 6, .inl v_p2_kinds))] H → va_D A [(h0, .inr (1, [.ref q_columns, .int v_size_71])), (q_columns, .inl (cI, 6, .inl v_columns_71)), (q_p1, .inr (5, [.ref q_p1_signs, .int v_p1_size])), (q_p1_signs, .inl (cC, 80, .inl v_p1_signs)), (q_p2, .inr (6, [.ref q_p2_kinds, .ref q_p2_tags, .ref q_p2_cells, .int v_p2_columns, .int v_p2_rows])), (q_p2_kinds, .inl (cI, 6, .inl v_p2_kinds))] → va_S A s.heap H locs → lv_has ls 6 [(0, .ref h0), (2, .ref q_p2), (3, .int u_2016.1), (4, .int x4_71)] → (∀ (H : Heap) (locs : List Loc) (ls : Array Slot), va_P (dC, dI) vwCl [(h0, .inr (1, [.ref q_columns, .int w.1])), (q_columns, .inl (cI, 6, .inl w.2)), (q_p1, .inr (5, [.ref q_p1_signs, .int v_p1_size])), (q_p1_signs, .inl (cC, 80, .inl v_p1_signs)), (q_p2, .inr (6, [.ref q_p2_kinds, .ref q_p2_tags, .ref q_p2_cells, .int v_p2_columns, .int v_p2_rows])), (q_p2_kinds, .inl (cI, 6, .inl v_p2_kinds))] H → va_D A [(h0, .inr (1, [.ref q_columns, .int w.1])), (q_columns, .inl (cI, 6, .inl w.2)), (q_p1, .inr (5, [.ref q_p1_signs, .int v_p1_size])), (q_p1_signs, .inl (cC, 80, .inl v_p1_signs)), (q_p2, .inr (6, [.ref q_p2_kinds, .ref q_p2_tags, .ref q_p2_cells, .int v_p2_columns, .int v_p2_rows])), (q_p2_kinds, .inl (cI, 6, .inl v_p2_kinds))] → va_S A s.heap H locs → lv_has ls 6 [] → W p l e rm_X2_readTold s m args below meth c H locs 0 0 QQ (F0 m 102 ls [])) → W p l e rm_X2_readTold s m args below meth c H locs 0 0 QQ (F0 m 71 ls []) := by
    intro n
    induction n with
    | zero => intro x4_71 v_size_71 v_columns_71 w H locs ls h; exact absurd (show none = some w from h) nofun
    | succ n ih =>
      intro x4_71 v_size_71 v_columns_71 w H locs ls h hP hD hS hl K
      rw [L_X2_readTold_71] at h
      refine lv_iload hx hb dX2_readTold_71 (lv_at hl 3 rfl) ?_
      refine lv_aload_n hx hb dX2_readTold_73 rfl (lv_at hl 1 rfl) ?_
      refine va_get (D := (dC, dI)) (ci := 6) (v := .int v_p2_columns) (C := RX8) (T := TX8) (N := 5) hx hb hts hi_X8 hown hK hP 4 rfl rfl 3 (by decide) (hts _ (List.mem_of_getElem? (i := 3) rfl)) (fun _ h9 => h9) rfl dX2_readTold_74 ?_
      refine lv_icmp_ge (tgt := 102) hx hb dX2_readTold_77 (by decide) (fun c_2017 => ?_) (fun c_2017 => ?_)
      · replace h := op c_2017 h
        have ho := Option.some.inj h
        subst ho
        exact K H _ ls hP hD hS (lv_sub hl [] rfl)
      · replace h := on c_2017 h
        refine lv_iload_n hx hb dX2_readTold_80 rfl (lv_at hl 2 rfl) ?_
        refine lv_iload hx hb dX2_readTold_81 (lv_at hl 3 rfl) ?_
        refine lv_ishr hx hb dX2_readTold_83 ?_
        refine lv_iconst (v := 1) hx hb dX2_readTold_84 (by decide) ?_
        refine lv_iand hx hb dX2_readTold_85 ?_
        refine lv_if_ne (tgt := 96) hx hb dX2_readTold_86 (by decide) (fun c_2018 => ?_) (fun c_2018 => ?_)
        · replace h := on c_2018 h
          refine lv_iinc (v := (x4_71 + 1)) (lv' := [(4, .int (x4_71 + 1)), (0, .ref h0), (2, .ref q_p2), (3, .int u_2016.1)]) hx hb dX2_readTold_96 hl (k := 3) rfl (by rfl) (by decide) rfl (fun ls hl => ?_)
          refine lv_goto (tgt := 71) hx hb dX2_readTold_99 (by decide) ?_
          exact ih (x4_71 + 1) v_size_71 v_columns_71 w H _ ls h hP hD hS (lv_sub hl [1, 2, 3, 0] rfl) K
        · replace h := op c_2018 h
          refine lv_aload_n hx hb dX2_readTold_89 rfl (lv_at hl 0 rfl) ?_
          refine lv_aload_n hx hb dX2_readTold_90 rfl (lv_at hl 1 rfl) ?_
          refine lv_iload hx hb dX2_readTold_91 (lv_at hl 3 rfl) ?_
          obtain ⟨o_2019, hr_2019, h⟩ := ob h
          have hPc := hP.sub (ws' := [(h0, .inr (1, [.ref q_columns, .int v_size_71])), (q_columns, .inl (cI, 6, .inl v_columns_71)), (q_p2, .inr (6, [.ref q_p2_kinds, .ref q_p2_tags, .ref q_p2_cells, .int v_p2_columns, .int v_p2_rows])), (q_p2_kinds, .inl (cI, 6, .inl v_p2_kinds))]) [0, 1, 4, 5] rfl
          have hDc := hD.sub (ws' := [(h0, .inr (1, [.ref q_columns, .int v_size_71])), (q_columns, .inl (cI, 6, .inl v_columns_71)), (q_p2, .inr (6, [.ref q_p2_kinds, .ref q_p2_tags, .ref q_p2_cells, .int v_p2_columns, .int v_p2_rows])), (q_p2_kinds, .inl (cI, 6, .inl v_p2_kinds))]) [0, 1, 4, 5] (by decide) rfl
          have hFc := va_free (wc := [(h0, .inr (1, [.ref q_columns, .int v_size_71])), (q_columns, .inl (cI, 6, .inl v_columns_71)), (q_p2, .inr (6, [.ref q_p2_kinds, .ref q_p2_tags, .ref q_p2_cells, .int v_p2_columns, .int v_p2_rows])), (q_p2_kinds, .inl (cI, 6, .inl v_p2_kinds))]) hD hS hA [0, 1, 4, 5] rfl
          refine va_callv (va_runV (As := [.ref q_p2, .int x4_71]) (rest := []) ⟨hx, hb, hml, hown, hts⟩ (c_X2_addProper l dC dI cB cC cI cJ cZ cT h0 q_columns q_p2 q_p2_kinds q_p2_tags q_p2_cells H.size v_size_71 v_columns_71 v_p2_columns v_p2_rows v_p2_kinds x4_71 o_2019 hr_2019) (cwV 2 hts gX2_readTold_X2_addProper rfl rfl rfl (by decide +kernel) ⟨Nat.le_of_ble_eq_true rfl, Nat.le_of_ble_eq_true rfl⟩) ⟨blW, va_recv hK hP (ci := 1) (q0 := 0) rfl rfl, fun U hU hW => ⟨rfl, by rw [hU], by rw [hU]; exact hPc, va_K.moved hW.alike hK, hDc.weaken (fun _ _ _ _ => trivial)⟩⟩ rfl rfl hl.1 rfl (lv_room (Nat.le_of_ble_eq_true rfl)) dX2_readTold_93 ⟨Nat.le_of_ble_eq_true rfl, Nat.le_of_ble_eq_true rfl⟩) hS (fun q _ h => hFc q h) hFc (fun u_2019 t_2019 H locs ht hvm e_2019 hB hz1 hk1 hS => ?_)
          obtain ⟨hP1, -, hD1⟩ := hB
          rw [ht] at hP1
          obtain ⟨hP, hD⟩ := va_join (wr := [(q_p1, .inr (5, [.ref q_p1_signs, .int v_p1_size])), (q_p1_signs, .inl (cC, 80, .inl v_p1_signs))]) (w1 := [(h0, .inr (1, [.ref q_columns, .int o_2019.1])), (q_columns, .inl (cI, 6, .inl o_2019.2)), (q_p2, .inr (6, [.ref q_p2_kinds, .ref q_p2_tags, .ref q_p2_cells, .int v_p2_columns, .int v_p2_rows])), (q_p2_kinds, .inl (cI, 6, .inl v_p2_kinds))]) hP hD [0, 1, 4, 5] [2, 3] rfl rfl (by decide) (by decide) hk1 hFc hP1 hD1
          replace hP := hP.sub (ws' := [(h0, .inr (1, [.ref q_columns, .int o_2019.1])), (q_columns, .inl (cI, 6, .inl o_2019.2)), (q_p1, .inr (5, [.ref q_p1_signs, .int v_p1_size])), (q_p1_signs, .inl (cC, 80, .inl v_p1_signs)), (q_p2, .inr (6, [.ref q_p2_kinds, .ref q_p2_tags, .ref q_p2_cells, .int v_p2_columns, .int v_p2_rows])), (q_p2_kinds, .inl (cI, 6, .inl v_p2_kinds))]) [2, 3, 0, 1, 4, 5] rfl
          replace hD := hD.sub (ws' := [(h0, .inr (1, [.ref q_columns, .int o_2019.1])), (q_columns, .inl (cI, 6, .inl o_2019.2)), (q_p1, .inr (5, [.ref q_p1_signs, .int v_p1_size])), (q_p1_signs, .inl (cC, 80, .inl v_p1_signs)), (q_p2, .inr (6, [.ref q_p2_kinds, .ref q_p2_tags, .ref q_p2_cells, .int v_p2_columns, .int v_p2_rows])), (q_p2_kinds, .inl (cI, 6, .inl v_p2_kinds))]) [2, 3, 0, 1, 4, 5] (by decide) rfl
          refine lv_iinc (v := (x4_71 + 1)) (lv' := [(4, .int (x4_71 + 1)), (0, .ref h0), (2, .ref q_p2), (3, .int u_2016.1)]) hx hb dX2_readTold_96 hl (k := 3) rfl (by rfl) (by decide) rfl (fun ls hl => ?_)
          refine lv_goto (tgt := 71) hx hb dX2_readTold_99 (by decide) ?_
          exact ih (x4_71 + 1) o_2019.1 o_2019.2 w H _ ls h hP hD hS (lv_sub hl [1, 2, 3, 0] rfl) K
  obtain ⟨w_2021, hw_2021, h⟩ := ob h
  refine LP_2021 fu (0 : Int32) u_2016.2.1 u_2016.2.2 w_2021 H _ ls hw_2021 hP hD hS (lv_sub hl [1, 2, 3, 0] rfl) (fun H locs ls hP hD hS hl => ?_)
  refine lv_iconst (v := -1) hx hb dX2_readTold_102 (by decide) ?_
  rw [hQQ]
  have ho := Option.some.inj h
  subst ho
  exact W.iret hx hb hr (fun t ht hW => ⟨⟨_, (), rfl, rfl, by rw [ht]; exact hP, va_K.moved hW.alike hK, hD⟩, hS.F ht⟩) hS.2.2 dX2_readTold_103
def L_X2_sortByFewest_20 (v_p1_distinct : (Nat → Int32)) (x2_2 : Int32) (v_columns_2 : (Nat → Int32)) : Nat → Int32 → (Nat → Int32) → Option (Int32 × (Nat → Int32))
  | 0, _, _ => none
  | n+1, x4_20, v_columns_20 => (if x4_20 ≤ 0 then (some (x4_20, v_columns_20)) else (if (x4_20 - (1 : Int32)) < 0 ∨ 6 ≤ ((x4_20 - (1 : Int32))).toNatClampNeg then none else (if (v_columns_20 ((x4_20 - (1 : Int32))).toNatClampNeg) < 0 ∨ 6 ≤ ((v_columns_20 ((x4_20 - (1 : Int32))).toNatClampNeg)).toNatClampNeg then none else (if (v_columns_2 (x2_2).toNatClampNeg) < 0 ∨ 6 ≤ ((v_columns_2 (x2_2).toNatClampNeg)).toNatClampNeg then none else (if (v_p1_distinct ((v_columns_20 ((x4_20 - (1 : Int32))).toNatClampNeg)).toNatClampNeg) ≤ (v_p1_distinct ((v_columns_2 (x2_2).toNatClampNeg)).toNatClampNeg) then (some (x4_20, v_columns_20)) else (if (x4_20 - (1 : Int32)) < 0 ∨ 6 ≤ ((x4_20 - (1 : Int32))).toNatClampNeg then none else (if x4_20 < 0 ∨ 6 ≤ (x4_20).toNatClampNeg then none else (L_X2_sortByFewest_20 v_p1_distinct x2_2 v_columns_2 n (x4_20 + (-1)) (upd v_columns_20 (x4_20).toNatClampNeg (v_columns_20 ((x4_20 - (1 : Int32))).toNatClampNeg))))))))))
def L_X2_sortByFewest_2 (v_size : Int32) (v_p1_distinct : (Nat → Int32)) : Nat → Int32 → (Nat → Int32) → Option (Nat → Int32)
  | 0, _, _ => none
  | n+1, x2_2, v_columns_2 => (if v_size ≤ x2_2 then (some v_columns_2) else (if x2_2 < 0 ∨ 6 ≤ (x2_2).toNatClampNeg then none else ((L_X2_sortByFewest_20 v_p1_distinct x2_2 v_columns_2 fu x2_2 v_columns_2).bind (fun w_2031 => (if w_2031.1 < 0 ∨ 6 ≤ (w_2031.1).toNatClampNeg then none else (L_X2_sortByFewest_2 v_size v_p1_distinct n (x2_2 + 1) (upd w_2031.2 (w_2031.1).toNatClampNeg (v_columns_2 (x2_2).toNatClampNeg))))))))
def f_X2_sortByFewest (v_size : Int32) (v_columns : Nat → Int32) (v_p1_distinct : Nat → Int32) : Option (Nat → Int32) :=
  ((L_X2_sortByFewest_2 v_size v_p1_distinct fu (1 : Int32) v_columns).bind (fun w_2033 => (some w_2033)))
abbrev rm_X2_sortByFewest : Room := { frames := 0, cells := 0, slots := 0, locals := 0 }
set_option maxHeartbeats 4000000 in
set_option maxRecDepth 100000 in
theorem c_X2_sortByFewest (l : Launch) (dC : Nat → ClassId) (dI : Nat → Nat → Nat) (cB cC cI cJ cZ cT : ClassId) (h0 q_columns q_p1 q_p1_distinct q_p1_ranks q_p1_weights q_p1_isFirst : Nat) (sz : Nat) (v_size : Int32) (v_columns : Nat → Int32) (v_p1_distinct : Nat → Int32) (o : (Nat → Int32)) (hf : f_X2_sortByFewest v_size v_columns v_p1_distinct = some o) : Met l yX2_sortByFewest wsX2_sortByFewest rm_X2_sortByFewest (va_Pc [.ref h0, .ref q_p1] (fun U => U.heap.size = sz ∧ va_P (dC, dI) vwCl [(h0, .inr (1, [.ref q_columns, .int v_size])), (q_columns, .inl (cI, 6, .inl v_columns)), (q_p1, .inr (4, [.ref q_p1_distinct, .ref q_p1_ranks, .ref q_p1_weights, .ref q_p1_isFirst])), (q_p1_distinct, .inl (cI, 6, .inl v_p1_distinct))] U.heap ∧ va_K (dC, dI) vwCl (tyA cB cC cI cJ cZ cT) U ∧ va_D (fun _ => True) [(h0, .inr (1, [.ref q_columns, .int v_size])), (q_columns, .inl (cI, 6, .inl v_columns)), (q_p1, .inr (4, [.ref q_p1_distinct, .ref q_p1_ranks, .ref q_p1_weights, .ref q_p1_isFirst])), (q_p1_distinct, .inl (cI, 6, .inl v_p1_distinct))])) (va_Qv (fun _ : Unit => True) (fun _ t => va_P (dC, dI) vwCl [(h0, .inr (1, [.ref q_columns, .int v_size])), (q_columns, .inl (cI, 6, .inl o)), (q_p1, .inr (4, [.ref q_p1_distinct, .ref q_p1_ranks, .ref q_p1_weights, .ref q_p1_isFirst])), (q_p1_distinct, .inl (cI, 6, .inl v_p1_distinct))] t.heap ∧ va_K (dC, dI) vwCl (tyA cB cC cI cJ cZ cT) t ∧ va_D (va_A [(h0, .inr (1, [.ref q_columns, .int v_size])), (q_columns, .inl (cI, 6, .inl v_columns)), (q_p1, .inr (4, [.ref q_p1_distinct, .ref q_p1_ranks, .ref q_p1_weights, .ref q_p1_isFirst])), (q_p1_distinct, .inl (cI, 6, .inl v_p1_distinct))] sz) [(h0, .inr (1, [.ref q_columns, .int v_size])), (q_columns, .inl (cI, 6, .inl o)), (q_p1, .inr (4, [.ref q_p1_distinct, .ref q_p1_ranks, .ref q_p1_weights, .ref q_p1_isFirst])), (q_p1_distinct, .inl (cI, 6, .inl v_p1_distinct))]) (va_A [(h0, .inr (1, [.ref q_columns, .int v_size])), (q_columns, .inl (cI, 6, .inl v_columns)), (q_p1, .inr (4, [.ref q_p1_distinct, .ref q_p1_ranks, .ref q_p1_weights, .ref q_p1_isFirst])), (q_p1_distinct, .inl (cI, 6, .inl v_p1_distinct))] sz)) 0 0 (va_A [(h0, .inr (1, [.ref q_columns, .int v_size])), (q_columns, .inl (cI, 6, .inl v_columns)), (q_p1, .inr (4, [.ref q_p1_distinct, .ref q_p1_ranks, .ref q_p1_weights, .ref q_p1_isFirst])), (q_p1_distinct, .inl (cI, 6, .inl v_p1_distinct))] sz) := by
  refine Met.ofW (cc := cX2_sortByFewest) (maxL := 5) (ret := none) (by decide +kernel) rfl ?_
  intro p e s m args below meth c s₁ B hml hv
  obtain ⟨hav, hsz, hP, hK, hD0⟩ := hv
  have hx := B.exec
  have hb := B.bytes
  have hr := B.returns
  have hts := atoms_spec (ws := wsX2_sortByFewest) B.pre
  have hown : s.vm.findClass RX2 = some m.cls := findClass_of_methodNamed B.named
  have hlocks := B.notSynchronized
  subst hsz
  have hD := hD0.self (sz := s.heap.size)
  generalize hAe : va_A [(h0, .inr (1, [.ref q_columns, .int v_size])), (q_columns, .inl (cI, 6, .inl v_columns)), (q_p1, .inr (4, [.ref q_p1_distinct, .ref q_p1_ranks, .ref q_p1_weights, .ref q_p1_isFirst])), (q_p1_distinct, .inl (cI, 6, .inl v_p1_distinct))] s.heap.size = A at hD ⊢
  have hA : ∀ q : Nat, s.heap.size ≤ q → A q := fun q h => by rw [← hAe]; exact Or.inr h
  have hS : va_S A s.heap s.heap [] := va_S.rf
  refine wstart (rm := rm_X2_sortByFewest) hav (Nat.le_of_ble_eq_true rfl) (fun QQ ls hQQ hl => ?_)
  have hl : lv_has ls 5 [(0, .ref h0), (1, .ref q_p1)] := hl
  have hi_X2 : ∀ w ∈ u_ws RX2 TX2 2, w ∈ wsX2_sortByFewest := by decide +kernel
  have hi_X6 : ∀ w ∈ u_ws RX6 TX6 4, w ∈ wsX2_sortByFewest := by decide +kernel
  have h := hf
  unfold f_X2_sortByFewest at h
  refine lv_iconst (v := 1) hx hb dX2_sortByFewest_0 (by decide) ?_
  refine lv_istore_n (lv' := [(2, .int (1 : Int32)), (0, .ref h0), (1, .ref q_p1)]) hx hb dX2_sortByFewest_1 rfl hl (by decide) rfl (fun ls hl => ?_)
  have LP_2033 : ∀ (n : Nat) (x2_2 : Int32) (v_columns_2 : (Nat → Int32)) (w : (Nat → Int32)) (H : Heap) (locs : List Loc) (ls : Array Slot), L_X2_sortByFewest_2 v_size v_p1_distinct n x2_2 v_columns_2 = some w → va_P (dC, dI) vwCl [(h0, .inr (1, [.ref q_columns, .int v_size])), (q_columns, .inl (cI, 6, .inl v_columns_2)), (q_p1, .inr (4, [.ref q_p1_distinct, .ref q_p1_ranks, .ref q_p1_weights, .ref q_p1_isFirst])), (q_p1_distinct, .inl (cI, 6, .inl v_p1_distinct))] H → va_D A [(h0, .inr (1, [.ref q_columns, .int v_size])), (q_columns, .inl (cI, 6, .inl v_columns_2)), (q_p1, .inr (4, [.ref q_p1_distinct, .ref q_p1_ranks, .ref q_p1_weights, .ref q_p1_isFirst])), (q_p1_distinct, .inl (cI, 6, .inl v_p1_distinct))] → va_S A s.heap H locs → lv_has ls 5 [(0, .ref h0), (1, .ref q_p1), (2, .int x2_2)] → (∀ (H : Heap) (locs : List Loc) (ls : Array Slot), va_P (dC, dI) vwCl [(h0, .inr (1, [.ref q_columns, .int v_size])), (q_columns, .inl (cI, 6, .inl w)), (q_p1, .inr (4, [.ref q_p1_distinct, .ref q_p1_ranks, .ref q_p1_weights, .ref q_p1_isFirst])), (q_p1_distinct, .inl (cI, 6, .inl v_p1_distinct))] H → va_D A [(h0, .inr (1, [.ref q_columns, .int v_size])), (q_columns, .inl (cI, 6, .inl w)), (q_p1, .inr (4, [.ref q_p1_distinct, .ref q_p1_ranks, .ref q_p1_weights, .ref q_p1_isFirst])), (q_p1_distinct, .inl (cI, 6, .inl v_p1_distinct))] → va_S A s.heap H locs → lv_has ls 5 [] → W p l e rm_X2_sortByFewest s m args below meth c H locs 0 0 QQ (F0 m 84 ls [])) → W p l e rm_X2_sortByFewest s m args below meth c H locs 0 0 QQ (F0 m 2 ls []) := by
    intro n
    induction n with
    | zero => intro x2_2 v_columns_2 w H locs ls h; exact absurd (show none = some w from h) nofun
    | succ n ih =>
      intro x2_2 v_columns_2 w H locs ls h hP hD hS hl K
      rw [L_X2_sortByFewest_2] at h
      refine lv_iload_n hx hb dX2_sortByFewest_2 rfl (lv_at hl 2 rfl) ?_
      refine lv_aload_n hx hb dX2_sortByFewest_3 rfl (lv_at hl 0 rfl) ?_
      refine va_get (D := (dC, dI)) (ci := 1) (v := .int v_size) (C := RX2) (T := TX2) (N := 2) hx hb hts hi_X2 hown hK hP 0 rfl rfl 1 (by decide) (hts _ (List.mem_of_getElem? (i := 1) rfl)) (fun _ h9 => h9) rfl dX2_sortByFewest_4 ?_
      refine lv_icmp_ge (tgt := 84) hx hb dX2_sortByFewest_7 (by decide) (fun c_2022 => ?_) (fun c_2022 => ?_)
      · replace h := op c_2022 h
        have ho := Option.some.inj h
        subst ho
        exact K H _ ls hP hD hS (lv_sub hl [] rfl)
      · replace h := on c_2022 h
        refine lv_aload_n hx hb dX2_sortByFewest_10 rfl (lv_at hl 0 rfl) ?_
        refine va_get (D := (dC, dI)) (ci := 1) (v := .ref q_columns) (C := RX2) (T := TX2) (N := 2) hx hb hts hi_X2 hown hK hP 0 rfl rfl 0 (by decide) (hts _ (List.mem_of_getElem? (i := 2) rfl)) (fun _ h9 => h9) rfl dX2_sortByFewest_11 ?_
        refine lv_iload_n hx hb dX2_sortByFewest_14 rfl (lv_at hl 2 rfl) ?_
        obtain ⟨hi_2023, h⟩ := og h
        refine va_iald hx hb hK hP 1 0 rfl rfl hi_2023 dX2_sortByFewest_15 ?_
        refine lv_istore_n (lv' := [(3, .int (v_columns_2 (x2_2).toNatClampNeg)), (0, .ref h0), (1, .ref q_p1), (2, .int x2_2)]) hx hb dX2_sortByFewest_16 rfl hl (by decide) rfl (fun ls hl => ?_)
        refine lv_iload_n hx hb dX2_sortByFewest_17 rfl (lv_at hl 3 rfl) ?_
        refine lv_istore (lv' := [(4, .int x2_2), (3, .int (v_columns_2 (x2_2).toNatClampNeg)), (0, .ref h0), (1, .ref q_p1), (2, .int x2_2)]) hx hb dX2_sortByFewest_18 hl (by decide) rfl (fun ls hl => ?_)
        have LP_2031 : ∀ (n : Nat) (x4_20 : Int32) (v_columns_20 : (Nat → Int32)) (w : (Int32 × (Nat → Int32))) (H : Heap) (locs : List Loc) (ls : Array Slot), L_X2_sortByFewest_20 v_p1_distinct x2_2 v_columns_2 n x4_20 v_columns_20 = some w → va_P (dC, dI) vwCl [(h0, .inr (1, [.ref q_columns, .int v_size])), (q_columns, .inl (cI, 6, .inl v_columns_20)), (q_p1, .inr (4, [.ref q_p1_distinct, .ref q_p1_ranks, .ref q_p1_weights, .ref q_p1_isFirst])), (q_p1_distinct, .inl (cI, 6, .inl v_p1_distinct))] H → va_D A [(h0, .inr (1, [.ref q_columns, .int v_size])), (q_columns, .inl (cI, 6, .inl v_columns_20)), (q_p1, .inr (4, [.ref q_p1_distinct, .ref q_p1_ranks, .ref q_p1_weights, .ref q_p1_isFirst])), (q_p1_distinct, .inl (cI, 6, .inl v_p1_distinct))] → va_S A s.heap H locs → lv_has ls 5 [(0, .ref h0), (1, .ref q_p1), (2, .int x2_2), (3, .int (v_columns_2 (x2_2).toNatClampNeg)), (4, .int x4_20)] → (∀ (H : Heap) (locs : List Loc) (ls : Array Slot), va_P (dC, dI) vwCl [(h0, .inr (1, [.ref q_columns, .int v_size])), (q_columns, .inl (cI, 6, .inl w.2)), (q_p1, .inr (4, [.ref q_p1_distinct, .ref q_p1_ranks, .ref q_p1_weights, .ref q_p1_isFirst])), (q_p1_distinct, .inl (cI, 6, .inl v_p1_distinct))] H → va_D A [(h0, .inr (1, [.ref q_columns, .int v_size])), (q_columns, .inl (cI, 6, .inl w.2)), (q_p1, .inr (4, [.ref q_p1_distinct, .ref q_p1_ranks, .ref q_p1_weights, .ref q_p1_isFirst])), (q_p1_distinct, .inl (cI, 6, .inl v_p1_distinct))] → va_S A s.heap H locs → lv_has ls 5 [(0, .ref h0), (1, .ref q_p1), (2, .int x2_2), (3, .int (v_columns_2 (x2_2).toNatClampNeg)), (4, .int w.1)] → W p l e rm_X2_sortByFewest s m args below meth c H locs 0 0 QQ (F0 m 70 ls [])) → W p l e rm_X2_sortByFewest s m args below meth c H locs 0 0 QQ (F0 m 20 ls []) := by
          intro n
          induction n with
          | zero => intro x4_20 v_columns_20 w H locs ls h; exact absurd (show none = some w from h) nofun
          | succ n ih =>
            intro x4_20 v_columns_20 w H locs ls h hP hD hS hl K
            rw [L_X2_sortByFewest_20] at h
            refine lv_iload hx hb dX2_sortByFewest_20 (lv_at hl 4 rfl) ?_
            refine lv_if_le (tgt := 70) hx hb dX2_sortByFewest_22 (by decide) (fun c_2024 => ?_) (fun c_2024 => ?_)
            · replace h := op c_2024 h
              have ho := Option.some.inj h
              subst ho
              exact K H _ ls hP hD hS (lv_sub hl [0, 1, 2, 3, 4] rfl)
            · replace h := on c_2024 h
              refine lv_aload_n hx hb dX2_sortByFewest_25 rfl (lv_at hl 1 rfl) ?_
              refine va_get (D := (dC, dI)) (ci := 4) (v := .ref q_p1_distinct) (C := RX6) (T := TX6) (N := 4) hx hb hts hi_X6 hown hK hP 2 rfl rfl 0 (by decide) (hts _ (List.mem_of_getElem? (i := 3) rfl)) (fun _ h9 => h9) rfl dX2_sortByFewest_26 ?_
              refine lv_aload_n hx hb dX2_sortByFewest_29 rfl (lv_at hl 0 rfl) ?_
              refine va_get (D := (dC, dI)) (ci := 1) (v := .ref q_columns) (C := RX2) (T := TX2) (N := 2) hx hb hts hi_X2 hown hK hP 0 rfl rfl 0 (by decide) (hts _ (List.mem_of_getElem? (i := 2) rfl)) (fun _ h9 => h9) rfl dX2_sortByFewest_30 ?_
              refine lv_iload hx hb dX2_sortByFewest_33 (lv_at hl 4 rfl) ?_
              refine lv_iconst (v := 1) hx hb dX2_sortByFewest_35 (by decide) ?_
              refine lv_isub hx hb dX2_sortByFewest_36 ?_
              obtain ⟨hi_2025, h⟩ := og h
              refine va_iald hx hb hK hP 1 0 rfl rfl hi_2025 dX2_sortByFewest_37 ?_
              obtain ⟨hi_2026, h⟩ := og h
              refine va_iald hx hb hK hP 3 0 rfl rfl hi_2026 dX2_sortByFewest_38 ?_
              refine lv_aload_n hx hb dX2_sortByFewest_39 rfl (lv_at hl 1 rfl) ?_
              refine va_get (D := (dC, dI)) (ci := 4) (v := .ref q_p1_distinct) (C := RX6) (T := TX6) (N := 4) hx hb hts hi_X6 hown hK hP 2 rfl rfl 0 (by decide) (hts _ (List.mem_of_getElem? (i := 3) rfl)) (fun _ h9 => h9) rfl dX2_sortByFewest_40 ?_
              refine lv_iload_n hx hb dX2_sortByFewest_43 rfl (lv_at hl 3 rfl) ?_
              obtain ⟨hi_2027, h⟩ := og h
              refine va_iald hx hb hK hP 3 0 rfl rfl hi_2027 dX2_sortByFewest_44 ?_
              refine lv_icmp_le (tgt := 70) hx hb dX2_sortByFewest_45 (by decide) (fun c_2028 => ?_) (fun c_2028 => ?_)
              · replace h := op c_2028 h
                have ho := Option.some.inj h
                subst ho
                exact K H _ ls hP hD hS (lv_sub hl [0, 1, 2, 3, 4] rfl)
              · replace h := on c_2028 h
                refine lv_aload_n hx hb dX2_sortByFewest_48 rfl (lv_at hl 0 rfl) ?_
                refine va_get (D := (dC, dI)) (ci := 1) (v := .ref q_columns) (C := RX2) (T := TX2) (N := 2) hx hb hts hi_X2 hown hK hP 0 rfl rfl 0 (by decide) (hts _ (List.mem_of_getElem? (i := 2) rfl)) (fun _ h9 => h9) rfl dX2_sortByFewest_49 ?_
                refine lv_iload hx hb dX2_sortByFewest_52 (lv_at hl 4 rfl) ?_
                refine lv_aload_n hx hb dX2_sortByFewest_54 rfl (lv_at hl 0 rfl) ?_
                refine va_get (D := (dC, dI)) (ci := 1) (v := .ref q_columns) (C := RX2) (T := TX2) (N := 2) hx hb hts hi_X2 hown hK hP 0 rfl rfl 0 (by decide) (hts _ (List.mem_of_getElem? (i := 2) rfl)) (fun _ h9 => h9) rfl dX2_sortByFewest_55 ?_
                refine lv_iload hx hb dX2_sortByFewest_58 (lv_at hl 4 rfl) ?_
                refine lv_iconst (v := 1) hx hb dX2_sortByFewest_60 (by decide) ?_
                refine lv_isub hx hb dX2_sortByFewest_61 ?_
                obtain ⟨hi_2029, h⟩ := og h
                refine va_iald hx hb hK hP 1 0 rfl rfl hi_2029 dX2_sortByFewest_62 ?_
                obtain ⟨hi_2030, h⟩ := og h
                refine va_iast hx hb hK hP hD hS 1 0 rfl rfl hi_2030 dX2_sortByFewest_63 (fun H locs hP hD hS => ?_)
                replace hP : va_P (dC, dI) vwCl [(h0, .inr (1, [.ref q_columns, .int v_size])), (q_columns, .inl (cI, 6, .inl (upd v_columns_20 (x4_20).toNatClampNeg (v_columns_20 ((x4_20 - (1 : Int32))).toNatClampNeg)))), (q_p1, .inr (4, [.ref q_p1_distinct, .ref q_p1_ranks, .ref q_p1_weights, .ref q_p1_isFirst])), (q_p1_distinct, .inl (cI, 6, .inl v_p1_distinct))] H := hP
                replace hD : va_D A [(h0, .inr (1, [.ref q_columns, .int v_size])), (q_columns, .inl (cI, 6, .inl (upd v_columns_20 (x4_20).toNatClampNeg (v_columns_20 ((x4_20 - (1 : Int32))).toNatClampNeg)))), (q_p1, .inr (4, [.ref q_p1_distinct, .ref q_p1_ranks, .ref q_p1_weights, .ref q_p1_isFirst])), (q_p1_distinct, .inl (cI, 6, .inl v_p1_distinct))] := hD
                refine lv_iinc (v := (x4_20 + (-1))) (lv' := [(4, .int (x4_20 + (-1))), (0, .ref h0), (1, .ref q_p1), (2, .int x2_2), (3, .int (v_columns_2 (x2_2).toNatClampNeg))]) hx hb dX2_sortByFewest_64 hl (k := 4) rfl (by rfl) (by decide) rfl (fun ls hl => ?_)
                refine lv_goto (tgt := 20) hx hb dX2_sortByFewest_67 (by decide) ?_
                exact ih (x4_20 + (-1)) (upd v_columns_20 (x4_20).toNatClampNeg (v_columns_20 ((x4_20 - (1 : Int32))).toNatClampNeg)) w H _ ls h hP hD hS (lv_sub hl [1, 2, 3, 4, 0] rfl) K
        obtain ⟨w_2031, hw_2031, h⟩ := ob h
        refine LP_2031 fu x2_2 v_columns_2 w_2031 H _ ls hw_2031 hP hD hS (lv_sub hl [2, 3, 4, 1, 0] rfl) (fun H locs ls hP hD hS hl => ?_)
        refine lv_aload_n hx hb dX2_sortByFewest_70 rfl (lv_at hl 0 rfl) ?_
        refine va_get (D := (dC, dI)) (ci := 1) (v := .ref q_columns) (C := RX2) (T := TX2) (N := 2) hx hb hts hi_X2 hown hK hP 0 rfl rfl 0 (by decide) (hts _ (List.mem_of_getElem? (i := 2) rfl)) (fun _ h9 => h9) rfl dX2_sortByFewest_71 ?_
        refine lv_iload hx hb dX2_sortByFewest_74 (lv_at hl 4 rfl) ?_
        refine lv_iload_n hx hb dX2_sortByFewest_76 rfl (lv_at hl 3 rfl) ?_
        obtain ⟨hi_2032, h⟩ := og h
        refine va_iast hx hb hK hP hD hS 1 0 rfl rfl hi_2032 dX2_sortByFewest_77 (fun H locs hP hD hS => ?_)
        replace hP : va_P (dC, dI) vwCl [(h0, .inr (1, [.ref q_columns, .int v_size])), (q_columns, .inl (cI, 6, .inl (upd w_2031.2 (w_2031.1).toNatClampNeg (v_columns_2 (x2_2).toNatClampNeg)))), (q_p1, .inr (4, [.ref q_p1_distinct, .ref q_p1_ranks, .ref q_p1_weights, .ref q_p1_isFirst])), (q_p1_distinct, .inl (cI, 6, .inl v_p1_distinct))] H := hP
        replace hD : va_D A [(h0, .inr (1, [.ref q_columns, .int v_size])), (q_columns, .inl (cI, 6, .inl (upd w_2031.2 (w_2031.1).toNatClampNeg (v_columns_2 (x2_2).toNatClampNeg)))), (q_p1, .inr (4, [.ref q_p1_distinct, .ref q_p1_ranks, .ref q_p1_weights, .ref q_p1_isFirst])), (q_p1_distinct, .inl (cI, 6, .inl v_p1_distinct))] := hD
        refine lv_iinc (v := (x2_2 + 1)) (lv' := [(2, .int (x2_2 + 1)), (0, .ref h0), (1, .ref q_p1), (3, .int (v_columns_2 (x2_2).toNatClampNeg)), (4, .int w_2031.1)]) hx hb dX2_sortByFewest_78 hl (k := 2) rfl (by rfl) (by decide) rfl (fun ls hl => ?_)
        refine lv_goto (tgt := 2) hx hb dX2_sortByFewest_81 (by decide) ?_
        exact ih (x2_2 + 1) (upd w_2031.2 (w_2031.1).toNatClampNeg (v_columns_2 (x2_2).toNatClampNeg)) w H _ ls h hP hD hS (lv_sub hl [1, 2, 0] rfl) K
  obtain ⟨w_2033, hw_2033, h⟩ := ob h
  refine LP_2033 fu (1 : Int32) v_columns w_2033 s.heap _ ls hw_2033 hP hD hS (lv_sub hl [1, 2, 0] rfl) (fun H locs ls hP hD hS hl => ?_)
  rw [hQQ]
  have ho := Option.some.inj h
  subst ho
  exact W.vret hx hb hr (fun t ht hW => ⟨⟨(), rfl, trivial, by rw [ht]; exact hP, va_K.moved hW.alike hK, hD⟩, hS.F ht⟩) hS.2.2 dX2_sortByFewest_84
def f_X2_exchange (v_columns : Nat → Int32) (x1 : Int32) (x2 : Int32) : Option (Nat → Int32) :=
  (if x1 < 0 ∨ 6 ≤ (x1).toNatClampNeg then none else (if x2 < 0 ∨ 6 ≤ (x2).toNatClampNeg then none else (if x1 < 0 ∨ 6 ≤ (x1).toNatClampNeg then none else (if x2 < 0 ∨ 6 ≤ (x2).toNatClampNeg then none else (some (upd (upd v_columns (x1).toNatClampNeg (v_columns (x2).toNatClampNeg)) (x2).toNatClampNeg (v_columns (x1).toNatClampNeg)))))))
abbrev rm_X2_exchange : Room := { frames := 0, cells := 0, slots := 0, locals := 0 }
set_option maxHeartbeats 4000000 in
set_option maxRecDepth 100000 in
theorem c_X2_exchange (l : Launch) (dC : Nat → ClassId) (dI : Nat → Nat → Nat) (cB cC cI cJ cZ cT : ClassId) (h0 q_columns : Nat) (sz : Nat) (v_size : Int32) (v_columns : Nat → Int32) (x1 : Int32) (x2 : Int32) (o : (Nat → Int32)) (hf : f_X2_exchange v_columns x1 x2 = some o) : Met l yX2_exchange wsX2_exchange rm_X2_exchange (va_Pc [.ref h0, .int x1, .int x2] (fun U => U.heap.size = sz ∧ va_P (dC, dI) vwCl [(h0, .inr (1, [.ref q_columns, .int v_size])), (q_columns, .inl (cI, 6, .inl v_columns))] U.heap ∧ va_K (dC, dI) vwCl (tyA cB cC cI cJ cZ cT) U ∧ va_D (fun _ => True) [(h0, .inr (1, [.ref q_columns, .int v_size])), (q_columns, .inl (cI, 6, .inl v_columns))])) (va_Qv (fun _ : Unit => True) (fun _ t => va_P (dC, dI) vwCl [(h0, .inr (1, [.ref q_columns, .int v_size])), (q_columns, .inl (cI, 6, .inl o))] t.heap ∧ va_K (dC, dI) vwCl (tyA cB cC cI cJ cZ cT) t ∧ va_D (va_A [(h0, .inr (1, [.ref q_columns, .int v_size])), (q_columns, .inl (cI, 6, .inl v_columns))] sz) [(h0, .inr (1, [.ref q_columns, .int v_size])), (q_columns, .inl (cI, 6, .inl o))]) (va_A [(h0, .inr (1, [.ref q_columns, .int v_size])), (q_columns, .inl (cI, 6, .inl v_columns))] sz)) 0 0 (va_A [(h0, .inr (1, [.ref q_columns, .int v_size])), (q_columns, .inl (cI, 6, .inl v_columns))] sz) := by
  refine Met.ofW (cc := cX2_exchange) (maxL := 4) (ret := none) (by decide +kernel) rfl ?_
  intro p e s m args below meth c s₁ B hml hv
  obtain ⟨hav, hsz, hP, hK, hD0⟩ := hv
  have hx := B.exec
  have hb := B.bytes
  have hr := B.returns
  have hts := atoms_spec (ws := wsX2_exchange) B.pre
  have hown : s.vm.findClass RX2 = some m.cls := findClass_of_methodNamed B.named
  have hlocks := B.notSynchronized
  subst hsz
  have hD := hD0.self (sz := s.heap.size)
  generalize hAe : va_A [(h0, .inr (1, [.ref q_columns, .int v_size])), (q_columns, .inl (cI, 6, .inl v_columns))] s.heap.size = A at hD ⊢
  have hA : ∀ q : Nat, s.heap.size ≤ q → A q := fun q h => by rw [← hAe]; exact Or.inr h
  have hS : va_S A s.heap s.heap [] := va_S.rf
  refine wstart (rm := rm_X2_exchange) hav (Nat.le_of_ble_eq_true rfl) (fun QQ ls hQQ hl => ?_)
  have hl : lv_has ls 4 [(0, .ref h0), (1, .int x1), (2, .int x2)] := hl
  have hi_X2 : ∀ w ∈ u_ws RX2 TX2 2, w ∈ wsX2_exchange := by decide +kernel
  have h := hf
  unfold f_X2_exchange at h
  refine lv_aload_n hx hb dX2_exchange_0 rfl (lv_at hl 0 rfl) ?_
  refine va_get (D := (dC, dI)) (ci := 1) (v := .ref q_columns) (C := RX2) (T := TX2) (N := 2) hx hb hts hi_X2 hown hK hP 0 rfl rfl 0 (by decide) (hts _ (List.mem_of_getElem? (i := 1) rfl)) (fun _ h9 => h9) rfl dX2_exchange_1 ?_
  refine lv_iload_n hx hb dX2_exchange_4 rfl (lv_at hl 1 rfl) ?_
  obtain ⟨hi_2034, h⟩ := og h
  refine va_iald hx hb hK hP 1 0 rfl rfl hi_2034 dX2_exchange_5 ?_
  refine lv_istore_n (lv' := [(3, .int (v_columns (x1).toNatClampNeg)), (0, .ref h0), (1, .int x1), (2, .int x2)]) hx hb dX2_exchange_6 rfl hl (by decide) rfl (fun ls hl => ?_)
  refine lv_aload_n hx hb dX2_exchange_7 rfl (lv_at hl 1 rfl) ?_
  refine va_get (D := (dC, dI)) (ci := 1) (v := .ref q_columns) (C := RX2) (T := TX2) (N := 2) hx hb hts hi_X2 hown hK hP 0 rfl rfl 0 (by decide) (hts _ (List.mem_of_getElem? (i := 1) rfl)) (fun _ h9 => h9) rfl dX2_exchange_8 ?_
  refine lv_iload_n hx hb dX2_exchange_11 rfl (lv_at hl 2 rfl) ?_
  refine lv_aload_n hx hb dX2_exchange_12 rfl (lv_at hl 1 rfl) ?_
  refine va_get (D := (dC, dI)) (ci := 1) (v := .ref q_columns) (C := RX2) (T := TX2) (N := 2) hx hb hts hi_X2 hown hK hP 0 rfl rfl 0 (by decide) (hts _ (List.mem_of_getElem? (i := 1) rfl)) (fun _ h9 => h9) rfl dX2_exchange_13 ?_
  refine lv_iload_n hx hb dX2_exchange_16 rfl (lv_at hl 3 rfl) ?_
  obtain ⟨hi_2035, h⟩ := og h
  refine va_iald hx hb hK hP 1 0 rfl rfl hi_2035 dX2_exchange_17 ?_
  obtain ⟨hi_2036, h⟩ := og h
  refine va_iast hx hb hK hP hD hS 1 0 rfl rfl hi_2036 dX2_exchange_18 (fun H locs hP hD hS => ?_)
  replace hP : va_P (dC, dI) vwCl [(h0, .inr (1, [.ref q_columns, .int v_size])), (q_columns, .inl (cI, 6, .inl (upd v_columns (x1).toNatClampNeg (v_columns (x2).toNatClampNeg))))] H := hP
  replace hD : va_D A [(h0, .inr (1, [.ref q_columns, .int v_size])), (q_columns, .inl (cI, 6, .inl (upd v_columns (x1).toNatClampNeg (v_columns (x2).toNatClampNeg))))] := hD
  refine lv_aload_n hx hb dX2_exchange_19 rfl (lv_at hl 1 rfl) ?_
  refine va_get (D := (dC, dI)) (ci := 1) (v := .ref q_columns) (C := RX2) (T := TX2) (N := 2) hx hb hts hi_X2 hown hK hP 0 rfl rfl 0 (by decide) (hts _ (List.mem_of_getElem? (i := 1) rfl)) (fun _ h9 => h9) rfl dX2_exchange_20 ?_
  refine lv_iload_n hx hb dX2_exchange_23 rfl (lv_at hl 3 rfl) ?_
  refine lv_iload_n hx hb dX2_exchange_24 rfl (lv_at hl 0 rfl) ?_
  obtain ⟨hi_2037, h⟩ := og h
  refine va_iast hx hb hK hP hD hS 1 0 rfl rfl hi_2037 dX2_exchange_25 (fun H locs hP hD hS => ?_)
  replace hP : va_P (dC, dI) vwCl [(h0, .inr (1, [.ref q_columns, .int v_size])), (q_columns, .inl (cI, 6, .inl (upd (upd v_columns (x1).toNatClampNeg (v_columns (x2).toNatClampNeg)) (x2).toNatClampNeg (v_columns (x1).toNatClampNeg))))] H := hP
  replace hD : va_D A [(h0, .inr (1, [.ref q_columns, .int v_size])), (q_columns, .inl (cI, 6, .inl (upd (upd v_columns (x1).toNatClampNeg (v_columns (x2).toNatClampNeg)) (x2).toNatClampNeg (v_columns (x1).toNatClampNeg))))] := hD
  rw [hQQ]
  have ho := Option.some.inj h
  subst ho
  exact W.vret hx hb hr (fun t ht hW => ⟨⟨(), rfl, trivial, by rw [ht]; exact hP, va_K.moved hW.alike hK, hD⟩, hS.F ht⟩) hS.2.2 dX2_exchange_26
def L_X2_stepOn_7 (v_columns : (Nat → Int32)) : Nat → Int32 → Option Int32
  | 0, _ => none
  | n+1, x1_7 => (if x1_7 < 0 then (some x1_7) else (if x1_7 < 0 ∨ 6 ≤ (x1_7).toNatClampNeg then none else (if (x1_7 + (1 : Int32)) < 0 ∨ 6 ≤ ((x1_7 + (1 : Int32))).toNatClampNeg then none else (if (v_columns (x1_7).toNatClampNeg) ≤ (v_columns ((x1_7 + (1 : Int32))).toNatClampNeg) then (some x1_7) else (L_X2_stepOn_7 v_columns n (x1_7 + (-1)))))))
def L_X2_stepOn_47 (v_columns : (Nat → Int32)) (w_2042 : Int32) : Nat → Int32 → Option Int32
  | 0, _ => none
  | n+1, x2_47 => (if x2_47 ≤ w_2042 then (some x2_47) else (if x2_47 < 0 ∨ 6 ≤ (x2_47).toNatClampNeg then none else (if w_2042 < 0 ∨ 6 ≤ (w_2042).toNatClampNeg then none else (if (v_columns (w_2042).toNatClampNeg) ≤ (v_columns (x2_47).toNatClampNeg) then (some x2_47) else (L_X2_stepOn_47 v_columns w_2042 n (x2_47 + (-1)))))))
def L_X2_stepOn_91  : Nat → Int32 → Int32 → (Nat → Int32) → Option (Nat → Int32)
  | 0, _, _, _ => none
  | n+1, x3_91, x4_91, v_columns_91 => (if x4_91 ≤ x3_91 then (some v_columns_91) else ((f_X2_exchange v_columns_91 x3_91 x4_91).bind (fun o_2052 => (L_X2_stepOn_91 n (x3_91 + 1) (x4_91 + (-1)) o_2052))))
def f_X2_stepOn (v_size : Int32) (v_columns : Nat → Int32) : Option (Bool × (Nat → Int32)) :=
  ((L_X2_stepOn_7 v_columns fu (v_size - (2 : Int32))).bind (fun w_2042 => (if 0 ≤ w_2042 then ((L_X2_stepOn_47 v_columns w_2042 fu (v_size - (1 : Int32))).bind (fun w_2048 => ((f_X2_exchange v_columns w_2042 w_2048).bind (fun o_2049 => ((L_X2_stepOn_91 fu (w_2042 + (1 : Int32)) (v_size - (1 : Int32)) o_2049).bind (fun w_2054 => (some (true, w_2054)))))))) else (some (false, v_columns)))))
abbrev rm_X2_stepOn : Room := { frames := 1, cells := 0, slots := 0, locals := 23 }
set_option maxHeartbeats 4000000 in
set_option maxRecDepth 100000 in
theorem c_X2_stepOn (l : Launch) (dC : Nat → ClassId) (dI : Nat → Nat → Nat) (cB cC cI cJ cZ cT : ClassId) (h0 q_columns : Nat) (sz : Nat) (v_size : Int32) (v_columns : Nat → Int32) (o : (Bool × (Nat → Int32))) (hf : f_X2_stepOn v_size v_columns = some o) : Met l yX2_stepOn wsX2_stepOn rm_X2_stepOn (va_Pc [.ref h0] (fun U => U.heap.size = sz ∧ va_P (dC, dI) vwCl [(h0, .inr (1, [.ref q_columns, .int v_size])), (q_columns, .inl (cI, 6, .inl v_columns))] U.heap ∧ va_K (dC, dI) vwCl (tyA cB cC cI cJ cZ cT) U ∧ va_D (fun _ => True) [(h0, .inr (1, [.ref q_columns, .int v_size])), (q_columns, .inl (cI, 6, .inl v_columns))])) (va_Qi (fun (r : Int32) (_ : Unit) => b2i o.1 = r) (fun _ t => va_P (dC, dI) vwCl [(h0, .inr (1, [.ref q_columns, .int v_size])), (q_columns, .inl (cI, 6, .inl o.2))] t.heap ∧ va_K (dC, dI) vwCl (tyA cB cC cI cJ cZ cT) t ∧ va_D (va_A [(h0, .inr (1, [.ref q_columns, .int v_size])), (q_columns, .inl (cI, 6, .inl v_columns))] sz) [(h0, .inr (1, [.ref q_columns, .int v_size])), (q_columns, .inl (cI, 6, .inl o.2))]) (va_A [(h0, .inr (1, [.ref q_columns, .int v_size])), (q_columns, .inl (cI, 6, .inl v_columns))] sz)) 0 0 (va_A [(h0, .inr (1, [.ref q_columns, .int v_size])), (q_columns, .inl (cI, 6, .inl v_columns))] sz) := by
  refine Met.ofW (cc := cX2_stepOn) (maxL := 5) (ret := (some .boolean)) (by decide +kernel) rfl ?_
  intro p e s m args below meth c s₁ B hml hv
  obtain ⟨hav, hsz, hP, hK, hD0⟩ := hv
  have hx := B.exec
  have hb := B.bytes
  have hr := B.returns
  have hts := atoms_spec (ws := wsX2_stepOn) B.pre
  have hown : s.vm.findClass RX2 = some m.cls := findClass_of_methodNamed B.named
  have hlocks := B.notSynchronized
  subst hsz
  have hD := hD0.self (sz := s.heap.size)
  generalize hAe : va_A [(h0, .inr (1, [.ref q_columns, .int v_size])), (q_columns, .inl (cI, 6, .inl v_columns))] s.heap.size = A at hD ⊢
  have hA : ∀ q : Nat, s.heap.size ≤ q → A q := fun q h => by rw [← hAe]; exact Or.inr h
  have hS : va_S A s.heap s.heap [] := va_S.rf
  refine wstart (rm := rm_X2_stepOn) hav (Nat.le_of_ble_eq_true rfl) (fun QQ ls hQQ hl => ?_)
  have hl : lv_has ls 5 [(0, .ref h0)] := hl
  have hi_X2 : ∀ w ∈ u_ws RX2 TX2 2, w ∈ wsX2_stepOn := by decide +kernel
  have h := hf
  unfold f_X2_stepOn at h
  refine lv_aload_n hx hb dX2_stepOn_0 rfl (lv_at hl 0 rfl) ?_
  refine va_get (D := (dC, dI)) (ci := 1) (v := .int v_size) (C := RX2) (T := TX2) (N := 2) hx hb hts hi_X2 hown hK hP 0 rfl rfl 1 (by decide) (hts _ (List.mem_of_getElem? (i := 1) rfl)) (fun _ h9 => h9) rfl dX2_stepOn_1 ?_
  refine lv_iconst (v := 2) hx hb dX2_stepOn_4 (by decide) ?_
  refine lv_isub hx hb dX2_stepOn_5 ?_
  refine lv_istore_n (lv' := [(1, .int (v_size - (2 : Int32))), (0, .ref h0)]) hx hb dX2_stepOn_6 rfl hl (by decide) rfl (fun ls hl => ?_)
  have LP_2042 : ∀ (n : Nat) (x1_7 : Int32) (w : Int32) (H : Heap) (locs : List Loc) (ls : Array Slot), L_X2_stepOn_7 v_columns n x1_7 = some w → va_P (dC, dI) vwCl [(h0, .inr (1, [.ref q_columns, .int v_size])), (q_columns, .inl (cI, 6, .inl v_columns))] H → va_D A [(h0, .inr (1, [.ref q_columns, .int v_size])), (q_columns, .inl (cI, 6, .inl v_columns))] → va_S A s.heap H locs → lv_has ls 5 [(0, .ref h0), (1, .int x1_7)] → (∀ (H : Heap) (locs : List Loc) (ls : Array Slot), va_P (dC, dI) vwCl [(h0, .inr (1, [.ref q_columns, .int v_size])), (q_columns, .inl (cI, 6, .inl v_columns))] H → va_D A [(h0, .inr (1, [.ref q_columns, .int v_size])), (q_columns, .inl (cI, 6, .inl v_columns))] → va_S A s.heap H locs → lv_has ls 5 [(0, .ref h0), (1, .int w)] → W p l e rm_X2_stepOn s m args below meth c H locs 0 0 QQ (F0 m 34 ls [])) → W p l e rm_X2_stepOn s m args below meth c H locs 0 0 QQ (F0 m 7 ls []) := by
    intro n
    induction n with
    | zero => intro x1_7 w H locs ls h; exact absurd (show none = some w from h) nofun
    | succ n ih =>
      intro x1_7 w H locs ls h hP hD hS hl K
      rw [L_X2_stepOn_7] at h
      refine lv_iload_n hx hb dX2_stepOn_7 rfl (lv_at hl 1 rfl) ?_
      refine lv_if_lt (tgt := 34) hx hb dX2_stepOn_8 (by decide) (fun c_2038 => ?_) (fun c_2038 => ?_)
      · replace h := op c_2038 h
        have ho := Option.some.inj h
        subst ho
        exact K H _ ls hP hD hS (lv_sub hl [0, 1] rfl)
      · replace h := on c_2038 h
        refine lv_aload_n hx hb dX2_stepOn_11 rfl (lv_at hl 0 rfl) ?_
        refine va_get (D := (dC, dI)) (ci := 1) (v := .ref q_columns) (C := RX2) (T := TX2) (N := 2) hx hb hts hi_X2 hown hK hP 0 rfl rfl 0 (by decide) (hts _ (List.mem_of_getElem? (i := 2) rfl)) (fun _ h9 => h9) rfl dX2_stepOn_12 ?_
        refine lv_iload_n hx hb dX2_stepOn_15 rfl (lv_at hl 1 rfl) ?_
        obtain ⟨hi_2039, h⟩ := og h
        refine va_iald hx hb hK hP 1 0 rfl rfl hi_2039 dX2_stepOn_16 ?_
        refine lv_aload_n hx hb dX2_stepOn_17 rfl (lv_at hl 0 rfl) ?_
        refine va_get (D := (dC, dI)) (ci := 1) (v := .ref q_columns) (C := RX2) (T := TX2) (N := 2) hx hb hts hi_X2 hown hK hP 0 rfl rfl 0 (by decide) (hts _ (List.mem_of_getElem? (i := 2) rfl)) (fun _ h9 => h9) rfl dX2_stepOn_18 ?_
        refine lv_iload_n hx hb dX2_stepOn_21 rfl (lv_at hl 1 rfl) ?_
        refine lv_iconst (v := 1) hx hb dX2_stepOn_22 (by decide) ?_
        refine lv_iadd hx hb dX2_stepOn_23 ?_
        obtain ⟨hi_2040, h⟩ := og h
        refine va_iald hx hb hK hP 1 0 rfl rfl hi_2040 dX2_stepOn_24 ?_
        refine lv_icmp_le (tgt := 34) hx hb dX2_stepOn_25 (by decide) (fun c_2041 => ?_) (fun c_2041 => ?_)
        · replace h := op c_2041 h
          have ho := Option.some.inj h
          subst ho
          exact K H _ ls hP hD hS (lv_sub hl [0, 1] rfl)
        · replace h := on c_2041 h
          refine lv_iinc (v := (x1_7 + (-1))) (lv' := [(1, .int (x1_7 + (-1))), (0, .ref h0)]) hx hb dX2_stepOn_28 hl (k := 1) rfl (by rfl) (by decide) rfl (fun ls hl => ?_)
          refine lv_goto (tgt := 7) hx hb dX2_stepOn_31 (by decide) ?_
          exact ih (x1_7 + (-1)) w H _ ls h hP hD hS (lv_sub hl [1, 0] rfl) K
  obtain ⟨w_2042, hw_2042, h⟩ := ob h
  refine LP_2042 fu (v_size - (2 : Int32)) w_2042 s.heap _ ls hw_2042 hP hD hS (lv_sub hl [1, 0] rfl) (fun H locs ls hP hD hS hl => ?_)
  refine lv_iload_n hx hb dX2_stepOn_34 rfl (lv_at hl 1 rfl) ?_
  refine lv_if_ge (tgt := 40) hx hb dX2_stepOn_35 (by decide) (fun c_2043 => ?_) (fun c_2043 => ?_)
  · replace h := op c_2043 h
    refine lv_aload_n hx hb dX2_stepOn_40 rfl (lv_at hl 0 rfl) ?_
    refine va_get (D := (dC, dI)) (ci := 1) (v := .int v_size) (C := RX2) (T := TX2) (N := 2) hx hb hts hi_X2 hown hK hP 0 rfl rfl 1 (by decide) (hts _ (List.mem_of_getElem? (i := 1) rfl)) (fun _ h9 => h9) rfl dX2_stepOn_41 ?_
    refine lv_iconst (v := 1) hx hb dX2_stepOn_44 (by decide) ?_
    refine lv_isub hx hb dX2_stepOn_45 ?_
    refine lv_istore_n (lv' := [(2, .int (v_size - (1 : Int32))), (0, .ref h0), (1, .int w_2042)]) hx hb dX2_stepOn_46 rfl hl (by decide) rfl (fun ls hl => ?_)
    have LP_2048 : ∀ (n : Nat) (x2_47 : Int32) (w : Int32) (H : Heap) (locs : List Loc) (ls : Array Slot), L_X2_stepOn_47 v_columns w_2042 n x2_47 = some w → va_P (dC, dI) vwCl [(h0, .inr (1, [.ref q_columns, .int v_size])), (q_columns, .inl (cI, 6, .inl v_columns))] H → va_D A [(h0, .inr (1, [.ref q_columns, .int v_size])), (q_columns, .inl (cI, 6, .inl v_columns))] → va_S A s.heap H locs → lv_has ls 5 [(0, .ref h0), (1, .int w_2042), (2, .int x2_47)] → (∀ (H : Heap) (locs : List Loc) (ls : Array Slot), va_P (dC, dI) vwCl [(h0, .inr (1, [.ref q_columns, .int v_size])), (q_columns, .inl (cI, 6, .inl v_columns))] H → va_D A [(h0, .inr (1, [.ref q_columns, .int v_size])), (q_columns, .inl (cI, 6, .inl v_columns))] → va_S A s.heap H locs → lv_has ls 5 [(0, .ref h0), (1, .int w_2042), (2, .int w)] → W p l e rm_X2_stepOn s m args below meth c H locs 0 0 QQ (F0 m 73 ls [])) → W p l e rm_X2_stepOn s m args below meth c H locs 0 0 QQ (F0 m 47 ls []) := by
      intro n
      induction n with
      | zero => intro x2_47 w H locs ls h; exact absurd (show none = some w from h) nofun
      | succ n ih =>
        intro x2_47 w H locs ls h hP hD hS hl K
        rw [L_X2_stepOn_47] at h
        refine lv_iload_n hx hb dX2_stepOn_47 rfl (lv_at hl 2 rfl) ?_
        refine lv_iload_n hx hb dX2_stepOn_48 rfl (lv_at hl 1 rfl) ?_
        refine lv_icmp_le (tgt := 73) hx hb dX2_stepOn_49 (by decide) (fun c_2044 => ?_) (fun c_2044 => ?_)
        · replace h := op c_2044 h
          have ho := Option.some.inj h
          subst ho
          exact K H _ ls hP hD hS (lv_sub hl [0, 1, 2] rfl)
        · replace h := on c_2044 h
          refine lv_aload_n hx hb dX2_stepOn_52 rfl (lv_at hl 0 rfl) ?_
          refine va_get (D := (dC, dI)) (ci := 1) (v := .ref q_columns) (C := RX2) (T := TX2) (N := 2) hx hb hts hi_X2 hown hK hP 0 rfl rfl 0 (by decide) (hts _ (List.mem_of_getElem? (i := 2) rfl)) (fun _ h9 => h9) rfl dX2_stepOn_53 ?_
          refine lv_iload_n hx hb dX2_stepOn_56 rfl (lv_at hl 2 rfl) ?_
          obtain ⟨hi_2045, h⟩ := og h
          refine va_iald hx hb hK hP 1 0 rfl rfl hi_2045 dX2_stepOn_57 ?_
          refine lv_aload_n hx hb dX2_stepOn_58 rfl (lv_at hl 0 rfl) ?_
          refine va_get (D := (dC, dI)) (ci := 1) (v := .ref q_columns) (C := RX2) (T := TX2) (N := 2) hx hb hts hi_X2 hown hK hP 0 rfl rfl 0 (by decide) (hts _ (List.mem_of_getElem? (i := 2) rfl)) (fun _ h9 => h9) rfl dX2_stepOn_59 ?_
          refine lv_iload_n hx hb dX2_stepOn_62 rfl (lv_at hl 1 rfl) ?_
          obtain ⟨hi_2046, h⟩ := og h
          refine va_iald hx hb hK hP 1 0 rfl rfl hi_2046 dX2_stepOn_63 ?_
          refine lv_icmp_ge (tgt := 73) hx hb dX2_stepOn_64 (by decide) (fun c_2047 => ?_) (fun c_2047 => ?_)
          · replace h := op c_2047 h
            have ho := Option.some.inj h
            subst ho
            exact K H _ ls hP hD hS (lv_sub hl [0, 1, 2] rfl)
          · replace h := on c_2047 h
            refine lv_iinc (v := (x2_47 + (-1))) (lv' := [(2, .int (x2_47 + (-1))), (0, .ref h0), (1, .int w_2042)]) hx hb dX2_stepOn_67 hl (k := 2) rfl (by rfl) (by decide) rfl (fun ls hl => ?_)
            refine lv_goto (tgt := 47) hx hb dX2_stepOn_70 (by decide) ?_
            exact ih (x2_47 + (-1)) w H _ ls h hP hD hS (lv_sub hl [1, 2, 0] rfl) K
    obtain ⟨w_2048, hw_2048, h⟩ := ob h
    refine LP_2048 fu (v_size - (1 : Int32)) w_2048 H _ ls hw_2048 hP hD hS (lv_sub hl [1, 2, 0] rfl) (fun H locs ls hP hD hS hl => ?_)
    refine lv_aload_n hx hb dX2_stepOn_73 rfl (lv_at hl 0 rfl) ?_
    refine lv_iload_n hx hb dX2_stepOn_74 rfl (lv_at hl 1 rfl) ?_
    refine lv_iload_n hx hb dX2_stepOn_75 rfl (lv_at hl 2 rfl) ?_
    obtain ⟨o_2049, hr_2049, h⟩ := ob h
    have hPc := hP.sub (ws' := [(h0, .inr (1, [.ref q_columns, .int v_size])), (q_columns, .inl (cI, 6, .inl v_columns))]) [0, 1] rfl
    have hDc := hD.sub (ws' := [(h0, .inr (1, [.ref q_columns, .int v_size])), (q_columns, .inl (cI, 6, .inl v_columns))]) [0, 1] (by decide) rfl
    have hFc := va_free (wc := [(h0, .inr (1, [.ref q_columns, .int v_size])), (q_columns, .inl (cI, 6, .inl v_columns))]) hD hS hA [0, 1] rfl
    refine va_callv (va_runV (As := [.int w_2042, .int w_2048]) (rest := []) ⟨hx, hb, hml, hown, hts⟩ (c_X2_exchange l dC dI cB cC cI cJ cZ cT h0 q_columns H.size v_size v_columns w_2042 w_2048 o_2049 hr_2049) (cwV 2 hts gX2_stepOn_X2_exchange rfl rfl rfl (by decide +kernel) ⟨Nat.le_of_ble_eq_true rfl, Nat.le_of_ble_eq_true rfl⟩) ⟨blW, va_recv hK hP (ci := 1) (q0 := 0) rfl rfl, fun U hU hW => ⟨rfl, by rw [hU], by rw [hU]; exact hPc, va_K.moved hW.alike hK, hDc.weaken (fun _ _ _ _ => trivial)⟩⟩ rfl rfl hl.1 rfl (lv_room (Nat.le_of_ble_eq_true rfl)) dX2_stepOn_76 ⟨Nat.le_of_ble_eq_true rfl, Nat.le_of_ble_eq_true rfl⟩) hS (fun q _ h => hFc q h) hFc (fun u_2049 t_2049 H locs ht hvm e_2049 hB hz1 hk1 hS => ?_)
    obtain ⟨hP1, -, hD1⟩ := hB
    rw [ht] at hP1
    obtain ⟨hP, hD⟩ := va_join (wr := []) (w1 := [(h0, .inr (1, [.ref q_columns, .int v_size])), (q_columns, .inl (cI, 6, .inl o_2049))]) hP hD [0, 1] [] rfl rfl (by decide) (by decide) hk1 hFc hP1 hD1
    replace hP := hP.sub (ws' := [(h0, .inr (1, [.ref q_columns, .int v_size])), (q_columns, .inl (cI, 6, .inl o_2049))]) [0, 1] rfl
    replace hD := hD.sub (ws' := [(h0, .inr (1, [.ref q_columns, .int v_size])), (q_columns, .inl (cI, 6, .inl o_2049))]) [0, 1] (by decide) rfl
    refine lv_iload_n hx hb dX2_stepOn_79 rfl (lv_at hl 1 rfl) ?_
    refine lv_iconst (v := 1) hx hb dX2_stepOn_80 (by decide) ?_
    refine lv_iadd hx hb dX2_stepOn_81 ?_
    refine lv_istore_n (lv' := [(3, .int (w_2042 + (1 : Int32))), (0, .ref h0), (1, .int w_2042), (2, .int w_2048)]) hx hb dX2_stepOn_82 rfl hl (by decide) rfl (fun ls hl => ?_)
    refine lv_aload_n hx hb dX2_stepOn_83 rfl (lv_at hl 1 rfl) ?_
    refine va_get (D := (dC, dI)) (ci := 1) (v := .int v_size) (C := RX2) (T := TX2) (N := 2) hx hb hts hi_X2 hown hK hP 0 rfl rfl 1 (by decide) (hts _ (List.mem_of_getElem? (i := 1) rfl)) (fun _ h9 => h9) rfl dX2_stepOn_84 ?_
    refine lv_iconst (v := 1) hx hb dX2_stepOn_87 (by decide) ?_
    refine lv_isub hx hb dX2_stepOn_88 ?_
    refine lv_istore (lv' := [(4, .int (v_size - (1 : Int32))), (3, .int (w_2042 + (1 : Int32))), (0, .ref h0), (1, .int w_2042), (2, .int w_2048)]) hx hb dX2_stepOn_89 hl (by decide) rfl (fun ls hl => ?_)
    have LP_2054 : ∀ (n : Nat) (x3_91 : Int32) (x4_91 : Int32) (v_columns_91 : (Nat → Int32)) (w : (Nat → Int32)) (H : Heap) (locs : List Loc) (ls : Array Slot), L_X2_stepOn_91 n x3_91 x4_91 v_columns_91 = some w → va_P (dC, dI) vwCl [(h0, .inr (1, [.ref q_columns, .int v_size])), (q_columns, .inl (cI, 6, .inl v_columns_91))] H → va_D A [(h0, .inr (1, [.ref q_columns, .int v_size])), (q_columns, .inl (cI, 6, .inl v_columns_91))] → va_S A s.heap H locs → lv_has ls 5 [(0, .ref h0), (3, .int x3_91), (4, .int x4_91)] → (∀ (H : Heap) (locs : List Loc) (ls : Array Slot), va_P (dC, dI) vwCl [(h0, .inr (1, [.ref q_columns, .int v_size])), (q_columns, .inl (cI, 6, .inl w))] H → va_D A [(h0, .inr (1, [.ref q_columns, .int v_size])), (q_columns, .inl (cI, 6, .inl w))] → va_S A s.heap H locs → lv_has ls 5 [] → W p l e rm_X2_stepOn s m args below meth c H locs 0 0 QQ (F0 m 113 ls [])) → W p l e rm_X2_stepOn s m args below meth c H locs 0 0 QQ (F0 m 91 ls []) := by
      intro n
      induction n with
      | zero => intro x3_91 x4_91 v_columns_91 w H locs ls h; exact absurd (show none = some w from h) nofun
      | succ n ih =>
        intro x3_91 x4_91 v_columns_91 w H locs ls h hP hD hS hl K
        rw [L_X2_stepOn_91] at h
        refine lv_iload_n hx hb dX2_stepOn_91 rfl (lv_at hl 1 rfl) ?_
        refine lv_iload hx hb dX2_stepOn_92 (lv_at hl 2 rfl) ?_
        refine lv_icmp_ge (tgt := 113) hx hb dX2_stepOn_94 (by decide) (fun c_2051 => ?_) (fun c_2051 => ?_)
        · replace h := op c_2051 h
          have ho := Option.some.inj h
          subst ho
          exact K H _ ls hP hD hS (lv_sub hl [] rfl)
        · replace h := on c_2051 h
          refine lv_aload_n hx hb dX2_stepOn_97 rfl (lv_at hl 0 rfl) ?_
          refine lv_iload_n hx hb dX2_stepOn_98 rfl (lv_at hl 1 rfl) ?_
          refine lv_iload hx hb dX2_stepOn_99 (lv_at hl 2 rfl) ?_
          obtain ⟨o_2052, hr_2052, h⟩ := ob h
          have hPc := hP.sub (ws' := [(h0, .inr (1, [.ref q_columns, .int v_size])), (q_columns, .inl (cI, 6, .inl v_columns_91))]) [0, 1] rfl
          have hDc := hD.sub (ws' := [(h0, .inr (1, [.ref q_columns, .int v_size])), (q_columns, .inl (cI, 6, .inl v_columns_91))]) [0, 1] (by decide) rfl
          have hFc := va_free (wc := [(h0, .inr (1, [.ref q_columns, .int v_size])), (q_columns, .inl (cI, 6, .inl v_columns_91))]) hD hS hA [0, 1] rfl
          refine va_callv (va_runV (As := [.int x3_91, .int x4_91]) (rest := []) ⟨hx, hb, hml, hown, hts⟩ (c_X2_exchange l dC dI cB cC cI cJ cZ cT h0 q_columns H.size v_size v_columns_91 x3_91 x4_91 o_2052 hr_2052) (cwV 2 hts gX2_stepOn_X2_exchange rfl rfl rfl (by decide +kernel) ⟨Nat.le_of_ble_eq_true rfl, Nat.le_of_ble_eq_true rfl⟩) ⟨blW, va_recv hK hP (ci := 1) (q0 := 0) rfl rfl, fun U hU hW => ⟨rfl, by rw [hU], by rw [hU]; exact hPc, va_K.moved hW.alike hK, hDc.weaken (fun _ _ _ _ => trivial)⟩⟩ rfl rfl hl.1 rfl (lv_room (Nat.le_of_ble_eq_true rfl)) dX2_stepOn_101 ⟨Nat.le_of_ble_eq_true rfl, Nat.le_of_ble_eq_true rfl⟩) hS (fun q _ h => hFc q h) hFc (fun u_2052 t_2052 H locs ht hvm e_2052 hB hz1 hk1 hS => ?_)
          obtain ⟨hP1, -, hD1⟩ := hB
          rw [ht] at hP1
          obtain ⟨hP, hD⟩ := va_join (wr := []) (w1 := [(h0, .inr (1, [.ref q_columns, .int v_size])), (q_columns, .inl (cI, 6, .inl o_2052))]) hP hD [0, 1] [] rfl rfl (by decide) (by decide) hk1 hFc hP1 hD1
          replace hP := hP.sub (ws' := [(h0, .inr (1, [.ref q_columns, .int v_size])), (q_columns, .inl (cI, 6, .inl o_2052))]) [0, 1] rfl
          replace hD := hD.sub (ws' := [(h0, .inr (1, [.ref q_columns, .int v_size])), (q_columns, .inl (cI, 6, .inl o_2052))]) [0, 1] (by decide) rfl
          refine lv_iinc (v := (x3_91 + 1)) (lv' := [(3, .int (x3_91 + 1)), (0, .ref h0), (4, .int x4_91)]) hx hb dX2_stepOn_104 hl (k := 1) rfl (by rfl) (by decide) rfl (fun ls hl => ?_)
          refine lv_iinc (v := (x4_91 + (-1))) (lv' := [(4, .int (x4_91 + (-1))), (3, .int (x3_91 + 1)), (0, .ref h0)]) hx hb dX2_stepOn_107 hl (k := 2) rfl (by rfl) (by decide) rfl (fun ls hl => ?_)
          refine lv_goto (tgt := 91) hx hb dX2_stepOn_110 (by decide) ?_
          exact ih (x3_91 + 1) (x4_91 + (-1)) o_2052 w H _ ls h hP hD hS (lv_sub hl [2, 1, 0] rfl) K
    obtain ⟨w_2054, hw_2054, h⟩ := ob h
    refine LP_2054 fu (w_2042 + (1 : Int32)) (v_size - (1 : Int32)) o_2049 w_2054 H _ ls hw_2054 hP hD hS (lv_sub hl [2, 1, 0] rfl) (fun H locs ls hP hD hS hl => ?_)
    refine lv_iconst (v := 1) hx hb dX2_stepOn_113 (by decide) ?_
    rw [hQQ]
    have ho := Option.some.inj h
    subst ho
    exact W.zret hx hb hr rfl (fun t ht hW => ⟨⟨_, (), rfl, rfl, by rw [ht]; exact hP, va_K.moved hW.alike hK, hD⟩, hS.F ht⟩) hS.2.2 dX2_stepOn_114
  · replace h := on c_2043 h
    refine lv_iconst (v := 0) hx hb dX2_stepOn_38 (by decide) ?_
    rw [hQQ]
    have ho := Option.some.inj h
    subst ho
    exact W.zret hx hb hr rfl (fun t ht hW => ⟨⟨_, (), rfl, rfl, by rw [ht]; exact hP, va_K.moved hW.alike hK, hD⟩, hS.F ht⟩) hS.2.2 dX2_stepOn_39
