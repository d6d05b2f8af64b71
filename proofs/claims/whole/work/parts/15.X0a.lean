def f_X0_clear  : Option Int32 :=
  (some (0 : Int32))
abbrev rm_X0_clear : Room := { frames := 0, cells := 0, slots := 0, locals := 0 }
set_option maxHeartbeats 4000000 in
set_option maxRecDepth 100000 in
theorem c_X0_clear (l : Launch) (dC : Nat → ClassId) (dI : Nat → Nat → Nat) (cB cC cI cJ cZ cT : ClassId) (h0 q_numbers : Nat) (sz : Nat) (v_size : Int32) (o : Int32) (hf : f_X0_clear = some o) : Met l yX0_clear wsX0_clear rm_X0_clear (va_Pc [.ref h0] (fun U => U.heap.size = sz ∧ va_P (dC, dI) vwCl [(h0, .inr (0, [.ref q_numbers, .int v_size]))] U.heap ∧ va_K (dC, dI) vwCl (tyA cB cC cI cJ cZ cT) U ∧ va_D (fun _ => True) [(h0, .inr (0, [.ref q_numbers, .int v_size]))])) (va_Qv (fun _ : Unit => True) (fun _ t => va_P (dC, dI) vwCl [(h0, .inr (0, [.ref q_numbers, .int o]))] t.heap ∧ va_K (dC, dI) vwCl (tyA cB cC cI cJ cZ cT) t ∧ va_D (va_A [(h0, .inr (0, [.ref q_numbers, .int v_size]))] sz) [(h0, .inr (0, [.ref q_numbers, .int o]))]) (va_A [(h0, .inr (0, [.ref q_numbers, .int v_size]))] sz)) 0 0 (va_A [(h0, .inr (0, [.ref q_numbers, .int v_size]))] sz) := by
  refine Met.ofW (cc := cX0_clear) (maxL := 1) (ret := none) (by decide +kernel) rfl ?_
  intro p e s m args below meth c s₁ B hml hv
  obtain ⟨hav, hsz, hP, hK, hD0⟩ := hv
  have hx := B.exec
  have hb := B.bytes
  have hr := B.returns
  have hts := atoms_spec (ws := wsX0_clear) B.pre
  have hown : s.vm.findClass RX0 = some m.cls := findClass_of_methodNamed B.named
  have hlocks := B.notSynchronized
  subst hsz
  have hD := hD0.self (sz := s.heap.size)
  generalize hAe : va_A [(h0, .inr (0, [.ref q_numbers, .int v_size]))] s.heap.size = A at hD ⊢
  have hA : ∀ q : Nat, s.heap.size ≤ q → A q := fun q h => by rw [← hAe]; exact Or.inr h
  have hS : va_S A s.heap s.heap [] := va_S.rf
  refine wstart (rm := rm_X0_clear) hav (Nat.le_of_ble_eq_true rfl) (fun QQ ls hQQ hl => ?_)
  have hl : lv_has ls 1 [(0, .ref h0)] := hl
  have hi_X0 : ∀ w ∈ u_ws RX0 TX0 2, w ∈ wsX0_clear := by decide +kernel
  have h := hf
  unfold f_X0_clear at h
  refine lv_aload_n hx hb dX0_clear_0 rfl (lv_at hl 0 rfl) ?_
  refine lv_iconst (v := 0) hx hb dX0_clear_1 (by decide) ?_
  refine va_put (D := (dC, dI)) (ci := 0) (v := .int (0 : Int32)) (ty := .int) (C := RX0) (T := TX0) (N := 2) hx hb hts hi_X0 tyX0 tyX0_ok nmX0 hown hK hP hD hS 0 rfl rfl 1 (by decide) (hts _ (List.mem_of_getElem? (i := 1) rfl)) (fun _ h9 => h9) rfl (by decide +kernel) rfl rfl (Nat.le_of_ble_eq_true rfl) dX0_clear_2 (fun H locs hP hD hS => ?_)
  replace hP : va_P (dC, dI) vwCl [(h0, .inr (0, [.ref q_numbers, .int (0 : Int32)]))] H := hP
  replace hD : va_D A [(h0, .inr (0, [.ref q_numbers, .int (0 : Int32)]))] := hD
  rw [hQQ]
  have ho := Option.some.inj h
  subst ho
  exact W.vret hx hb hr (fun t ht hW => ⟨⟨(), rfl, trivial, by rw [ht]; exact hP, va_K.moved hW.alike hK, hD⟩, hS.F ht⟩) hS.2.2 dX0_clear_5
def f_X0_add (v_size : Int32) (v_numbers : Nat → Int64) (x1 : Int64) : Option (Int32 × (Nat → Int64)) :=
  (if (32 : Int32) ≤ v_size then (some (v_size, v_numbers)) else (if v_size < 0 ∨ 32 ≤ (v_size).toNatClampNeg then none else (some ((v_size + (1 : Int32)), (vp_updL v_numbers (v_size).toNatClampNeg x1)))))
abbrev rm_X0_add : Room := { frames := 0, cells := 0, slots := 0, locals := 0 }
set_option maxHeartbeats 4000000 in
set_option maxRecDepth 100000 in
theorem c_X0_add (l : Launch) (dC : Nat → ClassId) (dI : Nat → Nat → Nat) (cB cC cI cJ cZ cT : ClassId) (h0 q_numbers : Nat) (sz : Nat) (v_size : Int32) (v_numbers : Nat → Int64) (x1 : Int64) (o : (Int32 × (Nat → Int64))) (hf : f_X0_add v_size v_numbers x1 = some o) : Met l yX0_add wsX0_add rm_X0_add (va_Pc [.ref h0, .long x1] (fun U => U.heap.size = sz ∧ va_P (dC, dI) vwCl [(h0, .inr (0, [.ref q_numbers, .int v_size])), (q_numbers, .inl (cJ, 32, .inr (.inl v_numbers)))] U.heap ∧ va_K (dC, dI) vwCl (tyA cB cC cI cJ cZ cT) U ∧ va_D (fun _ => True) [(h0, .inr (0, [.ref q_numbers, .int v_size])), (q_numbers, .inl (cJ, 32, .inr (.inl v_numbers)))])) (va_Qv (fun _ : Unit => True) (fun _ t => va_P (dC, dI) vwCl [(h0, .inr (0, [.ref q_numbers, .int o.1])), (q_numbers, .inl (cJ, 32, .inr (.inl o.2)))] t.heap ∧ va_K (dC, dI) vwCl (tyA cB cC cI cJ cZ cT) t ∧ va_D (va_A [(h0, .inr (0, [.ref q_numbers, .int v_size])), (q_numbers, .inl (cJ, 32, .inr (.inl v_numbers)))] sz) [(h0, .inr (0, [.ref q_numbers, .int o.1])), (q_numbers, .inl (cJ, 32, .inr (.inl o.2)))]) (va_A [(h0, .inr (0, [.ref q_numbers, .int v_size])), (q_numbers, .inl (cJ, 32, .inr (.inl v_numbers)))] sz)) 0 0 (va_A [(h0, .inr (0, [.ref q_numbers, .int v_size])), (q_numbers, .inl (cJ, 32, .inr (.inl v_numbers)))] sz) := by
  refine Met.ofW (cc := cX0_add) (maxL := 3) (ret := none) (by decide +kernel) rfl ?_
  intro p e s m args below meth c s₁ B hml hv
  obtain ⟨hav, hsz, hP, hK, hD0⟩ := hv
  have hx := B.exec
  have hb := B.bytes
  have hr := B.returns
  have hts := atoms_spec (ws := wsX0_add) B.pre
  have hown : s.vm.findClass RX0 = some m.cls := findClass_of_methodNamed B.named
  have hlocks := B.notSynchronized
  subst hsz
  have hD := hD0.self (sz := s.heap.size)
  generalize hAe : va_A [(h0, .inr (0, [.ref q_numbers, .int v_size])), (q_numbers, .inl (cJ, 32, .inr (.inl v_numbers)))] s.heap.size = A at hD ⊢
  have hA : ∀ q : Nat, s.heap.size ≤ q → A q := fun q h => by rw [← hAe]; exact Or.inr h
  have hS : va_S A s.heap s.heap [] := va_S.rf
  refine wstart (rm := rm_X0_add) hav (Nat.le_of_ble_eq_true rfl) (fun QQ ls hQQ hl => ?_)
  have hl : lv_has ls 3 [(0, .ref h0), (1, .long x1)] := hl
  have hi_X0 : ∀ w ∈ u_ws RX0 TX0 2, w ∈ wsX0_add := by decide +kernel
  have h := hf
  unfold f_X0_add at h
  refine lv_aload_n hx hb dX0_add_0 rfl (lv_at hl 0 rfl) ?_
  refine va_get (D := (dC, dI)) (ci := 0) (v := .int v_size) (C := RX0) (T := TX0) (N := 2) hx hb hts hi_X0 hown hK hP 0 rfl rfl 1 (by decide) (hts _ (List.mem_of_getElem? (i := 1) rfl)) (fun _ h9 => h9) rfl dX0_add_1 ?_
  refine lv_bipush (v := 32) hx hb dX0_add_4 (by decide) ?_
  refine lv_icmp_ge (tgt := 29) hx hb dX0_add_6 (by decide) (fun c_1659 => ?_) (fun c_1659 => ?_)
  · replace h := op c_1659 h
    rw [hQQ]
    have ho := Option.some.inj h
    subst ho
    exact W.vret hx hb hr (fun t ht hW => ⟨⟨(), rfl, trivial, by rw [ht]; exact hP, va_K.moved hW.alike hK, hD⟩, hS.F ht⟩) hS.2.2 dX0_add_29
  · replace h := on c_1659 h
    refine lv_aload_n hx hb dX0_add_9 rfl (lv_at hl 0 rfl) ?_
    refine va_get (D := (dC, dI)) (ci := 0) (v := .ref q_numbers) (C := RX0) (T := TX0) (N := 2) hx hb hts hi_X0 hown hK hP 0 rfl rfl 0 (by decide) (hts _ (List.mem_of_getElem? (i := 2) rfl)) (fun _ h9 => h9) rfl dX0_add_10 ?_
    refine lv_aload_n hx hb dX0_add_13 rfl (lv_at hl 0 rfl) ?_
    refine va_get (D := (dC, dI)) (ci := 0) (v := .int v_size) (C := RX0) (T := TX0) (N := 2) hx hb hts hi_X0 hown hK hP 0 rfl rfl 1 (by decide) (hts _ (List.mem_of_getElem? (i := 1) rfl)) (fun _ h9 => h9) rfl dX0_add_14 ?_
    refine lv_lload_n hx hb dX0_add_17 rfl (lv_at hl 1 rfl) ?_
    obtain ⟨hi_1660, h⟩ := og h
    refine va_last hx hb hK hP hD hS 1 1 rfl rfl hi_1660 dX0_add_18 (fun H locs hP hD hS => ?_)
    replace hP : va_P (dC, dI) vwCl [(h0, .inr (0, [.ref q_numbers, .int v_size])), (q_numbers, .inl (cJ, 32, .inr (.inl (vp_updL v_numbers (v_size).toNatClampNeg x1))))] H := hP
    replace hD : va_D A [(h0, .inr (0, [.ref q_numbers, .int v_size])), (q_numbers, .inl (cJ, 32, .inr (.inl (vp_updL v_numbers (v_size).toNatClampNeg x1))))] := hD
    refine lv_aload_n hx hb dX0_add_19 rfl (lv_at hl 0 rfl) ?_
    refine lv_dup hx hb dX0_add_20 rfl ?_
    refine va_get (D := (dC, dI)) (ci := 0) (v := .int v_size) (C := RX0) (T := TX0) (N := 2) hx hb hts hi_X0 hown hK hP 0 rfl rfl 1 (by decide) (hts _ (List.mem_of_getElem? (i := 1) rfl)) (fun _ h9 => h9) rfl dX0_add_21 ?_
    refine lv_iconst (v := 1) hx hb dX0_add_24 (by decide) ?_
    refine lv_iadd hx hb dX0_add_25 ?_
    refine va_put (D := (dC, dI)) (ci := 0) (v := .int (v_size + (1 : Int32))) (ty := .int) (C := RX0) (T := TX0) (N := 2) hx hb hts hi_X0 tyX0 tyX0_ok nmX0 hown hK hP hD hS 0 rfl rfl 1 (by decide) (hts _ (List.mem_of_getElem? (i := 1) rfl)) (fun _ h9 => h9) rfl (by decide +kernel) rfl rfl (Nat.le_of_ble_eq_true rfl) dX0_add_26 (fun H locs hP hD hS => ?_)
    replace hP : va_P (dC, dI) vwCl [(h0, .inr (0, [.ref q_numbers, .int (v_size + (1 : Int32))])), (q_numbers, .inl (cJ, 32, .inr (.inl (vp_updL v_numbers (v_size).toNatClampNeg x1))))] H := hP
    replace hD : va_D A [(h0, .inr (0, [.ref q_numbers, .int (v_size + (1 : Int32))])), (q_numbers, .inl (cJ, 32, .inr (.inl (vp_updL v_numbers (v_size).toNatClampNeg x1))))] := hD
    rw [hQQ]
    have ho := Option.some.inj h
    subst ho
    exact W.vret hx hb hr (fun t ht hW => ⟨⟨(), rfl, trivial, by rw [ht]; exact hP, va_K.moved hW.alike hK, hD⟩, hS.F ht⟩) hS.2.2 dX0_add_29
def f_X0_tell (v_numbers : Nat → Int64) (x1 : Int64) : Option (Int32 × (Nat → Int64)) :=
  ((f_X0_clear).bind (fun o_1661 => ((f_X0_add o_1661 v_numbers x1).bind (fun o_1663 => (some (o_1663.1, o_1663.2))))))
abbrev rm_X0_tell : Room := { frames := 1, cells := 0, slots := 0, locals := 22 }
set_option maxHeartbeats 4000000 in
set_option maxRecDepth 100000 in
theorem c_X0_tell (l : Launch) (dC : Nat → ClassId) (dI : Nat → Nat → Nat) (cB cC cI cJ cZ cT : ClassId) (h0 q_numbers : Nat) (sz : Nat) (v_size : Int32) (v_numbers : Nat → Int64) (x1 : Int64) (o : (Int32 × (Nat → Int64))) (hf : f_X0_tell v_numbers x1 = some o) : Met l yX0_tell wsX0_tell rm_X0_tell (va_Pc [.ref h0, .long x1] (fun U => U.heap.size = sz ∧ va_P (dC, dI) vwCl [(h0, .inr (0, [.ref q_numbers, .int v_size])), (q_numbers, .inl (cJ, 32, .inr (.inl v_numbers)))] U.heap ∧ va_K (dC, dI) vwCl (tyA cB cC cI cJ cZ cT) U ∧ va_D (fun _ => True) [(h0, .inr (0, [.ref q_numbers, .int v_size])), (q_numbers, .inl (cJ, 32, .inr (.inl v_numbers)))])) (va_Qv (fun _ : Unit => True) (fun _ t => va_P (dC, dI) vwCl [(h0, .inr (0, [.ref q_numbers, .int o.1])), (q_numbers, .inl (cJ, 32, .inr (.inl o.2)))] t.heap ∧ va_K (dC, dI) vwCl (tyA cB cC cI cJ cZ cT) t ∧ va_D (va_A [(h0, .inr (0, [.ref q_numbers, .int v_size])), (q_numbers, .inl (cJ, 32, .inr (.inl v_numbers)))] sz) [(h0, .inr (0, [.ref q_numbers, .int o.1])), (q_numbers, .inl (cJ, 32, .inr (.inl o.2)))]) (va_A [(h0, .inr (0, [.ref q_numbers, .int v_size])), (q_numbers, .inl (cJ, 32, .inr (.inl v_numbers)))] sz)) 0 0 (va_A [(h0, .inr (0, [.ref q_numbers, .int v_size])), (q_numbers, .inl (cJ, 32, .inr (.inl v_numbers)))] sz) := by
  refine Met.ofW (cc := cX0_tell) (maxL := 3) (ret := none) (by decide +kernel) rfl ?_
  intro p e s m args below meth c s₁ B hml hv
  obtain ⟨hav, hsz, hP, hK, hD0⟩ := hv
  have hx := B.exec
  have hb := B.bytes
  have hr := B.returns
  have hts := atoms_spec (ws := wsX0_tell) B.pre
  have hown : s.vm.findClass RX0 = some m.cls := findClass_of_methodNamed B.named
  have hlocks := B.notSynchronized
  subst hsz
  have hD := hD0.self (sz := s.heap.size)
  generalize hAe : va_A [(h0, .inr (0, [.ref q_numbers, .int v_size])), (q_numbers, .inl (cJ, 32, .inr (.inl v_numbers)))] s.heap.size = A at hD ⊢
  have hA : ∀ q : Nat, s.heap.size ≤ q → A q := fun q h => by rw [← hAe]; exact Or.inr h
  have hS : va_S A s.heap s.heap [] := va_S.rf
  refine wstart (rm := rm_X0_tell) hav (Nat.le_of_ble_eq_true rfl) (fun QQ ls hQQ hl => ?_)
  have hl : lv_has ls 3 [(0, .ref h0), (1, .long x1)] := hl
  have h := hf
  unfold f_X0_tell at h
  refine lv_aload_n hx hb dX0_tell_0 rfl (lv_at hl 0 rfl) ?_
  obtain ⟨o_1661, hr_1661, h⟩ := ob h
  have hPc := hP.sub (ws' := [(h0, .inr (0, [.ref q_numbers, .int v_size]))]) [0] rfl
  have hDc := hD.sub (ws' := [(h0, .inr (0, [.ref q_numbers, .int v_size]))]) [0] (by decide) rfl
  have hFc := va_free (wc := [(h0, .inr (0, [.ref q_numbers, .int v_size]))]) hD hS hA [0] rfl
  refine va_callv (va_runV (As := []) (rest := []) ⟨hx, hb, hml, hown, hts⟩ (c_X0_clear l dC dI cB cC cI cJ cZ cT h0 q_numbers s.heap.size v_size o_1661 hr_1661) (cwV 0 hts gX0_tell_X0_clear rfl rfl rfl (by decide +kernel) ⟨Nat.le_of_ble_eq_true rfl, Nat.le_of_ble_eq_true rfl⟩) ⟨blW, va_recv hK hP (ci := 0) (q0 := 0) rfl rfl, fun U hU hW => ⟨rfl, by rw [hU], by rw [hU]; exact hPc, va_K.moved hW.alike hK, hDc.weaken (fun _ _ _ _ => trivial)⟩⟩ rfl rfl hl.1 rfl (lv_room (Nat.le_of_ble_eq_true rfl)) dX0_tell_1 ⟨Nat.le_of_ble_eq_true rfl, Nat.le_of_ble_eq_true rfl⟩) hS (fun q _ h => hFc q h) hFc (fun u_1661 t_1661 H locs ht hvm e_1661 hB hz1 hk1 hS => ?_)
  obtain ⟨hP1, -, hD1⟩ := hB
  rw [ht] at hP1
  obtain ⟨hP, hD⟩ := va_join (wr := [(q_numbers, .inl (cJ, 32, .inr (.inl v_numbers)))]) (w1 := [(h0, .inr (0, [.ref q_numbers, .int o_1661]))]) hP hD [0] [1] rfl rfl (by decide) (by decide) hk1 hFc hP1 hD1
  replace hP := hP.sub (ws' := [(h0, .inr (0, [.ref q_numbers, .int o_1661])), (q_numbers, .inl (cJ, 32, .inr (.inl v_numbers)))]) [1, 0] rfl
  replace hD := hD.sub (ws' := [(h0, .inr (0, [.ref q_numbers, .int o_1661])), (q_numbers, .inl (cJ, 32, .inr (.inl v_numbers)))]) [1, 0] (by decide) rfl
  refine lv_aload_n hx hb dX0_tell_4 rfl (lv_at hl 0 rfl) ?_
  refine lv_lload_n hx hb dX0_tell_5 rfl (lv_at hl 1 rfl) ?_
  obtain ⟨o_1663, hr_1663, h⟩ := ob h
  have hPc := hP.sub (ws' := [(h0, .inr (0, [.ref q_numbers, .int o_1661])), (q_numbers, .inl (cJ, 32, .inr (.inl v_numbers)))]) [0, 1] rfl
  have hDc := hD.sub (ws' := [(h0, .inr (0, [.ref q_numbers, .int o_1661])), (q_numbers, .inl (cJ, 32, .inr (.inl v_numbers)))]) [0, 1] (by decide) rfl
  have hFc := va_free (wc := [(h0, .inr (0, [.ref q_numbers, .int o_1661])), (q_numbers, .inl (cJ, 32, .inr (.inl v_numbers)))]) hD hS hA [0, 1] rfl
  refine va_callv (va_runV (As := [.long x1]) (rest := []) ⟨hx, hb, hml, hown, hts⟩ (c_X0_add l dC dI cB cC cI cJ cZ cT h0 q_numbers H.size o_1661 v_numbers x1 o_1663 hr_1663) (cwV 1 hts gX0_tell_X0_add rfl rfl rfl (by decide +kernel) ⟨Nat.le_of_ble_eq_true rfl, Nat.le_of_ble_eq_true rfl⟩) ⟨blW, va_recv hK hP (ci := 0) (q0 := 0) rfl rfl, fun U hU hW => ⟨rfl, by rw [hU], by rw [hU]; exact hPc, va_K.moved hW.alike hK, hDc.weaken (fun _ _ _ _ => trivial)⟩⟩ rfl rfl hl.1 rfl (lv_room (Nat.le_of_ble_eq_true rfl)) dX0_tell_6 ⟨Nat.le_of_ble_eq_true rfl, Nat.le_of_ble_eq_true rfl⟩) hS (fun q _ h => hFc q h) hFc (fun u_1663 t_1663 H locs ht hvm e_1663 hB hz1 hk1 hS => ?_)
  obtain ⟨hP1, -, hD1⟩ := hB
  rw [ht] at hP1
  obtain ⟨hP, hD⟩ := va_join (wr := []) (w1 := [(h0, .inr (0, [.ref q_numbers, .int o_1663.1])), (q_numbers, .inl (cJ, 32, .inr (.inl o_1663.2)))]) hP hD [0, 1] [] rfl rfl (by decide) (by decide) hk1 hFc hP1 hD1
  replace hP := hP.sub (ws' := [(h0, .inr (0, [.ref q_numbers, .int o_1663.1])), (q_numbers, .inl (cJ, 32, .inr (.inl o_1663.2)))]) [0, 1] rfl
  replace hD := hD.sub (ws' := [(h0, .inr (0, [.ref q_numbers, .int o_1663.1])), (q_numbers, .inl (cJ, 32, .inr (.inl o_1663.2)))]) [0, 1] (by decide) rfl
  rw [hQQ]
  have ho := Option.some.inj h
  subst ho
  exact W.vret hx hb hr (fun t ht hW => ⟨⟨(), rfl, trivial, by rw [ht]; exact hP, va_K.moved hW.alike hK, hD⟩, hS.F ht⟩) hS.2.2 dX0_tell_9
def f_X0_tell_ (v_numbers : Nat → Int64) (x1 : Int64) (x3 : Int64) : Option (Int32 × (Nat → Int64)) :=
  ((f_X0_tell v_numbers x1).bind (fun o_1665 => ((f_X0_add o_1665.1 o_1665.2 x3).bind (fun o_1667 => (some (o_1667.1, o_1667.2))))))
abbrev rm_X0_tell_ : Room := { frames := 2, cells := 0, slots := 0, locals := 44 }
set_option maxHeartbeats 4000000 in
set_option maxRecDepth 100000 in
theorem c_X0_tell_ (l : Launch) (dC : Nat → ClassId) (dI : Nat → Nat → Nat) (cB cC cI cJ cZ cT : ClassId) (h0 q_numbers : Nat) (sz : Nat) (v_size : Int32) (v_numbers : Nat → Int64) (x1 : Int64) (x3 : Int64) (o : (Int32 × (Nat → Int64))) (hf : f_X0_tell_ v_numbers x1 x3 = some o) : Met l yX0_tell_ wsX0_tell_ rm_X0_tell_ (va_Pc [.ref h0, .long x1, .long x3] (fun U => U.heap.size = sz ∧ va_P (dC, dI) vwCl [(h0, .inr (0, [.ref q_numbers, .int v_size])), (q_numbers, .inl (cJ, 32, .inr (.inl v_numbers)))] U.heap ∧ va_K (dC, dI) vwCl (tyA cB cC cI cJ cZ cT) U ∧ va_D (fun _ => True) [(h0, .inr (0, [.ref q_numbers, .int v_size])), (q_numbers, .inl (cJ, 32, .inr (.inl v_numbers)))])) (va_Qv (fun _ : Unit => True) (fun _ t => va_P (dC, dI) vwCl [(h0, .inr (0, [.ref q_numbers, .int o.1])), (q_numbers, .inl (cJ, 32, .inr (.inl o.2)))] t.heap ∧ va_K (dC, dI) vwCl (tyA cB cC cI cJ cZ cT) t ∧ va_D (va_A [(h0, .inr (0, [.ref q_numbers, .int v_size])), (q_numbers, .inl (cJ, 32, .inr (.inl v_numbers)))] sz) [(h0, .inr (0, [.ref q_numbers, .int o.1])), (q_numbers, .inl (cJ, 32, .inr (.inl o.2)))]) (va_A [(h0, .inr (0, [.ref q_numbers, .int v_size])), (q_numbers, .inl (cJ, 32, .inr (.inl v_numbers)))] sz)) 0 0 (va_A [(h0, .inr (0, [.ref q_numbers, .int v_size])), (q_numbers, .inl (cJ, 32, .inr (.inl v_numbers)))] sz) := by
  refine Met.ofW (cc := cX0_tell_) (maxL := 5) (ret := none) (by decide +kernel) rfl ?_
  intro p e s m args below meth c s₁ B hml hv
  obtain ⟨hav, hsz, hP, hK, hD0⟩ := hv
  have hx := B.exec
  have hb := B.bytes
  have hr := B.returns
  have hts := atoms_spec (ws := wsX0_tell_) B.pre
  have hown : s.vm.findClass RX0 = some m.cls := findClass_of_methodNamed B.named
  have hlocks := B.notSynchronized
  subst hsz
  have hD := hD0.self (sz := s.heap.size)
  generalize hAe : va_A [(h0, .inr (0, [.ref q_numbers, .int v_size])), (q_numbers, .inl (cJ, 32, .inr (.inl v_numbers)))] s.heap.size = A at hD ⊢
  have hA : ∀ q : Nat, s.heap.size ≤ q → A q := fun q h => by rw [← hAe]; exact Or.inr h
  have hS : va_S A s.heap s.heap [] := va_S.rf
  refine wstart (rm := rm_X0_tell_) hav (Nat.le_of_ble_eq_true rfl) (fun QQ ls hQQ hl => ?_)
  have hl : lv_has ls 5 [(0, .ref h0), (1, .long x1), (3, .long x3)] := hl
  have h := hf
  unfold f_X0_tell_ at h
  refine lv_aload_n hx hb dX0_tell__0 rfl (lv_at hl 0 rfl) ?_
  refine lv_lload_n hx hb dX0_tell__1 rfl (lv_at hl 1 rfl) ?_
  obtain ⟨o_1665, hr_1665, h⟩ := ob h
  have hPc := hP.sub (ws' := [(h0, .inr (0, [.ref q_numbers, .int v_size])), (q_numbers, .inl (cJ, 32, .inr (.inl v_numbers)))]) [0, 1] rfl
  have hDc := hD.sub (ws' := [(h0, .inr (0, [.ref q_numbers, .int v_size])), (q_numbers, .inl (cJ, 32, .inr (.inl v_numbers)))]) [0, 1] (by decide) rfl
  have hFc := va_free (wc := [(h0, .inr (0, [.ref q_numbers, .int v_size])), (q_numbers, .inl (cJ, 32, .inr (.inl v_numbers)))]) hD hS hA [0, 1] rfl
  refine va_callv (va_runV (As := [.long x1]) (rest := []) ⟨hx, hb, hml, hown, hts⟩ (c_X0_tell l dC dI cB cC cI cJ cZ cT h0 q_numbers s.heap.size v_size v_numbers x1 o_1665 hr_1665) (cwV 1 hts gX0_tell__X0_tell rfl rfl rfl (by decide +kernel) ⟨Nat.le_of_ble_eq_true rfl, Nat.le_of_ble_eq_true rfl⟩) ⟨blW, va_recv hK hP (ci := 0) (q0 := 0) rfl rfl, fun U hU hW => ⟨rfl, by rw [hU], by rw [hU]; exact hPc, va_K.moved hW.alike hK, hDc.weaken (fun _ _ _ _ => trivial)⟩⟩ rfl rfl hl.1 rfl (lv_room (Nat.le_of_ble_eq_true rfl)) dX0_tell__2 ⟨Nat.le_of_ble_eq_true rfl, Nat.le_of_ble_eq_true rfl⟩) hS (fun q _ h => hFc q h) hFc (fun u_1665 t_1665 H locs ht hvm e_1665 hB hz1 hk1 hS => ?_)
  obtain ⟨hP1, -, hD1⟩ := hB
  rw [ht] at hP1
  obtain ⟨hP, hD⟩ := va_join (wr := []) (w1 := [(h0, .inr (0, [.ref q_numbers, .int o_1665.1])), (q_numbers, .inl (cJ, 32, .inr (.inl o_1665.2)))]) hP hD [0, 1] [] rfl rfl (by decide) (by decide) hk1 hFc hP1 hD1
  replace hP := hP.sub (ws' := [(h0, .inr (0, [.ref q_numbers, .int o_1665.1])), (q_numbers, .inl (cJ, 32, .inr (.inl o_1665.2)))]) [0, 1] rfl
  replace hD := hD.sub (ws' := [(h0, .inr (0, [.ref q_numbers, .int o_1665.1])), (q_numbers, .inl (cJ, 32, .inr (.inl o_1665.2)))]) [0, 1] (by decide) rfl
  refine lv_aload_n hx hb dX0_tell__5 rfl (lv_at hl 0 rfl) ?_
  refine lv_lload_n hx hb dX0_tell__6 rfl (lv_at hl 2 rfl) ?_
  obtain ⟨o_1667, hr_1667, h⟩ := ob h
  have hPc := hP.sub (ws' := [(h0, .inr (0, [.ref q_numbers, .int o_1665.1])), (q_numbers, .inl (cJ, 32, .inr (.inl o_1665.2)))]) [0, 1] rfl
  have hDc := hD.sub (ws' := [(h0, .inr (0, [.ref q_numbers, .int o_1665.1])), (q_numbers, .inl (cJ, 32, .inr (.inl o_1665.2)))]) [0, 1] (by decide) rfl
  have hFc := va_free (wc := [(h0, .inr (0, [.ref q_numbers, .int o_1665.1])), (q_numbers, .inl (cJ, 32, .inr (.inl o_1665.2)))]) hD hS hA [0, 1] rfl
  refine va_callv (va_runV (As := [.long x3]) (rest := []) ⟨hx, hb, hml, hown, hts⟩ (c_X0_add l dC dI cB cC cI cJ cZ cT h0 q_numbers H.size o_1665.1 o_1665.2 x3 o_1667 hr_1667) (cwV 1 hts gX0_tell__X0_add rfl rfl rfl (by decide +kernel) ⟨Nat.le_of_ble_eq_true rfl, Nat.le_of_ble_eq_true rfl⟩) ⟨blW, va_recv hK hP (ci := 0) (q0 := 0) rfl rfl, fun U hU hW => ⟨rfl, by rw [hU], by rw [hU]; exact hPc, va_K.moved hW.alike hK, hDc.weaken (fun _ _ _ _ => trivial)⟩⟩ rfl rfl hl.1 rfl (lv_room (Nat.le_of_ble_eq_true rfl)) dX0_tell__7 ⟨Nat.le_of_ble_eq_true rfl, Nat.le_of_ble_eq_true rfl⟩) hS (fun q _ h => hFc q h) hFc (fun u_1667 t_1667 H locs ht hvm e_1667 hB hz1 hk1 hS => ?_)
  obtain ⟨hP1, -, hD1⟩ := hB
  rw [ht] at hP1
  obtain ⟨hP, hD⟩ := va_join (wr := []) (w1 := [(h0, .inr (0, [.ref q_numbers, .int o_1667.1])), (q_numbers, .inl (cJ, 32, .inr (.inl o_1667.2)))]) hP hD [0, 1] [] rfl rfl (by decide) (by decide) hk1 hFc hP1 hD1
  replace hP := hP.sub (ws' := [(h0, .inr (0, [.ref q_numbers, .int o_1667.1])), (q_numbers, .inl (cJ, 32, .inr (.inl o_1667.2)))]) [0, 1] rfl
  replace hD := hD.sub (ws' := [(h0, .inr (0, [.ref q_numbers, .int o_1667.1])), (q_numbers, .inl (cJ, 32, .inr (.inl o_1667.2)))]) [0, 1] (by decide) rfl
  rw [hQQ]
  have ho := Option.some.inj h
  subst ho
  exact W.vret hx hb hr (fun t ht hW => ⟨⟨(), rfl, trivial, by rw [ht]; exact hP, va_K.moved hW.alike hK, hD⟩, hS.F ht⟩) hS.2.2 dX0_tell__10
def f_X0_tell__ (v_numbers : Nat → Int64) (x1 : Int64) (x3 : Int64) (x5 : Int64) : Option (Int32 × (Nat → Int64)) :=
  ((f_X0_tell_ v_numbers x1 x3).bind (fun o_1669 => ((f_X0_add o_1669.1 o_1669.2 x5).bind (fun o_1671 => (some (o_1671.1, o_1671.2))))))
abbrev rm_X0_tell__ : Room := { frames := 3, cells := 0, slots := 0, locals := 68 }
set_option maxHeartbeats 4000000 in
set_option maxRecDepth 100000 in
theorem c_X0_tell__ (l : Launch) (dC : Nat → ClassId) (dI : Nat → Nat → Nat) (cB cC cI cJ cZ cT : ClassId) (h0 q_numbers : Nat) (sz : Nat) (v_size : Int32) (v_numbers : Nat → Int64) (x1 : Int64) (x3 : Int64) (x5 : Int64) (o : (Int32 × (Nat → Int64))) (hf : f_X0_tell__ v_numbers x1 x3 x5 = some o) : Met l yX0_tell__ wsX0_tell__ rm_X0_tell__ (va_Pc [.ref h0, .long x1, .long x3, .long x5] (fun U => U.heap.size = sz ∧ va_P (dC, dI) vwCl [(h0, .inr (0, [.ref q_numbers, .int v_size])), (q_numbers, .inl (cJ, 32, .inr (.inl v_numbers)))] U.heap ∧ va_K (dC, dI) vwCl (tyA cB cC cI cJ cZ cT) U ∧ va_D (fun _ => True) [(h0, .inr (0, [.ref q_numbers, .int v_size])), (q_numbers, .inl (cJ, 32, .inr (.inl v_numbers)))])) (va_Qv (fun _ : Unit => True) (fun _ t => va_P (dC, dI) vwCl [(h0, .inr (0, [.ref q_numbers, .int o.1])), (q_numbers, .inl (cJ, 32, .inr (.inl o.2)))] t.heap ∧ va_K (dC, dI) vwCl (tyA cB cC cI cJ cZ cT) t ∧ va_D (va_A [(h0, .inr (0, [.ref q_numbers, .int v_size])), (q_numbers, .inl (cJ, 32, .inr (.inl v_numbers)))] sz) [(h0, .inr (0, [.ref q_numbers, .int o.1])), (q_numbers, .inl (cJ, 32, .inr (.inl o.2)))]) (va_A [(h0, .inr (0, [.ref q_numbers, .int v_size])), (q_numbers, .inl (cJ, 32, .inr (.inl v_numbers)))] sz)) 0 0 (va_A [(h0, .inr (0, [.ref q_numbers, .int v_size])), (q_numbers, .inl (cJ, 32, .inr (.inl v_numbers)))] sz) := by
  refine Met.ofW (cc := cX0_tell__) (maxL := 7) (ret := none) (by decide +kernel) rfl ?_
  intro p e s m args below meth c s₁ B hml hv
  obtain ⟨hav, hsz, hP, hK, hD0⟩ := hv
  have hx := B.exec
  have hb := B.bytes
  have hr := B.returns
  have hts := atoms_spec (ws := wsX0_tell__) B.pre
  have hown : s.vm.findClass RX0 = some m.cls := findClass_of_methodNamed B.named
  have hlocks := B.notSynchronized
  subst hsz
  have hD := hD0.self (sz := s.heap.size)
  generalize hAe : va_A [(h0, .inr (0, [.ref q_numbers, .int v_size])), (q_numbers, .inl (cJ, 32, .inr (.inl v_numbers)))] s.heap.size = A at hD ⊢
  have hA : ∀ q : Nat, s.heap.size ≤ q → A q := fun q h => by rw [← hAe]; exact Or.inr h
  have hS : va_S A s.heap s.heap [] := va_S.rf
  refine wstart (rm := rm_X0_tell__) hav (Nat.le_of_ble_eq_true rfl) (fun QQ ls hQQ hl => ?_)
  have hl : lv_has ls 7 [(0, .ref h0), (1, .long x1), (3, .long x3), (5, .long x5)] := hl
  have h := hf
  unfold f_X0_tell__ at h
  refine lv_aload_n hx hb dX0_tell___0 rfl (lv_at hl 0 rfl) ?_
  refine lv_lload_n hx hb dX0_tell___1 rfl (lv_at hl 1 rfl) ?_
  refine lv_lload_n hx hb dX0_tell___2 rfl (lv_at hl 2 rfl) ?_
  obtain ⟨o_1669, hr_1669, h⟩ := ob h
  have hPc := hP.sub (ws' := [(h0, .inr (0, [.ref q_numbers, .int v_size])), (q_numbers, .inl (cJ, 32, .inr (.inl v_numbers)))]) [0, 1] rfl
  have hDc := hD.sub (ws' := [(h0, .inr (0, [.ref q_numbers, .int v_size])), (q_numbers, .inl (cJ, 32, .inr (.inl v_numbers)))]) [0, 1] (by decide) rfl
  have hFc := va_free (wc := [(h0, .inr (0, [.ref q_numbers, .int v_size])), (q_numbers, .inl (cJ, 32, .inr (.inl v_numbers)))]) hD hS hA [0, 1] rfl
  refine va_callv (va_runV (As := [.long x1, .long x3]) (rest := []) ⟨hx, hb, hml, hown, hts⟩ (c_X0_tell_ l dC dI cB cC cI cJ cZ cT h0 q_numbers s.heap.size v_size v_numbers x1 x3 o_1669 hr_1669) (cwV 2 hts gX0_tell___X0_tell_ rfl rfl rfl (by decide +kernel) ⟨Nat.le_of_ble_eq_true rfl, Nat.le_of_ble_eq_true rfl⟩) ⟨blW, va_recv hK hP (ci := 0) (q0 := 0) rfl rfl, fun U hU hW => ⟨rfl, by rw [hU], by rw [hU]; exact hPc, va_K.moved hW.alike hK, hDc.weaken (fun _ _ _ _ => trivial)⟩⟩ rfl rfl hl.1 rfl (lv_room (Nat.le_of_ble_eq_true rfl)) dX0_tell___3 ⟨Nat.le_of_ble_eq_true rfl, Nat.le_of_ble_eq_true rfl⟩) hS (fun q _ h => hFc q h) hFc (fun u_1669 t_1669 H locs ht hvm e_1669 hB hz1 hk1 hS => ?_)
  obtain ⟨hP1, -, hD1⟩ := hB
  rw [ht] at hP1
  obtain ⟨hP, hD⟩ := va_join (wr := []) (w1 := [(h0, .inr (0, [.ref q_numbers, .int o_1669.1])), (q_numbers, .inl (cJ, 32, .inr (.inl o_1669.2)))]) hP hD [0, 1] [] rfl rfl (by decide) (by decide) hk1 hFc hP1 hD1
  replace hP := hP.sub (ws' := [(h0, .inr (0, [.ref q_numbers, .int o_1669.1])), (q_numbers, .inl (cJ, 32, .inr (.inl o_1669.2)))]) [0, 1] rfl
  replace hD := hD.sub (ws' := [(h0, .inr (0, [.ref q_numbers, .int o_1669.1])), (q_numbers, .inl (cJ, 32, .inr (.inl o_1669.2)))]) [0, 1] (by decide) rfl
  refine lv_aload_n hx hb dX0_tell___6 rfl (lv_at hl 0 rfl) ?_
  refine lv_lload hx hb dX0_tell___7 (lv_at hl 3 rfl) ?_
  obtain ⟨o_1671, hr_1671, h⟩ := ob h
  have hPc := hP.sub (ws' := [(h0, .inr (0, [.ref q_numbers, .int o_1669.1])), (q_numbers, .inl (cJ, 32, .inr (.inl o_1669.2)))]) [0, 1] rfl
  have hDc := hD.sub (ws' := [(h0, .inr (0, [.ref q_numbers, .int o_1669.1])), (q_numbers, .inl (cJ, 32, .inr (.inl o_1669.2)))]) [0, 1] (by decide) rfl
  have hFc := va_free (wc := [(h0, .inr (0, [.ref q_numbers, .int o_1669.1])), (q_numbers, .inl (cJ, 32, .inr (.inl o_1669.2)))]) hD hS hA [0, 1] rfl
  refine va_callv (va_runV (As := [.long x5]) (rest := []) ⟨hx, hb, hml, hown, hts⟩ (c_X0_add l dC dI cB cC cI cJ cZ cT h0 q_numbers H.size o_1669.1 o_1669.2 x5 o_1671 hr_1671) (cwV 1 hts gX0_tell___X0_add rfl rfl rfl (by decide +kernel) ⟨Nat.le_of_ble_eq_true rfl, Nat.le_of_ble_eq_true rfl⟩) ⟨blW, va_recv hK hP (ci := 0) (q0 := 0) rfl rfl, fun U hU hW => ⟨rfl, by rw [hU], by rw [hU]; exact hPc, va_K.moved hW.alike hK, hDc.weaken (fun _ _ _ _ => trivial)⟩⟩ rfl rfl hl.1 rfl (lv_room (Nat.le_of_ble_eq_true rfl)) dX0_tell___9 ⟨Nat.le_of_ble_eq_true rfl, Nat.le_of_ble_eq_true rfl⟩) hS (fun q _ h => hFc q h) hFc (fun u_1671 t_1671 H locs ht hvm e_1671 hB hz1 hk1 hS => ?_)
  obtain ⟨hP1, -, hD1⟩ := hB
  rw [ht] at hP1
  obtain ⟨hP, hD⟩ := va_join (wr := []) (w1 := [(h0, .inr (0, [.ref q_numbers, .int o_1671.1])), (q_numbers, .inl (cJ, 32, .inr (.inl o_1671.2)))]) hP hD [0, 1] [] rfl rfl (by decide) (by decide) hk1 hFc hP1 hD1
  replace hP := hP.sub (ws' := [(h0, .inr (0, [.ref q_numbers, .int o_1671.1])), (q_numbers, .inl (cJ, 32, .inr (.inl o_1671.2)))]) [0, 1] rfl
  replace hD := hD.sub (ws' := [(h0, .inr (0, [.ref q_numbers, .int o_1671.1])), (q_numbers, .inl (cJ, 32, .inr (.inl o_1671.2)))]) [0, 1] (by decide) rfl
  rw [hQQ]
  have ho := Option.some.inj h
  subst ho
  exact W.vret hx hb hr (fun t ht hW => ⟨⟨(), rfl, trivial, by rw [ht]; exact hP, va_K.moved hW.alike hK, hD⟩, hS.F ht⟩) hS.2.2 dX0_tell___12
