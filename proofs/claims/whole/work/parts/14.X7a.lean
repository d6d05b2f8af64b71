def f_X7_signAt (v_size : Int32) (v_signs : Nat → Int32) (x1 : Int32) : Option Int32 :=
  (if x1 < 0 then (some (0 : Int32)) else (if v_size ≤ x1 then (some (0 : Int32)) else (if x1 < 0 ∨ 80 ≤ (x1).toNatClampNeg then none else (if ¬ vp_nar .char (v_signs (x1).toNatClampNeg) = (v_signs (x1).toNatClampNeg) then none else some (v_signs (x1).toNatClampNeg)))))
abbrev rm_X7_signAt : Room := { frames := 0, cells := 0, slots := 0, locals := 0 }
set_option maxHeartbeats 4000000 in
set_option maxRecDepth 100000 in
theorem c_X7_signAt (l : Launch) (dC : Nat → ClassId) (dI : Nat → Nat → Nat) (cB cC cI cJ cZ cT : ClassId) (h0 q_signs : Nat) (v_size : Int32) (v_signs : Nat → Int32) (x1 : Int32) (o : Int32) (hf : f_X7_signAt v_size v_signs x1 = some o) : Met l yX7_signAt wsX7_signAt rm_X7_signAt (va_Pc [.ref h0, .int x1] (fun U => va_P (dC, dI) vwCl [(h0, .inr (5, [.ref q_signs, .int v_size])), (q_signs, .inl (cC, 80, .inl v_signs))] U.heap ∧ va_K (dC, dI) vwCl (tyA cB cC cI cJ cZ cT) U)) (vp_Si (fun r => o = r)) 0 0 (fun _ => False) := by
  refine Met.ofW (cc := cX7_signAt) (maxL := 2) (ret := (some .char)) (by decide +kernel) rfl ?_
  intro p e s m args below meth c s₁ B hml hv
  obtain ⟨hav, hP, hK⟩ := hv
  have hx := B.exec
  have hb := B.bytes
  have hr := B.returns
  have hts := atoms_spec (ws := wsX7_signAt) B.pre
  have hown : s.vm.findClass RX7 = some m.cls := findClass_of_methodNamed B.named
  have hlocks := B.notSynchronized
  refine wstart (rm := rm_X7_signAt) hav (Nat.le_of_ble_eq_true rfl) (fun QQ ls hQQ hl => ?_)
  have hl : lv_has ls 2 [(0, .ref h0), (1, .int x1)] := hl
  have hi_X7 : ∀ w ∈ u_ws RX7 TX7 2, w ∈ wsX7_signAt := by decide +kernel
  have h := hf
  unfold f_X7_signAt at h
  refine lv_iload_n hx hb dX7_signAt_0 rfl (lv_at hl 1 rfl) ?_
  refine lv_if_lt (tgt := 21) hx hb dX7_signAt_1 (by decide) (fun c_1639 => ?_) (fun c_1639 => ?_)
  · replace h := op c_1639 h
    refine lv_iconst (v := 0) hx hb dX7_signAt_21 (by decide) ?_
    rw [hQQ]
    exact W.zret hx hb hr rfl (fun t ht hW => ⟨_, rfl, (Option.some.inj h).symm, ht⟩) (fun q hq => absurd hq List.not_mem_nil) dX7_signAt_22
  · replace h := on c_1639 h
    refine lv_iload_n hx hb dX7_signAt_4 rfl (lv_at hl 1 rfl) ?_
    refine lv_aload_n hx hb dX7_signAt_5 rfl (lv_at hl 0 rfl) ?_
    refine va_get (D := (dC, dI)) (ci := 5) (v := .int v_size) (C := RX7) (T := TX7) (N := 2) hx hb hts hi_X7 hown hK hP 0 rfl rfl 1 (by decide) (hts _ (List.mem_of_getElem? (i := 1) rfl)) (fun _ h9 => h9) rfl dX7_signAt_6 ?_
    refine lv_icmp_ge (tgt := 21) hx hb dX7_signAt_9 (by decide) (fun c_1640 => ?_) (fun c_1640 => ?_)
    · replace h := op c_1640 h
      refine lv_iconst (v := 0) hx hb dX7_signAt_21 (by decide) ?_
      rw [hQQ]
      exact W.zret hx hb hr rfl (fun t ht hW => ⟨_, rfl, (Option.some.inj h).symm, ht⟩) (fun q hq => absurd hq List.not_mem_nil) dX7_signAt_22
    · replace h := on c_1640 h
      refine lv_aload_n hx hb dX7_signAt_12 rfl (lv_at hl 0 rfl) ?_
      refine va_get (D := (dC, dI)) (ci := 5) (v := .ref q_signs) (C := RX7) (T := TX7) (N := 2) hx hb hts hi_X7 hown hK hP 0 rfl rfl 0 (by decide) (hts _ (List.mem_of_getElem? (i := 2) rfl)) (fun _ h9 => h9) rfl dX7_signAt_13 ?_
      refine lv_iload_n hx hb dX7_signAt_16 rfl (lv_at hl 1 rfl) ?_
      obtain ⟨hi_1641, h⟩ := og h
      refine va_cald hx hb hK hP 1 4 rfl rfl hi_1641 dX7_signAt_17 ?_
      refine lv_goto (tgt := 22) hx hb dX7_signAt_18 (by decide) ?_
      obtain ⟨hi_1642, h⟩ := og h
      rw [hQQ]
      exact W.zret hx hb hr (congrArg Value.int (Classical.not_not.mp hi_1642)) (fun t ht hW => ⟨_, rfl, (Option.some.inj h).symm, ht⟩) (fun q hq => absurd hq List.not_mem_nil) dX7_signAt_22
def f_X7_letterAt (v_size : Int32) (v_signs : Nat → Int32) (x1 : Int32) : Option Int32 :=
  ((f_X7_signAt v_size v_signs x1).bind (fun o_1643 => (some (o_1643 - (97 : Int32)))))
abbrev rm_X7_letterAt : Room := { frames := 1, cells := 0, slots := 0, locals := 21 }
set_option maxHeartbeats 4000000 in
set_option maxRecDepth 100000 in
theorem c_X7_letterAt (l : Launch) (dC : Nat → ClassId) (dI : Nat → Nat → Nat) (cB cC cI cJ cZ cT : ClassId) (h0 q_signs : Nat) (v_size : Int32) (v_signs : Nat → Int32) (x1 : Int32) (o : Int32) (hf : f_X7_letterAt v_size v_signs x1 = some o) : Met l yX7_letterAt wsX7_letterAt rm_X7_letterAt (va_Pc [.ref h0, .int x1] (fun U => va_P (dC, dI) vwCl [(h0, .inr (5, [.ref q_signs, .int v_size])), (q_signs, .inl (cC, 80, .inl v_signs))] U.heap ∧ va_K (dC, dI) vwCl (tyA cB cC cI cJ cZ cT) U)) (vp_Si (fun r => o = r)) 0 0 (fun _ => False) := by
  refine Met.ofW (cc := cX7_letterAt) (maxL := 2) (ret := (some .int)) (by decide +kernel) rfl ?_
  intro p e s m args below meth c s₁ B hml hv
  obtain ⟨hav, hP, hK⟩ := hv
  have hx := B.exec
  have hb := B.bytes
  have hr := B.returns
  have hts := atoms_spec (ws := wsX7_letterAt) B.pre
  have hown : s.vm.findClass RX7 = some m.cls := findClass_of_methodNamed B.named
  have hlocks := B.notSynchronized
  refine wstart (rm := rm_X7_letterAt) hav (Nat.le_of_ble_eq_true rfl) (fun QQ ls hQQ hl => ?_)
  have hl : lv_has ls 2 [(0, .ref h0), (1, .int x1)] := hl
  have h := hf
  unfold f_X7_letterAt at h
  refine lv_aload_n hx hb dX7_letterAt_0 rfl (lv_at hl 0 rfl) ?_
  refine lv_iload_n hx hb dX7_letterAt_1 rfl (lv_at hl 1 rfl) ?_
  obtain ⟨o_1643, hr_1643, h⟩ := ob h
  refine vp_callSi (va_Run.run (va_runV (As := [.int x1]) (rest := []) ⟨hx, hb, hml, hown, hts⟩ (c_X7_signAt l dC dI cB cC cI cJ cZ cT h0 q_signs v_size v_signs x1 o_1643 hr_1643) (cwV 1 hts gX7_letterAt_X7_signAt rfl rfl rfl (by decide +kernel) ⟨Nat.le_of_ble_eq_true rfl, Nat.le_of_ble_eq_true rfl⟩) ⟨blR, va_recv hK hP (ci := 5) (q0 := 0) rfl rfl, fun U hU hW => ⟨rfl, by rw [hU]; exact hP.sub [0, 1] rfl, va_K.moved hW.alike hK⟩⟩ rfl rfl hl.1 rfl (lv_room (Nat.le_of_ble_eq_true rfl)) dX7_letterAt_2 ⟨Nat.le_of_ble_eq_true rfl, Nat.le_of_ble_eq_true rfl⟩)) (fun r_1643 e_1643 => ?_)
  subst e_1643
  refine lv_bipush (v := 97) hx hb dX7_letterAt_5 (by decide) ?_
  refine lv_isub hx hb dX7_letterAt_7 ?_
  rw [hQQ]
  exact W.iret hx hb hr (fun t ht hW => ⟨_, rfl, (Option.some.inj h).symm, ht⟩) (fun q hq => absurd hq List.not_mem_nil) dX7_letterAt_8
def L_X7_addFour_16 (x1 : Int32) : Nat → Int32 → Int32 → (Nat → Int32) → Option (Int32 × (Nat → Int32))
  | 0, _, _, _ => none
  | n+1, x2_16, v_size_16, v_signs_16 => (if x2_16 < 0 then (some (v_size_16, v_signs_16)) else (if v_size_16 < 0 ∨ 80 ≤ (v_size_16).toNatClampNeg then none else (L_X7_addFour_16 x1 n (x2_16 + (-8)) (v_size_16 + (1 : Int32)) (upd v_signs_16 (v_size_16).toNatClampNeg (vp_nar .char (to_c ((ius x1 x2_16) &&& (255 : Int32))))))))
def f_X7_addFour (v_size : Int32) (v_signs : Nat → Int32) (x1 : Int32) : Option (Bool × Int32 × (Nat → Int32)) :=
  (if (v_size + (4 : Int32)) ≤ (80 : Int32) then ((L_X7_addFour_16 x1 fu (24 : Int32) v_size v_signs).bind (fun w_1648 => (some (true, w_1648.1, w_1648.2)))) else (some (false, v_size, v_signs)))
abbrev rm_X7_addFour : Room := { frames := 0, cells := 0, slots := 0, locals := 0 }
set_option maxHeartbeats 4000000 in
set_option maxRecDepth 100000 in
theorem c_X7_addFour (l : Launch) (dC : Nat → ClassId) (dI : Nat → Nat → Nat) (cB cC cI cJ cZ cT : ClassId) (h0 q_signs : Nat) (sz : Nat) (v_size : Int32) (v_signs : Nat → Int32) (x1 : Int32) (o : (Bool × Int32 × (Nat → Int32))) (hf : f_X7_addFour v_size v_signs x1 = some o) : Met l yX7_addFour wsX7_addFour rm_X7_addFour (va_Pc [.ref h0, .int x1] (fun U => U.heap.size = sz ∧ va_P (dC, dI) vwCl [(h0, .inr (5, [.ref q_signs, .int v_size])), (q_signs, .inl (cC, 80, .inl v_signs))] U.heap ∧ va_K (dC, dI) vwCl (tyA cB cC cI cJ cZ cT) U ∧ va_D (fun _ => True) [(h0, .inr (5, [.ref q_signs, .int v_size])), (q_signs, .inl (cC, 80, .inl v_signs))])) (va_Qi (fun (r : Int32) (_ : Unit) => b2i o.1 = r) (fun _ t => va_P (dC, dI) vwCl [(h0, .inr (5, [.ref q_signs, .int o.2.1])), (q_signs, .inl (cC, 80, .inl o.2.2))] t.heap ∧ va_K (dC, dI) vwCl (tyA cB cC cI cJ cZ cT) t ∧ va_D (va_A [(h0, .inr (5, [.ref q_signs, .int v_size])), (q_signs, .inl (cC, 80, .inl v_signs))] sz) [(h0, .inr (5, [.ref q_signs, .int o.2.1])), (q_signs, .inl (cC, 80, .inl o.2.2))]) (va_A [(h0, .inr (5, [.ref q_signs, .int v_size])), (q_signs, .inl (cC, 80, .inl v_signs))] sz)) 0 0 (va_A [(h0, .inr (5, [.ref q_signs, .int v_size])), (q_signs, .inl (cC, 80, .inl v_signs))] sz) := by
  refine Met.ofW (cc := cX7_addFour) (maxL := 3) (ret := (some .boolean)) (by decide +kernel) rfl ?_
  intro p e s m args below meth c s₁ B hml hv
  obtain ⟨hav, hsz, hP, hK, hD0⟩ := hv
  have hx := B.exec
  have hb := B.bytes
  have hr := B.returns
  have hts := atoms_spec (ws := wsX7_addFour) B.pre
  have hown : s.vm.findClass RX7 = some m.cls := findClass_of_methodNamed B.named
  have hlocks := B.notSynchronized
  subst hsz
  have hD := hD0.self (sz := s.heap.size)
  generalize hAe : va_A [(h0, .inr (5, [.ref q_signs, .int v_size])), (q_signs, .inl (cC, 80, .inl v_signs))] s.heap.size = A at hD ⊢
  have hA : ∀ q : Nat, s.heap.size ≤ q → A q := fun q h => by rw [← hAe]; exact Or.inr h
  have hS : va_S A s.heap s.heap [] := va_S.rf
  refine wstart (rm := rm_X7_addFour) hav (Nat.le_of_ble_eq_true rfl) (fun QQ ls hQQ hl => ?_)
  have hl : lv_has ls 3 [(0, .ref h0), (1, .int x1)] := hl
  have hi_X7 : ∀ w ∈ u_ws RX7 TX7 2, w ∈ wsX7_addFour := by decide +kernel
  have h := hf
  unfold f_X7_addFour at h
  refine lv_aload_n hx hb dX7_addFour_0 rfl (lv_at hl 0 rfl) ?_
  refine va_get (D := (dC, dI)) (ci := 5) (v := .int v_size) (C := RX7) (T := TX7) (N := 2) hx hb hts hi_X7 hown hK hP 0 rfl rfl 1 (by decide) (hts _ (List.mem_of_getElem? (i := 1) rfl)) (fun _ h9 => h9) rfl dX7_addFour_1 ?_
  refine lv_iconst (v := 4) hx hb dX7_addFour_4 (by decide) ?_
  refine lv_iadd hx hb dX7_addFour_5 ?_
  refine lv_bipush (v := 80) hx hb dX7_addFour_6 (by decide) ?_
  refine lv_icmp_le (tgt := 13) hx hb dX7_addFour_8 (by decide) (fun c_1645 => ?_) (fun c_1645 => ?_)
  · replace h := op c_1645 h
    refine lv_bipush (v := 24) hx hb dX7_addFour_13 (by decide) ?_
    refine lv_istore_n (lv' := [(2, .int (24 : Int32)), (0, .ref h0), (1, .int x1)]) hx hb dX7_addFour_15 rfl hl (by decide) rfl (fun ls hl => ?_)
    have LP_1648 : ∀ (n : Nat) (x2_16 : Int32) (v_size_16 : Int32) (v_signs_16 : (Nat → Int32)) (w : (Int32 × (Nat → Int32))) (H : Heap) (locs : List Loc) (ls : Array Slot), L_X7_addFour_16 x1 n x2_16 v_size_16 v_signs_16 = some w → va_P (dC, dI) vwCl [(h0, .inr (5, [.ref q_signs, .int v_size_16])), (q_signs, .inl (cC, 80, .inl v_signs_16))] H → va_D A [(h0, .inr (5, [.ref q_signs, .int v_size_16])), (q_signs, .inl (cC, 80, .inl v_signs_16))] → va_S A s.heap H locs → lv_has ls 3 [(0, .ref h0), (1, .int x1), (2, .int x2_16)] → (∀ (H : Heap) (locs : List Loc) (ls : Array Slot), va_P (dC, dI) vwCl [(h0, .inr (5, [.ref q_signs, .int w.1])), (q_signs, .inl (cC, 80, .inl w.2))] H → va_D A [(h0, .inr (5, [.ref q_signs, .int w.1])), (q_signs, .inl (cC, 80, .inl w.2))] → va_S A s.heap H locs → lv_has ls 3 [] → W p l e rm_X7_addFour s m args below meth c H locs 0 0 QQ (F0 m 53 ls [])) → W p l e rm_X7_addFour s m args below meth c H locs 0 0 QQ (F0 m 16 ls []) := by
      intro n
      induction n with
      | zero => intro x2_16 v_size_16 v_signs_16 w H locs ls h; exact absurd (show none = some w from h) nofun
      | succ n ih =>
        intro x2_16 v_size_16 v_signs_16 w H locs ls h hP hD hS hl K
        rw [L_X7_addFour_16] at h
        refine lv_iload_n hx hb dX7_addFour_16 rfl (lv_at hl 2 rfl) ?_
        refine lv_if_lt (tgt := 53) hx hb dX7_addFour_17 (by decide) (fun c_1646 => ?_) (fun c_1646 => ?_)
        · replace h := op c_1646 h
          have ho := Option.some.inj h
          subst ho
          exact K H _ ls hP hD hS (lv_sub hl [] rfl)
        · replace h := on c_1646 h
          refine lv_aload_n hx hb dX7_addFour_20 rfl (lv_at hl 0 rfl) ?_
          refine va_get (D := (dC, dI)) (ci := 5) (v := .ref q_signs) (C := RX7) (T := TX7) (N := 2) hx hb hts hi_X7 hown hK hP 0 rfl rfl 0 (by decide) (hts _ (List.mem_of_getElem? (i := 2) rfl)) (fun _ h9 => h9) rfl dX7_addFour_21 ?_
          refine lv_aload_n hx hb dX7_addFour_24 rfl (lv_at hl 0 rfl) ?_
          refine va_get (D := (dC, dI)) (ci := 5) (v := .int v_size_16) (C := RX7) (T := TX7) (N := 2) hx hb hts hi_X7 hown hK hP 0 rfl rfl 1 (by decide) (hts _ (List.mem_of_getElem? (i := 1) rfl)) (fun _ h9 => h9) rfl dX7_addFour_25 ?_
          refine lv_iload_n hx hb dX7_addFour_28 rfl (lv_at hl 1 rfl) ?_
          refine lv_iload_n hx hb dX7_addFour_29 rfl (lv_at hl 2 rfl) ?_
          refine lv_iushr (v := (ius x1 x2_16)) hx hb dX7_addFour_30 rfl ?_
          refine lv_sipush (v := 255) hx hb dX7_addFour_31 (by decide) ?_
          refine lv_iand hx hb dX7_addFour_34 ?_
          refine lv_i2c (v := (to_c ((ius x1 x2_16) &&& (255 : Int32)))) hx hb dX7_addFour_35 rfl ?_
          obtain ⟨hi_1647, h⟩ := og h
          refine va_cast hx hb hK hP hD hS 1 4 rfl rfl hi_1647 dX7_addFour_36 (fun H locs hP hD hS => ?_)
          replace hP : va_P (dC, dI) vwCl [(h0, .inr (5, [.ref q_signs, .int v_size_16])), (q_signs, .inl (cC, 80, .inl (upd v_signs_16 (v_size_16).toNatClampNeg (vp_nar .char (to_c ((ius x1 x2_16) &&& (255 : Int32)))))))] H := hP
          replace hD : va_D A [(h0, .inr (5, [.ref q_signs, .int v_size_16])), (q_signs, .inl (cC, 80, .inl (upd v_signs_16 (v_size_16).toNatClampNeg (vp_nar .char (to_c ((ius x1 x2_16) &&& (255 : Int32)))))))] := hD
          refine lv_aload_n hx hb dX7_addFour_37 rfl (lv_at hl 0 rfl) ?_
          refine lv_dup hx hb dX7_addFour_38 rfl ?_
          refine va_get (D := (dC, dI)) (ci := 5) (v := .int v_size_16) (C := RX7) (T := TX7) (N := 2) hx hb hts hi_X7 hown hK hP 0 rfl rfl 1 (by decide) (hts _ (List.mem_of_getElem? (i := 1) rfl)) (fun _ h9 => h9) rfl dX7_addFour_39 ?_
          refine lv_iconst (v := 1) hx hb dX7_addFour_42 (by decide) ?_
          refine lv_iadd hx hb dX7_addFour_43 ?_
          refine va_put (D := (dC, dI)) (ci := 5) (v := .int (v_size_16 + (1 : Int32))) (ty := .int) (C := RX7) (T := TX7) (N := 2) hx hb hts hi_X7 tyX7 tyX7_ok nmX7 hown hK hP hD hS 0 rfl rfl 1 (by decide) (hts _ (List.mem_of_getElem? (i := 1) rfl)) (fun _ h9 => h9) rfl (by decide +kernel) rfl rfl (Nat.le_of_ble_eq_true rfl) dX7_addFour_44 (fun H locs hP hD hS => ?_)
          replace hP : va_P (dC, dI) vwCl [(h0, .inr (5, [.ref q_signs, .int (v_size_16 + (1 : Int32))])), (q_signs, .inl (cC, 80, .inl (upd v_signs_16 (v_size_16).toNatClampNeg (vp_nar .char (to_c ((ius x1 x2_16) &&& (255 : Int32)))))))] H := hP
          replace hD : va_D A [(h0, .inr (5, [.ref q_signs, .int (v_size_16 + (1 : Int32))])), (q_signs, .inl (cC, 80, .inl (upd v_signs_16 (v_size_16).toNatClampNeg (vp_nar .char (to_c ((ius x1 x2_16) &&& (255 : Int32)))))))] := hD
          refine lv_iinc (v := (x2_16 + (-8))) (lv' := [(2, .int (x2_16 + (-8))), (0, .ref h0), (1, .int x1)]) hx hb dX7_addFour_47 hl (k := 2) rfl (by rfl) (by decide) rfl (fun ls hl => ?_)
          refine lv_goto (tgt := 16) hx hb dX7_addFour_50 (by decide) ?_
          exact ih (x2_16 + (-8)) (v_size_16 + (1 : Int32)) (upd v_signs_16 (v_size_16).toNatClampNeg (vp_nar .char (to_c ((ius x1 x2_16) &&& (255 : Int32))))) w H _ ls h hP hD hS (lv_sub hl [1, 2, 0] rfl) K
    obtain ⟨w_1648, hw_1648, h⟩ := ob h
    refine LP_1648 fu (24 : Int32) v_size v_signs w_1648 s.heap _ ls hw_1648 hP hD hS (lv_sub hl [1, 2, 0] rfl) (fun H locs ls hP hD hS hl => ?_)
    refine lv_iconst (v := 1) hx hb dX7_addFour_53 (by decide) ?_
    rw [hQQ]
    have ho := Option.some.inj h
    subst ho
    exact W.zret hx hb hr rfl (fun t ht hW => ⟨⟨_, (), rfl, rfl, by rw [ht]; exact hP, va_K.moved hW.alike hK, hD⟩, hS.F ht⟩) hS.2.2 dX7_addFour_54
  · replace h := on c_1645 h
    refine lv_iconst (v := 0) hx hb dX7_addFour_11 (by decide) ?_
    rw [hQQ]
    have ho := Option.some.inj h
    subst ho
    exact W.zret hx hb hr rfl (fun t ht hW => ⟨⟨_, (), rfl, rfl, by rw [ht]; exact hP, va_K.moved hW.alike hK, hD⟩, hS.F ht⟩) hS.2.2 dX7_addFour_12
def f_X7_cut (v_size : Int32) (x1 : Int32) : Option (Bool × Int32) :=
  (if x1 < 0 then (some (false, v_size)) else (if x1 ≤ v_size then (some (true, x1)) else (some (false, v_size))))
abbrev rm_X7_cut : Room := { frames := 0, cells := 0, slots := 0, locals := 0 }
set_option maxHeartbeats 4000000 in
set_option maxRecDepth 100000 in
theorem c_X7_cut (l : Launch) (dC : Nat → ClassId) (dI : Nat → Nat → Nat) (cB cC cI cJ cZ cT : ClassId) (h0 q_signs : Nat) (sz : Nat) (v_size : Int32) (x1 : Int32) (o : (Bool × Int32)) (hf : f_X7_cut v_size x1 = some o) : Met l yX7_cut wsX7_cut rm_X7_cut (va_Pc [.ref h0, .int x1] (fun U => U.heap.size = sz ∧ va_P (dC, dI) vwCl [(h0, .inr (5, [.ref q_signs, .int v_size]))] U.heap ∧ va_K (dC, dI) vwCl (tyA cB cC cI cJ cZ cT) U ∧ va_D (fun _ => True) [(h0, .inr (5, [.ref q_signs, .int v_size]))])) (va_Qi (fun (r : Int32) (_ : Unit) => b2i o.1 = r) (fun _ t => va_P (dC, dI) vwCl [(h0, .inr (5, [.ref q_signs, .int o.2]))] t.heap ∧ va_K (dC, dI) vwCl (tyA cB cC cI cJ cZ cT) t ∧ va_D (va_A [(h0, .inr (5, [.ref q_signs, .int v_size]))] sz) [(h0, .inr (5, [.ref q_signs, .int o.2]))]) (va_A [(h0, .inr (5, [.ref q_signs, .int v_size]))] sz)) 0 0 (va_A [(h0, .inr (5, [.ref q_signs, .int v_size]))] sz) := by
  refine Met.ofW (cc := cX7_cut) (maxL := 2) (ret := (some .boolean)) (by decide +kernel) rfl ?_
  intro p e s m args below meth c s₁ B hml hv
  obtain ⟨hav, hsz, hP, hK, hD0⟩ := hv
  have hx := B.exec
  have hb := B.bytes
  have hr := B.returns
  have hts := atoms_spec (ws := wsX7_cut) B.pre
  have hown : s.vm.findClass RX7 = some m.cls := findClass_of_methodNamed B.named
  have hlocks := B.notSynchronized
  subst hsz
  have hD := hD0.self (sz := s.heap.size)
  generalize hAe : va_A [(h0, .inr (5, [.ref q_signs, .int v_size]))] s.heap.size = A at hD ⊢
  have hA : ∀ q : Nat, s.heap.size ≤ q → A q := fun q h => by rw [← hAe]; exact Or.inr h
  have hS : va_S A s.heap s.heap [] := va_S.rf
  refine wstart (rm := rm_X7_cut) hav (Nat.le_of_ble_eq_true rfl) (fun QQ ls hQQ hl => ?_)
  have hl : lv_has ls 2 [(0, .ref h0), (1, .int x1)] := hl
  have hi_X7 : ∀ w ∈ u_ws RX7 TX7 2, w ∈ wsX7_cut := by decide +kernel
  have h := hf
  unfold f_X7_cut at h
  refine lv_iload_n hx hb dX7_cut_0 rfl (lv_at hl 1 rfl) ?_
  refine lv_if_lt (tgt := 12) hx hb dX7_cut_1 (by decide) (fun c_1649 => ?_) (fun c_1649 => ?_)
  · replace h := op c_1649 h
    refine lv_iconst (v := 0) hx hb dX7_cut_12 (by decide) ?_
    rw [hQQ]
    have ho := Option.some.inj h
    subst ho
    exact W.zret hx hb hr rfl (fun t ht hW => ⟨⟨_, (), rfl, rfl, by rw [ht]; exact hP, va_K.moved hW.alike hK, hD⟩, hS.F ht⟩) hS.2.2 dX7_cut_13
  · replace h := on c_1649 h
    refine lv_iload_n hx hb dX7_cut_4 rfl (lv_at hl 1 rfl) ?_
    refine lv_aload_n hx hb dX7_cut_5 rfl (lv_at hl 0 rfl) ?_
    refine va_get (D := (dC, dI)) (ci := 5) (v := .int v_size) (C := RX7) (T := TX7) (N := 2) hx hb hts hi_X7 hown hK hP 0 rfl rfl 1 (by decide) (hts _ (List.mem_of_getElem? (i := 1) rfl)) (fun _ h9 => h9) rfl dX7_cut_6 ?_
    refine lv_icmp_le (tgt := 14) hx hb dX7_cut_9 (by decide) (fun c_1650 => ?_) (fun c_1650 => ?_)
    · replace h := op c_1650 h
      refine lv_aload_n hx hb dX7_cut_14 rfl (lv_at hl 0 rfl) ?_
      refine lv_iload_n hx hb dX7_cut_15 rfl (lv_at hl 1 rfl) ?_
      refine va_put (D := (dC, dI)) (ci := 5) (v := .int x1) (ty := .int) (C := RX7) (T := TX7) (N := 2) hx hb hts hi_X7 tyX7 tyX7_ok nmX7 hown hK hP hD hS 0 rfl rfl 1 (by decide) (hts _ (List.mem_of_getElem? (i := 1) rfl)) (fun _ h9 => h9) rfl (by decide +kernel) rfl rfl (Nat.le_of_ble_eq_true rfl) dX7_cut_16 (fun H locs hP hD hS => ?_)
      replace hP : va_P (dC, dI) vwCl [(h0, .inr (5, [.ref q_signs, .int x1]))] H := hP
      replace hD : va_D A [(h0, .inr (5, [.ref q_signs, .int x1]))] := hD
      refine lv_iconst (v := 1) hx hb dX7_cut_19 (by decide) ?_
      rw [hQQ]
      have ho := Option.some.inj h
      subst ho
      exact W.zret hx hb hr rfl (fun t ht hW => ⟨⟨_, (), rfl, rfl, by rw [ht]; exact hP, va_K.moved hW.alike hK, hD⟩, hS.F ht⟩) hS.2.2 dX7_cut_20
    · replace h := on c_1650 h
      refine lv_iconst (v := 0) hx hb dX7_cut_12 (by decide) ?_
      rw [hQQ]
      have ho := Option.some.inj h
      subst ho
      exact W.zret hx hb hr rfl (fun t ht hW => ⟨⟨_, (), rfl, rfl, by rw [ht]; exact hP, va_K.moved hW.alike hK, hD⟩, hS.F ht⟩) hS.2.2 dX7_cut_13
def f_X7_clear  : Option Int32 :=
  (some (0 : Int32))
abbrev rm_X7_clear : Room := { frames := 0, cells := 0, slots := 0, locals := 0 }
set_option maxHeartbeats 4000000 in
set_option maxRecDepth 100000 in
theorem c_X7_clear (l : Launch) (dC : Nat → ClassId) (dI : Nat → Nat → Nat) (cB cC cI cJ cZ cT : ClassId) (h0 q_signs : Nat) (sz : Nat) (v_size : Int32) (o : Int32) (hf : f_X7_clear = some o) : Met l yX7_clear wsX7_clear rm_X7_clear (va_Pc [.ref h0] (fun U => U.heap.size = sz ∧ va_P (dC, dI) vwCl [(h0, .inr (5, [.ref q_signs, .int v_size]))] U.heap ∧ va_K (dC, dI) vwCl (tyA cB cC cI cJ cZ cT) U ∧ va_D (fun _ => True) [(h0, .inr (5, [.ref q_signs, .int v_size]))])) (va_Qv (fun _ : Unit => True) (fun _ t => va_P (dC, dI) vwCl [(h0, .inr (5, [.ref q_signs, .int o]))] t.heap ∧ va_K (dC, dI) vwCl (tyA cB cC cI cJ cZ cT) t ∧ va_D (va_A [(h0, .inr (5, [.ref q_signs, .int v_size]))] sz) [(h0, .inr (5, [.ref q_signs, .int o]))]) (va_A [(h0, .inr (5, [.ref q_signs, .int v_size]))] sz)) 0 0 (va_A [(h0, .inr (5, [.ref q_signs, .int v_size]))] sz) := by
  refine Met.ofW (cc := cX7_clear) (maxL := 1) (ret := none) (by decide +kernel) rfl ?_
  intro p e s m args below meth c s₁ B hml hv
  obtain ⟨hav, hsz, hP, hK, hD0⟩ := hv
  have hx := B.exec
  have hb := B.bytes
  have hr := B.returns
  have hts := atoms_spec (ws := wsX7_clear) B.pre
  have hown : s.vm.findClass RX7 = some m.cls := findClass_of_methodNamed B.named
  have hlocks := B.notSynchronized
  subst hsz
  have hD := hD0.self (sz := s.heap.size)
  generalize hAe : va_A [(h0, .inr (5, [.ref q_signs, .int v_size]))] s.heap.size = A at hD ⊢
  have hA : ∀ q : Nat, s.heap.size ≤ q → A q := fun q h => by rw [← hAe]; exact Or.inr h
  have hS : va_S A s.heap s.heap [] := va_S.rf
  refine wstart (rm := rm_X7_clear) hav (Nat.le_of_ble_eq_true rfl) (fun QQ ls hQQ hl => ?_)
  have hl : lv_has ls 1 [(0, .ref h0)] := hl
  have hi_X7 : ∀ w ∈ u_ws RX7 TX7 2, w ∈ wsX7_clear := by decide +kernel
  have h := hf
  unfold f_X7_clear at h
  refine lv_aload_n hx hb dX7_clear_0 rfl (lv_at hl 0 rfl) ?_
  refine lv_iconst (v := 0) hx hb dX7_clear_1 (by decide) ?_
  refine va_put (D := (dC, dI)) (ci := 5) (v := .int (0 : Int32)) (ty := .int) (C := RX7) (T := TX7) (N := 2) hx hb hts hi_X7 tyX7 tyX7_ok nmX7 hown hK hP hD hS 0 rfl rfl 1 (by decide) (hts _ (List.mem_of_getElem? (i := 1) rfl)) (fun _ h9 => h9) rfl (by decide +kernel) rfl rfl (Nat.le_of_ble_eq_true rfl) dX7_clear_2 (fun H locs hP hD hS => ?_)
  replace hP : va_P (dC, dI) vwCl [(h0, .inr (5, [.ref q_signs, .int (0 : Int32)]))] H := hP
  replace hD : va_D A [(h0, .inr (5, [.ref q_signs, .int (0 : Int32)]))] := hD
  rw [hQQ]
  have ho := Option.some.inj h
  subst ho
  exact W.vret hx hb hr (fun t ht hW => ⟨⟨(), rfl, trivial, by rw [ht]; exact hP, va_K.moved hW.alike hK, hD⟩, hS.F ht⟩) hS.2.2 dX7_clear_5
def f_X7_digitAt (v_size : Int32) (v_signs : Nat → Int32) (x1 : Int32) : Option Int32 :=
  ((f_X7_signAt v_size v_signs x1).bind (fun o_1651 => (if o_1651 < (48 : Int32) then (some (-1 : Int32)) else (if (57 : Int32) < o_1651 then (some (-1 : Int32)) else (some (o_1651 - (48 : Int32)))))))
abbrev rm_X7_digitAt : Room := { frames := 1, cells := 0, slots := 0, locals := 21 }
set_option maxHeartbeats 4000000 in
set_option maxRecDepth 100000 in
theorem c_X7_digitAt (l : Launch) (dC : Nat → ClassId) (dI : Nat → Nat → Nat) (cB cC cI cJ cZ cT : ClassId) (h0 q_signs : Nat) (v_size : Int32) (v_signs : Nat → Int32) (x1 : Int32) (o : Int32) (hf : f_X7_digitAt v_size v_signs x1 = some o) : Met l yX7_digitAt wsX7_digitAt rm_X7_digitAt (va_Pc [.ref h0, .int x1] (fun U => va_P (dC, dI) vwCl [(h0, .inr (5, [.ref q_signs, .int v_size])), (q_signs, .inl (cC, 80, .inl v_signs))] U.heap ∧ va_K (dC, dI) vwCl (tyA cB cC cI cJ cZ cT) U)) (vp_Si (fun r => o = r)) 0 0 (fun _ => False) := by
  refine Met.ofW (cc := cX7_digitAt) (maxL := 3) (ret := (some .int)) (by decide +kernel) rfl ?_
  intro p e s m args below meth c s₁ B hml hv
  obtain ⟨hav, hP, hK⟩ := hv
  have hx := B.exec
  have hb := B.bytes
  have hr := B.returns
  have hts := atoms_spec (ws := wsX7_digitAt) B.pre
  have hown : s.vm.findClass RX7 = some m.cls := findClass_of_methodNamed B.named
  have hlocks := B.notSynchronized
  refine wstart (rm := rm_X7_digitAt) hav (Nat.le_of_ble_eq_true rfl) (fun QQ ls hQQ hl => ?_)
  have hl : lv_has ls 3 [(0, .ref h0), (1, .int x1)] := hl
  have h := hf
  unfold f_X7_digitAt at h
  refine lv_aload_n hx hb dX7_digitAt_0 rfl (lv_at hl 0 rfl) ?_
  refine lv_iload_n hx hb dX7_digitAt_1 rfl (lv_at hl 1 rfl) ?_
  obtain ⟨o_1651, hr_1651, h⟩ := ob h
  refine vp_callSi (va_Run.run (va_runV (As := [.int x1]) (rest := []) ⟨hx, hb, hml, hown, hts⟩ (c_X7_signAt l dC dI cB cC cI cJ cZ cT h0 q_signs v_size v_signs x1 o_1651 hr_1651) (cwV 1 hts gX7_digitAt_X7_signAt rfl rfl rfl (by decide +kernel) ⟨Nat.le_of_ble_eq_true rfl, Nat.le_of_ble_eq_true rfl⟩) ⟨blR, va_recv hK hP (ci := 5) (q0 := 0) rfl rfl, fun U hU hW => ⟨rfl, by rw [hU]; exact hP.sub [0, 1] rfl, va_K.moved hW.alike hK⟩⟩ rfl rfl hl.1 rfl (lv_room (Nat.le_of_ble_eq_true rfl)) dX7_digitAt_2 ⟨Nat.le_of_ble_eq_true rfl, Nat.le_of_ble_eq_true rfl⟩)) (fun r_1651 e_1651 => ?_)
  subst e_1651
  refine lv_istore_n (lv' := [(2, .int o_1651), (0, .ref h0), (1, .int x1)]) hx hb dX7_digitAt_5 rfl hl (by decide) rfl (fun ls hl => ?_)
  refine lv_iload_n hx hb dX7_digitAt_6 rfl (lv_at hl 0 rfl) ?_
  refine lv_bipush (v := 48) hx hb dX7_digitAt_7 (by decide) ?_
  refine lv_icmp_lt (tgt := 25) hx hb dX7_digitAt_9 (by decide) (fun c_1653 => ?_) (fun c_1653 => ?_)
  · replace h := op c_1653 h
    refine lv_iconst (v := -1) hx hb dX7_digitAt_25 (by decide) ?_
    rw [hQQ]
    exact W.iret hx hb hr (fun t ht hW => ⟨_, rfl, (Option.some.inj h).symm, ht⟩) (fun q hq => absurd hq List.not_mem_nil) dX7_digitAt_26
  · replace h := on c_1653 h
    refine lv_iload_n hx hb dX7_digitAt_12 rfl (lv_at hl 0 rfl) ?_
    refine lv_bipush (v := 57) hx hb dX7_digitAt_13 (by decide) ?_
    refine lv_icmp_gt (tgt := 25) hx hb dX7_digitAt_15 (by decide) (fun c_1654 => ?_) (fun c_1654 => ?_)
    · replace h := op c_1654 h
      refine lv_iconst (v := -1) hx hb dX7_digitAt_25 (by decide) ?_
      rw [hQQ]
      exact W.iret hx hb hr (fun t ht hW => ⟨_, rfl, (Option.some.inj h).symm, ht⟩) (fun q hq => absurd hq List.not_mem_nil) dX7_digitAt_26
    · replace h := on c_1654 h
      refine lv_iload_n hx hb dX7_digitAt_18 rfl (lv_at hl 0 rfl) ?_
      refine lv_bipush (v := 48) hx hb dX7_digitAt_19 (by decide) ?_
      refine lv_isub hx hb dX7_digitAt_21 ?_
      refine lv_goto (tgt := 26) hx hb dX7_digitAt_22 (by decide) ?_
      rw [hQQ]
      exact W.iret hx hb hr (fun t ht hW => ⟨_, rfl, (Option.some.inj h).symm, ht⟩) (fun q hq => absurd hq List.not_mem_nil) dX7_digitAt_26
def f_X7_twoDigitsAt (v_size : Int32) (v_signs : Nat → Int32) (x1 : Int32) : Option Int32 :=
  ((f_X7_digitAt v_size v_signs x1).bind (fun o_1655 => ((f_X7_digitAt v_size v_signs (x1 + (1 : Int32))).bind (fun o_1657 => (some (((10 : Int32) * o_1655) + o_1657))))))
abbrev rm_X7_twoDigitsAt : Room := { frames := 2, cells := 0, slots := 0, locals := 43 }
set_option maxHeartbeats 4000000 in
set_option maxRecDepth 100000 in
theorem c_X7_twoDigitsAt (l : Launch) (dC : Nat → ClassId) (dI : Nat → Nat → Nat) (cB cC cI cJ cZ cT : ClassId) (h0 q_signs : Nat) (v_size : Int32) (v_signs : Nat → Int32) (x1 : Int32) (o : Int32) (hf : f_X7_twoDigitsAt v_size v_signs x1 = some o) : Met l yX7_twoDigitsAt wsX7_twoDigitsAt rm_X7_twoDigitsAt (va_Pc [.ref h0, .int x1] (fun U => va_P (dC, dI) vwCl [(h0, .inr (5, [.ref q_signs, .int v_size])), (q_signs, .inl (cC, 80, .inl v_signs))] U.heap ∧ va_K (dC, dI) vwCl (tyA cB cC cI cJ cZ cT) U)) (vp_Si (fun r => o = r)) 0 0 (fun _ => False) := by
  refine Met.ofW (cc := cX7_twoDigitsAt) (maxL := 2) (ret := (some .int)) (by decide +kernel) rfl ?_
  intro p e s m args below meth c s₁ B hml hv
  obtain ⟨hav, hP, hK⟩ := hv
  have hx := B.exec
  have hb := B.bytes
  have hr := B.returns
  have hts := atoms_spec (ws := wsX7_twoDigitsAt) B.pre
  have hown : s.vm.findClass RX7 = some m.cls := findClass_of_methodNamed B.named
  have hlocks := B.notSynchronized
  refine wstart (rm := rm_X7_twoDigitsAt) hav (Nat.le_of_ble_eq_true rfl) (fun QQ ls hQQ hl => ?_)
  have hl : lv_has ls 2 [(0, .ref h0), (1, .int x1)] := hl
  have h := hf
  unfold f_X7_twoDigitsAt at h
  refine lv_bipush (v := 10) hx hb dX7_twoDigitsAt_0 (by decide) ?_
  refine lv_aload_n hx hb dX7_twoDigitsAt_2 rfl (lv_at hl 0 rfl) ?_
  refine lv_iload_n hx hb dX7_twoDigitsAt_3 rfl (lv_at hl 1 rfl) ?_
  obtain ⟨o_1655, hr_1655, h⟩ := ob h
  refine vp_callSi (va_Run.run (va_runV (As := [.int x1]) (rest := [.int (10 : Int32)]) ⟨hx, hb, hml, hown, hts⟩ (c_X7_digitAt l dC dI cB cC cI cJ cZ cT h0 q_signs v_size v_signs x1 o_1655 hr_1655) (cwV 1 hts gX7_twoDigitsAt_X7_digitAt rfl rfl rfl (by decide +kernel) ⟨Nat.le_of_ble_eq_true rfl, Nat.le_of_ble_eq_true rfl⟩) ⟨blR, va_recv hK hP (ci := 5) (q0 := 0) rfl rfl, fun U hU hW => ⟨rfl, by rw [hU]; exact hP.sub [0, 1] rfl, va_K.moved hW.alike hK⟩⟩ rfl rfl hl.1 rfl (lv_room (Nat.le_of_ble_eq_true rfl)) dX7_twoDigitsAt_4 ⟨Nat.le_of_ble_eq_true rfl, Nat.le_of_ble_eq_true rfl⟩)) (fun r_1655 e_1655 => ?_)
  subst e_1655
  refine lv_imul hx hb dX7_twoDigitsAt_7 ?_
  refine lv_aload_n hx hb dX7_twoDigitsAt_8 rfl (lv_at hl 0 rfl) ?_
  refine lv_iload_n hx hb dX7_twoDigitsAt_9 rfl (lv_at hl 1 rfl) ?_
  refine lv_iconst (v := 1) hx hb dX7_twoDigitsAt_10 (by decide) ?_
  refine lv_iadd hx hb dX7_twoDigitsAt_11 ?_
  obtain ⟨o_1657, hr_1657, h⟩ := ob h
  refine vp_callSi (va_Run.run (va_runV (As := [.int (x1 + (1 : Int32))]) (rest := [.int ((10 : Int32) * o_1655)]) ⟨hx, hb, hml, hown, hts⟩ (c_X7_digitAt l dC dI cB cC cI cJ cZ cT h0 q_signs v_size v_signs (x1 + (1 : Int32)) o_1657 hr_1657) (cwV 1 hts gX7_twoDigitsAt_X7_digitAt rfl rfl rfl (by decide +kernel) ⟨Nat.le_of_ble_eq_true rfl, Nat.le_of_ble_eq_true rfl⟩) ⟨blR, va_recv hK hP (ci := 5) (q0 := 0) rfl rfl, fun U hU hW => ⟨rfl, by rw [hU]; exact hP.sub [0, 1] rfl, va_K.moved hW.alike hK⟩⟩ rfl rfl hl.1 rfl (lv_room (Nat.le_of_ble_eq_true rfl)) dX7_twoDigitsAt_12 ⟨Nat.le_of_ble_eq_true rfl, Nat.le_of_ble_eq_true rfl⟩)) (fun r_1657 e_1657 => ?_)
  subst e_1657
  refine lv_iadd hx hb dX7_twoDigitsAt_15 ?_
  rw [hQQ]
  exact W.iret hx hb hr (fun t ht hW => ⟨_, rfl, (Option.some.inj h).symm, ht⟩) (fun q hq => absurd hq List.not_mem_nil) dX7_twoDigitsAt_16
