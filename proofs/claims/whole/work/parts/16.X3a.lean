def f_X3_isNumberWay (x0 : Int32) : Option Bool :=
  (if x0 < 0 then (some false) else (if (7 : Int32) < x0 then (some false) else (some true)))
abbrev rm_X3_isNumberWay : Room := { frames := 0, cells := 0, slots := 0, locals := 0 }
set_option maxHeartbeats 4000000 in
set_option maxRecDepth 100000 in
theorem c_X3_isNumberWay (l : Launch) (dC : Nat → ClassId) (dI : Nat → Nat → Nat) (cB cC cI cJ cZ cT : ClassId) (x0 : Int32) (o : Bool) (hf : f_X3_isNumberWay x0 = some o) : Met l yX3_isNumberWay wsX3_isNumberWay rm_X3_isNumberWay (va_Pc [.int x0] (fun _ => True)) (vp_Si (fun r => b2i o = r)) 0 0 (fun _ => False) := by
  refine Met.ofW (cc := cX3_isNumberWay) (maxL := 1) (ret := (some .boolean)) (by decide) rfl ?_
  intro p e s m args below meth c s₁ B hml hv
  obtain ⟨hav, -⟩ := hv
  have hx := B.exec
  have hb := B.bytes
  have hr := B.returns
  have hts := atoms_spec (ws := wsX3_isNumberWay) B.pre
  have hown : s.vm.findClass RX3 = some m.cls := findClass_of_methodNamed B.named
  have hlocks := B.notSynchronized
  refine wstart (rm := rm_X3_isNumberWay) hav (Nat.le_of_ble_eq_true rfl) (fun QQ ls hQQ hl => ?_)
  have hl : lv_has ls 1 [(0, .int x0)] := hl
  have h := hf
  unfold f_X3_isNumberWay at h
  refine lv_iload_n hx hb dX3_isNumberWay_0 rfl (lv_at hl 0 rfl) ?_
  refine lv_if_lt (tgt := 14) hx hb dX3_isNumberWay_1 (by decide) (fun c_1578 => ?_) (fun c_1578 => ?_)
  · replace h := op c_1578 h
    refine lv_iconst (v := 0) hx hb dX3_isNumberWay_14 (by decide) ?_
    rw [hQQ]
    exact W.zret hx hb hr rfl (fun t ht hW => ⟨_, rfl, (congrArg b2i (Option.some.inj h).symm), ht⟩) (fun q hq => absurd hq List.not_mem_nil) dX3_isNumberWay_15
  · replace h := on c_1578 h
    refine lv_iload_n hx hb dX3_isNumberWay_4 rfl (lv_at hl 0 rfl) ?_
    refine lv_bipush (v := 7) hx hb dX3_isNumberWay_5 (by decide) ?_
    refine lv_icmp_gt (tgt := 14) hx hb dX3_isNumberWay_7 (by decide) (fun c_1579 => ?_) (fun c_1579 => ?_)
    · replace h := op c_1579 h
      refine lv_iconst (v := 0) hx hb dX3_isNumberWay_14 (by decide) ?_
      rw [hQQ]
      exact W.zret hx hb hr rfl (fun t ht hW => ⟨_, rfl, (congrArg b2i (Option.some.inj h).symm), ht⟩) (fun q hq => absurd hq List.not_mem_nil) dX3_isNumberWay_15
    · replace h := on c_1579 h
      refine lv_iconst (v := 1) hx hb dX3_isNumberWay_10 (by decide) ?_
      refine lv_goto (tgt := 15) hx hb dX3_isNumberWay_11 (by decide) ?_
      rw [hQQ]
      exact W.zret hx hb hr rfl (fun t ht hW => ⟨_, rfl, (congrArg b2i (Option.some.inj h).symm), ht⟩) (fun q hq => absurd hq List.not_mem_nil) dX3_isNumberWay_15
def f_X3_puts (x0 : Int32) : Option Bool :=
  ((f_X3_isNumberWay x0).bind (fun o_1580 => (if (b2i o_1580) = 0 then (if x0 < (10 : Int32) then (some false) else (if (21 : Int32) < x0 then (some false) else (some true))) else (some true))))
abbrev rm_X3_puts : Room := { frames := 1, cells := 0, slots := 0, locals := 20 }
set_option maxHeartbeats 4000000 in
set_option maxRecDepth 100000 in
theorem c_X3_puts (l : Launch) (dC : Nat → ClassId) (dI : Nat → Nat → Nat) (cB cC cI cJ cZ cT : ClassId) (x0 : Int32) (o : Bool) (hf : f_X3_puts x0 = some o) : Met l yX3_puts wsX3_puts rm_X3_puts (va_Pc [.int x0] (fun _ => True)) (vp_Si (fun r => b2i o = r)) 0 0 (fun _ => False) := by
  refine Met.ofW (cc := cX3_puts) (maxL := 1) (ret := (some .boolean)) (by decide) rfl ?_
  intro p e s m args below meth c s₁ B hml hv
  obtain ⟨hav, -⟩ := hv
  have hx := B.exec
  have hb := B.bytes
  have hr := B.returns
  have hts := atoms_spec (ws := wsX3_puts) B.pre
  have hown : s.vm.findClass RX3 = some m.cls := findClass_of_methodNamed B.named
  have hlocks := B.notSynchronized
  refine wstart (rm := rm_X3_puts) hav (Nat.le_of_ble_eq_true rfl) (fun QQ ls hQQ hl => ?_)
  have hl : lv_has ls 1 [(0, .int x0)] := hl
  have h := hf
  unfold f_X3_puts at h
  refine lv_iload_n hx hb dX3_puts_0 rfl (lv_at hl 0 rfl) ?_
  obtain ⟨o_1580, hr_1580, h⟩ := ob h
  refine vp_callSi (va_Run.run (va_runS (As := [.int x0]) (rest := []) ⟨hx, hb, hml, hown, hts⟩ (c_X3_isNumberWay l dC dI cB cC cI cJ cZ cT x0 o_1580 hr_1580) (va_cwS 1 hts gX3_puts_X3_isNumberWay rfl rfl rfl (by decide +kernel) ⟨Nat.le_of_ble_eq_true rfl, Nat.le_of_ble_eq_true rfl⟩) ⟨blT, fun U hU hW => ⟨rfl, trivial⟩⟩ rfl rfl hl.1 rfl (lv_room (Nat.le_of_ble_eq_true rfl)) dX3_puts_1 ⟨Nat.le_of_ble_eq_true rfl, Nat.le_of_ble_eq_true rfl⟩)) (fun r_1580 e_1580 => ?_)
  subst e_1580
  refine lv_if_ne (tgt := 19) hx hb dX3_puts_4 (by decide) (fun c_1582 => ?_) (fun c_1582 => ?_)
  · replace h := on c_1582 h
    refine lv_iconst (v := 1) hx hb dX3_puts_19 (by decide) ?_
    refine lv_goto (tgt := 24) hx hb dX3_puts_20 (by decide) ?_
    rw [hQQ]
    exact W.zret hx hb hr rfl (fun t ht hW => ⟨_, rfl, (congrArg b2i (Option.some.inj h).symm), ht⟩) (fun q hq => absurd hq List.not_mem_nil) dX3_puts_24
  · replace h := op c_1582 h
    refine lv_iload_n hx hb dX3_puts_7 rfl (lv_at hl 0 rfl) ?_
    refine lv_bipush (v := 10) hx hb dX3_puts_8 (by decide) ?_
    refine lv_icmp_lt (tgt := 23) hx hb dX3_puts_10 (by decide) (fun c_1583 => ?_) (fun c_1583 => ?_)
    · replace h := op c_1583 h
      refine lv_iconst (v := 0) hx hb dX3_puts_23 (by decide) ?_
      rw [hQQ]
      exact W.zret hx hb hr rfl (fun t ht hW => ⟨_, rfl, (congrArg b2i (Option.some.inj h).symm), ht⟩) (fun q hq => absurd hq List.not_mem_nil) dX3_puts_24
    · replace h := on c_1583 h
      refine lv_iload_n hx hb dX3_puts_13 rfl (lv_at hl 0 rfl) ?_
      refine lv_bipush (v := 21) hx hb dX3_puts_14 (by decide) ?_
      refine lv_icmp_gt (tgt := 23) hx hb dX3_puts_16 (by decide) (fun c_1584 => ?_) (fun c_1584 => ?_)
      · replace h := op c_1584 h
        refine lv_iconst (v := 0) hx hb dX3_puts_23 (by decide) ?_
        rw [hQQ]
        exact W.zret hx hb hr rfl (fun t ht hW => ⟨_, rfl, (congrArg b2i (Option.some.inj h).symm), ht⟩) (fun q hq => absurd hq List.not_mem_nil) dX3_puts_24
      · replace h := on c_1584 h
        refine lv_iconst (v := 1) hx hb dX3_puts_19 (by decide) ?_
        refine lv_goto (tgt := 24) hx hb dX3_puts_20 (by decide) ?_
        rw [hQQ]
        exact W.zret hx hb hr rfl (fun t ht hW => ⟨_, rfl, (congrArg b2i (Option.some.inj h).symm), ht⟩) (fun q hq => absurd hq List.not_mem_nil) dX3_puts_24
def f_X3_takes (x0 : Int32) : Option Bool :=
  ((f_X3_isNumberWay x0).bind (fun o_1585 => (if (b2i o_1585) = 0 then (if x0 = (10 : Int32) then (some true) else (some false)) else (some true))))
abbrev rm_X3_takes : Room := { frames := 1, cells := 0, slots := 0, locals := 20 }
set_option maxHeartbeats 4000000 in
set_option maxRecDepth 100000 in
theorem c_X3_takes (l : Launch) (dC : Nat → ClassId) (dI : Nat → Nat → Nat) (cB cC cI cJ cZ cT : ClassId) (x0 : Int32) (o : Bool) (hf : f_X3_takes x0 = some o) : Met l yX3_takes wsX3_takes rm_X3_takes (va_Pc [.int x0] (fun _ => True)) (vp_Si (fun r => b2i o = r)) 0 0 (fun _ => False) := by
  refine Met.ofW (cc := cX3_takes) (maxL := 1) (ret := (some .boolean)) (by decide) rfl ?_
  intro p e s m args below meth c s₁ B hml hv
  obtain ⟨hav, -⟩ := hv
  have hx := B.exec
  have hb := B.bytes
  have hr := B.returns
  have hts := atoms_spec (ws := wsX3_takes) B.pre
  have hown : s.vm.findClass RX3 = some m.cls := findClass_of_methodNamed B.named
  have hlocks := B.notSynchronized
  refine wstart (rm := rm_X3_takes) hav (Nat.le_of_ble_eq_true rfl) (fun QQ ls hQQ hl => ?_)
  have hl : lv_has ls 1 [(0, .int x0)] := hl
  have h := hf
  unfold f_X3_takes at h
  refine lv_iload_n hx hb dX3_takes_0 rfl (lv_at hl 0 rfl) ?_
  obtain ⟨o_1585, hr_1585, h⟩ := ob h
  refine vp_callSi (va_Run.run (va_runS (As := [.int x0]) (rest := []) ⟨hx, hb, hml, hown, hts⟩ (c_X3_isNumberWay l dC dI cB cC cI cJ cZ cT x0 o_1585 hr_1585) (va_cwS 1 hts gX3_takes_X3_isNumberWay rfl rfl rfl (by decide +kernel) ⟨Nat.le_of_ble_eq_true rfl, Nat.le_of_ble_eq_true rfl⟩) ⟨blT, fun U hU hW => ⟨rfl, trivial⟩⟩ rfl rfl hl.1 rfl (lv_room (Nat.le_of_ble_eq_true rfl)) dX3_takes_1 ⟨Nat.le_of_ble_eq_true rfl, Nat.le_of_ble_eq_true rfl⟩)) (fun r_1585 e_1585 => ?_)
  subst e_1585
  refine lv_if_ne (tgt := 13) hx hb dX3_takes_4 (by decide) (fun c_1587 => ?_) (fun c_1587 => ?_)
  · replace h := on c_1587 h
    refine lv_iconst (v := 1) hx hb dX3_takes_13 (by decide) ?_
    refine lv_goto (tgt := 18) hx hb dX3_takes_14 (by decide) ?_
    rw [hQQ]
    exact W.zret hx hb hr rfl (fun t ht hW => ⟨_, rfl, (congrArg b2i (Option.some.inj h).symm), ht⟩) (fun q hq => absurd hq List.not_mem_nil) dX3_takes_18
  · replace h := op c_1587 h
    refine lv_iload_n hx hb dX3_takes_7 rfl (lv_at hl 0 rfl) ?_
    refine lv_bipush (v := 10) hx hb dX3_takes_8 (by decide) ?_
    refine lv_icmp_ne (tgt := 17) hx hb dX3_takes_10 (by decide) (fun c_1588 => ?_) (fun c_1588 => ?_)
    · replace h := on c_1588 h
      refine lv_iconst (v := 0) hx hb dX3_takes_17 (by decide) ?_
      rw [hQQ]
      exact W.zret hx hb hr rfl (fun t ht hW => ⟨_, rfl, (congrArg b2i (Option.some.inj h).symm), ht⟩) (fun q hq => absurd hq List.not_mem_nil) dX3_takes_18
    · replace h := op c_1588 h
      refine lv_iconst (v := 1) hx hb dX3_takes_13 (by decide) ?_
      refine lv_goto (tgt := 18) hx hb dX3_takes_14 (by decide) ?_
      rw [hQQ]
      exact W.zret hx hb hr rfl (fun t ht hW => ⟨_, rfl, (congrArg b2i (Option.some.inj h).symm), ht⟩) (fun q hq => absurd hq List.not_mem_nil) dX3_takes_18
def f_X3_mayBeNothing (x0 : Int32) : Option Bool :=
  (if x0 < (8 : Int32) then (some false) else (if (10 : Int32) < x0 then (some false) else (some true)))
abbrev rm_X3_mayBeNothing : Room := { frames := 0, cells := 0, slots := 0, locals := 0 }
set_option maxHeartbeats 4000000 in
set_option maxRecDepth 100000 in
theorem c_X3_mayBeNothing (l : Launch) (dC : Nat → ClassId) (dI : Nat → Nat → Nat) (cB cC cI cJ cZ cT : ClassId) (x0 : Int32) (o : Bool) (hf : f_X3_mayBeNothing x0 = some o) : Met l yX3_mayBeNothing wsX3_mayBeNothing rm_X3_mayBeNothing (va_Pc [.int x0] (fun _ => True)) (vp_Si (fun r => b2i o = r)) 0 0 (fun _ => False) := by
  refine Met.ofW (cc := cX3_mayBeNothing) (maxL := 1) (ret := (some .boolean)) (by decide) rfl ?_
  intro p e s m args below meth c s₁ B hml hv
  obtain ⟨hav, -⟩ := hv
  have hx := B.exec
  have hb := B.bytes
  have hr := B.returns
  have hts := atoms_spec (ws := wsX3_mayBeNothing) B.pre
  have hown : s.vm.findClass RX3 = some m.cls := findClass_of_methodNamed B.named
  have hlocks := B.notSynchronized
  refine wstart (rm := rm_X3_mayBeNothing) hav (Nat.le_of_ble_eq_true rfl) (fun QQ ls hQQ hl => ?_)
  have hl : lv_has ls 1 [(0, .int x0)] := hl
  have h := hf
  unfold f_X3_mayBeNothing at h
  refine lv_iload_n hx hb dX3_mayBeNothing_0 rfl (lv_at hl 0 rfl) ?_
  refine lv_bipush (v := 8) hx hb dX3_mayBeNothing_1 (by decide) ?_
  refine lv_icmp_lt (tgt := 16) hx hb dX3_mayBeNothing_3 (by decide) (fun c_1589 => ?_) (fun c_1589 => ?_)
  · replace h := op c_1589 h
    refine lv_iconst (v := 0) hx hb dX3_mayBeNothing_16 (by decide) ?_
    rw [hQQ]
    exact W.zret hx hb hr rfl (fun t ht hW => ⟨_, rfl, (congrArg b2i (Option.some.inj h).symm), ht⟩) (fun q hq => absurd hq List.not_mem_nil) dX3_mayBeNothing_17
  · replace h := on c_1589 h
    refine lv_iload_n hx hb dX3_mayBeNothing_6 rfl (lv_at hl 0 rfl) ?_
    refine lv_bipush (v := 10) hx hb dX3_mayBeNothing_7 (by decide) ?_
    refine lv_icmp_gt (tgt := 16) hx hb dX3_mayBeNothing_9 (by decide) (fun c_1590 => ?_) (fun c_1590 => ?_)
    · replace h := op c_1590 h
      refine lv_iconst (v := 0) hx hb dX3_mayBeNothing_16 (by decide) ?_
      rw [hQQ]
      exact W.zret hx hb hr rfl (fun t ht hW => ⟨_, rfl, (congrArg b2i (Option.some.inj h).symm), ht⟩) (fun q hq => absurd hq List.not_mem_nil) dX3_mayBeNothing_17
    · replace h := on c_1590 h
      refine lv_iconst (v := 1) hx hb dX3_mayBeNothing_12 (by decide) ?_
      refine lv_goto (tgt := 17) hx hb dX3_mayBeNothing_13 (by decide) ?_
      rw [hQQ]
      exact W.zret hx hb hr rfl (fun t ht hW => ⟨_, rfl, (congrArg b2i (Option.some.inj h).symm), ht⟩) (fun q hq => absurd hq List.not_mem_nil) dX3_mayBeNothing_17
def f_X3_widens (x0 : Int32) (x1 : Int32) : Option Bool :=
  ((f_X3_isNumberWay x0).bind (fun o_1591 => (if (b2i o_1591) = 0 then (some false) else ((f_X3_isNumberWay x1).bind (fun o_1594 => (if (b2i o_1594) = 0 then (some false) else (if x0 < 0 ∨ 8 ≤ (x0).toNatClampNeg then none else (if (((wid (x0).toNatClampNeg) >>> (x1 &&& 31)) &&& (1 : Int32)) = 0 then (some false) else (some true)))))))))
abbrev rm_X3_widens : Room := { frames := 1, cells := 0, slots := 0, locals := 20 }
set_option maxHeartbeats 4000000 in
set_option maxRecDepth 100000 in
theorem c_X3_widens (l : Launch) (dC : Nat → ClassId) (dI : Nat → Nat → Nat) (cB cC cI cJ cZ cT : ClassId) (x0 : Int32) (x1 : Int32) (o : Bool) (hf : f_X3_widens x0 x1 = some o) : Met l yX3_widens wsX3_widens rm_X3_widens (va_Pc [.int x0, .int x1] (fun U => SX (fun _ => False) U U.heap)) (vp_Si (fun r => b2i o = r)) 0 0 (fun _ => False) := by
  refine Met.ofW (cc := cX3_widens) (maxL := 2) (ret := (some .boolean)) (by decide) rfl ?_
  intro p e s m args below meth c s₁ B hml hv
  obtain ⟨hav, hX⟩ := hv
  have hx := B.exec
  have hb := B.bytes
  have hr := B.returns
  have hts := atoms_spec (ws := wsX3_widens) B.pre
  have hown : s.vm.findClass RX3 = some m.cls := findClass_of_methodNamed B.named
  have hlocks := B.notSynchronized
  have hS : va_S (fun _ => False) s.heap s.heap [] := va_S.rf
  obtain ⟨⟨tM, hZM, hTM⟩, tC, hZC, hTC⟩ := id hX
  refine wstart (rm := rm_X3_widens) hav (Nat.le_of_ble_eq_true rfl) (fun QQ ls hQQ hl => ?_)
  have hl : lv_has ls 2 [(0, .int x0), (1, .int x1)] := hl
  have h := hf
  unfold f_X3_widens at h
  refine lv_iload_n hx hb dX3_widens_0 rfl (lv_at hl 0 rfl) ?_
  obtain ⟨o_1591, hr_1591, h⟩ := ob h
  refine vp_callSi (va_Run.run (va_runS (As := [.int x0]) (rest := []) ⟨hx, hb, hml, hown, hts⟩ (c_X3_isNumberWay l dC dI cB cC cI cJ cZ cT x0 o_1591 hr_1591) (va_cwS 1 hts gX3_widens_X3_isNumberWay rfl rfl rfl (by decide +kernel) ⟨Nat.le_of_ble_eq_true rfl, Nat.le_of_ble_eq_true rfl⟩) ⟨blT, fun U hU hW => ⟨rfl, trivial⟩⟩ rfl rfl hl.1 rfl (lv_room (Nat.le_of_ble_eq_true rfl)) dX3_widens_1 ⟨Nat.le_of_ble_eq_true rfl, Nat.le_of_ble_eq_true rfl⟩)) (fun r_1591 e_1591 => ?_)
  subst e_1591
  refine lv_if_eq (tgt := 30) hx hb dX3_widens_4 (by decide) (fun c_1593 => ?_) (fun c_1593 => ?_)
  · replace h := op c_1593 h
    refine lv_iconst (v := 0) hx hb dX3_widens_30 (by decide) ?_
    rw [hQQ]
    exact W.zret hx hb hr rfl (fun t ht hW => ⟨_, rfl, (congrArg b2i (Option.some.inj h).symm), ht⟩) (fun q hq => absurd hq List.not_mem_nil) dX3_widens_31
  · replace h := on c_1593 h
    refine lv_iload_n hx hb dX3_widens_7 rfl (lv_at hl 1 rfl) ?_
    obtain ⟨o_1594, hr_1594, h⟩ := ob h
    refine vp_callSi (va_Run.run (va_runS (As := [.int x1]) (rest := []) ⟨hx, hb, hml, hown, hts⟩ (c_X3_isNumberWay l dC dI cB cC cI cJ cZ cT x1 o_1594 hr_1594) (va_cwS 1 hts gX3_widens_X3_isNumberWay rfl rfl rfl (by decide +kernel) ⟨Nat.le_of_ble_eq_true rfl, Nat.le_of_ble_eq_true rfl⟩) ⟨blT, fun U hU hW => ⟨rfl, trivial⟩⟩ rfl rfl hl.1 rfl (lv_room (Nat.le_of_ble_eq_true rfl)) dX3_widens_8 ⟨Nat.le_of_ble_eq_true rfl, Nat.le_of_ble_eq_true rfl⟩)) (fun r_1594 e_1594 => ?_)
    subst e_1594
    refine lv_if_eq (tgt := 30) hx hb dX3_widens_11 (by decide) (fun c_1596 => ?_) (fun c_1596 => ?_)
    · replace h := op c_1596 h
      refine lv_iconst (v := 0) hx hb dX3_widens_30 (by decide) ?_
      rw [hQQ]
      exact W.zret hx hb hr rfl (fun t ht hW => ⟨_, rfl, (congrArg b2i (Option.some.inj h).symm), ht⟩) (fun q hq => absurd hq List.not_mem_nil) dX3_widens_31
    · replace h := on c_1596 h
      refine va_gets hx hb hZC hS hown (hts _ (List.mem_of_getElem? (i := 1) rfl)) (fun _ h9 => h9) dX3_widens_14 ?_
      refine lv_iload_n hx hb dX3_widens_17 rfl (lv_at hl 0 rfl) ?_
      obtain ⟨hi_1597, h⟩ := og h
      refine va_ti (v := .int (wid (x0).toNatClampNeg)) hx hb hTC hS hi_1597 rfl dX3_widens_18 ?_
      refine lv_iload_n hx hb dX3_widens_19 rfl (lv_at hl 1 rfl) ?_
      refine lv_ishr hx hb dX3_widens_20 ?_
      refine lv_iconst (v := 1) hx hb dX3_widens_21 (by decide) ?_
      refine lv_iand hx hb dX3_widens_22 ?_
      refine lv_if_eq (tgt := 30) hx hb dX3_widens_23 (by decide) (fun c_1598 => ?_) (fun c_1598 => ?_)
      · replace h := op c_1598 h
        refine lv_iconst (v := 0) hx hb dX3_widens_30 (by decide) ?_
        rw [hQQ]
        exact W.zret hx hb hr rfl (fun t ht hW => ⟨_, rfl, (congrArg b2i (Option.some.inj h).symm), ht⟩) (fun q hq => absurd hq List.not_mem_nil) dX3_widens_31
      · replace h := on c_1598 h
        refine lv_iconst (v := 1) hx hb dX3_widens_26 (by decide) ?_
        refine lv_goto (tgt := 31) hx hb dX3_widens_27 (by decide) ?_
        rw [hQQ]
        exact W.zret hx hb hr rfl (fun t ht hW => ⟨_, rfl, (congrArg b2i (Option.some.inj h).symm), ht⟩) (fun q hq => absurd hq List.not_mem_nil) dX3_widens_31
def f_X3_toldKind (x0 : Int32) : Option Int32 :=
  (if x0 = 18 then (some (4 : Int32)) else (if x0 = 19 then (some (9 : Int32)) else (if x0 = 20 then (some (10 : Int32)) else (if x0 = 21 then (some (14 : Int32)) else (if x0 < (10 : Int32) then (some x0) else (some (x0 - (10 : Int32))))))))
abbrev rm_X3_toldKind : Room := { frames := 0, cells := 0, slots := 0, locals := 0 }
set_option maxHeartbeats 4000000 in
set_option maxRecDepth 100000 in
theorem c_X3_toldKind (l : Launch) (dC : Nat → ClassId) (dI : Nat → Nat → Nat) (cB cC cI cJ cZ cT : ClassId) (x0 : Int32) (o : Int32) (hf : f_X3_toldKind x0 = some o) : Met l yX3_toldKind wsX3_toldKind rm_X3_toldKind (va_Pc [.int x0] (fun _ => True)) (vp_Si (fun r => o = r)) 0 0 (fun _ => False) := by
  refine Met.ofW (cc := cX3_toldKind) (maxL := 1) (ret := (some .int)) (by decide) rfl ?_
  intro p e s m args below meth c s₁ B hml hv
  obtain ⟨hav, -⟩ := hv
  have hx := B.exec
  have hb := B.bytes
  have hr := B.returns
  have hts := atoms_spec (ws := wsX3_toldKind) B.pre
  have hown : s.vm.findClass RX3 = some m.cls := findClass_of_methodNamed B.named
  have hlocks := B.notSynchronized
  refine wstart (rm := rm_X3_toldKind) hav (Nat.le_of_ble_eq_true rfl) (fun QQ ls hQQ hl => ?_)
  have hl : lv_has ls 1 [(0, .int x0)] := hl
  have h := hf
  unfold f_X3_toldKind at h
  refine lv_iload_n hx hb dX3_toldKind_0 rfl (lv_at hl 0 rfl) ?_
  by_cases c_1599 : x0 = 18
  · replace h := op c_1599 h
    refine lv_tableIn (off := 31) (tgt := 32) hx hb dX3_toldKind_1 (by rw [c_1599]; decide) (by rw [c_1599]; decide) (by rw [c_1599]; rfl) (by decide) ?_
    refine lv_iconst (v := 4) hx hb dX3_toldKind_32 (by decide) ?_
    rw [hQQ]
    exact W.iret hx hb hr (fun t ht hW => ⟨_, rfl, (Option.some.inj h).symm, ht⟩) (fun q hq => absurd hq List.not_mem_nil) dX3_toldKind_33
  replace h := on c_1599 h
  by_cases c_1600 : x0 = 19
  · replace h := op c_1600 h
    refine lv_tableIn (off := 33) (tgt := 34) hx hb dX3_toldKind_1 (by rw [c_1600]; decide) (by rw [c_1600]; decide) (by rw [c_1600]; rfl) (by decide) ?_
    refine lv_bipush (v := 9) hx hb dX3_toldKind_34 (by decide) ?_
    rw [hQQ]
    exact W.iret hx hb hr (fun t ht hW => ⟨_, rfl, (Option.some.inj h).symm, ht⟩) (fun q hq => absurd hq List.not_mem_nil) dX3_toldKind_36
  replace h := on c_1600 h
  by_cases c_1601 : x0 = 20
  · replace h := op c_1601 h
    refine lv_tableIn (off := 36) (tgt := 37) hx hb dX3_toldKind_1 (by rw [c_1601]; decide) (by rw [c_1601]; decide) (by rw [c_1601]; rfl) (by decide) ?_
    refine lv_bipush (v := 10) hx hb dX3_toldKind_37 (by decide) ?_
    rw [hQQ]
    exact W.iret hx hb hr (fun t ht hW => ⟨_, rfl, (Option.some.inj h).symm, ht⟩) (fun q hq => absurd hq List.not_mem_nil) dX3_toldKind_39
  replace h := on c_1601 h
  by_cases c_1602 : x0 = 21
  · replace h := op c_1602 h
    refine lv_tableIn (off := 39) (tgt := 40) hx hb dX3_toldKind_1 (by rw [c_1602]; decide) (by rw [c_1602]; decide) (by rw [c_1602]; rfl) (by decide) ?_
    refine lv_bipush (v := 14) hx hb dX3_toldKind_40 (by decide) ?_
    rw [hQQ]
    exact W.iret hx hb hr (fun t ht hW => ⟨_, rfl, (Option.some.inj h).symm, ht⟩) (fun q hq => absurd hq List.not_mem_nil) dX3_toldKind_42
  replace h := on c_1602 h
  have ct_1599 : (x0).toInt < 18 ∨ 21 < (x0).toInt := by
    have q_1599 := i32_ne c_1599
    have q_1600 := i32_ne c_1600
    have q_1601 := i32_ne c_1601
    have q_1602 := i32_ne c_1602
    have z_1599 : ((18 : Int32)).toInt = 18 ∧ ((19 : Int32)).toInt = 19 ∧ ((20 : Int32)).toInt = 20 ∧ ((21 : Int32)).toInt = 21 := by decide
    omega
  refine lv_tableOut (tgt := 43) hx hb dX3_toldKind_1 ct_1599 (by decide) ?_
  refine lv_iload_n hx hb dX3_toldKind_43 rfl (lv_at hl 0 rfl) ?_
  refine lv_bipush (v := 10) hx hb dX3_toldKind_44 (by decide) ?_
  refine lv_icmp_lt (tgt := 56) hx hb dX3_toldKind_46 (by decide) (fun c_1603 => ?_) (fun c_1603 => ?_)
  · replace h := op c_1603 h
    refine lv_iload_n hx hb dX3_toldKind_56 rfl (lv_at hl 0 rfl) ?_
    rw [hQQ]
    exact W.iret hx hb hr (fun t ht hW => ⟨_, rfl, (Option.some.inj h).symm, ht⟩) (fun q hq => absurd hq List.not_mem_nil) dX3_toldKind_57
  · replace h := on c_1603 h
    refine lv_iload_n hx hb dX3_toldKind_49 rfl (lv_at hl 0 rfl) ?_
    refine lv_bipush (v := 10) hx hb dX3_toldKind_50 (by decide) ?_
    refine lv_isub hx hb dX3_toldKind_52 ?_
    refine lv_goto (tgt := 57) hx hb dX3_toldKind_53 (by decide) ?_
    rw [hQQ]
    exact W.iret hx hb hr (fun t ht hW => ⟨_, rfl, (Option.some.inj h).symm, ht⟩) (fun q hq => absurd hq List.not_mem_nil) dX3_toldKind_57
def f_X3_textNumber (x0 : Int32) : Option Int64 :=
  (some ((x0 - x0 / (26 : Int32) * (26 : Int32)) + ((26 : Int32) * ((x0 / (26 : Int32)) - (x0 / (26 : Int32)) / (3 : Int32) * (3 : Int32)))).toInt64)
abbrev rm_X3_textNumber : Room := { frames := 0, cells := 0, slots := 0, locals := 0 }
set_option maxHeartbeats 4000000 in
set_option maxRecDepth 100000 in
theorem c_X3_textNumber (l : Launch) (dC : Nat → ClassId) (dI : Nat → Nat → Nat) (cB cC cI cJ cZ cT : ClassId) (x0 : Int32) (o : Int64) (hf : f_X3_textNumber x0 = some o) : Met l yX3_textNumber wsX3_textNumber rm_X3_textNumber (va_Pc [.int x0] (fun _ => True)) (vp_Sl (fun r => o = r)) 0 0 (fun _ => False) := by
  refine Met.ofW (cc := cX3_textNumber) (maxL := 1) (ret := (some .long)) (by decide) rfl ?_
  intro p e s m args below meth c s₁ B hml hv
  obtain ⟨hav, -⟩ := hv
  have hx := B.exec
  have hb := B.bytes
  have hr := B.returns
  have hts := atoms_spec (ws := wsX3_textNumber) B.pre
  have hown : s.vm.findClass RX3 = some m.cls := findClass_of_methodNamed B.named
  have hlocks := B.notSynchronized
  refine wstart (rm := rm_X3_textNumber) hav (Nat.le_of_ble_eq_true rfl) (fun QQ ls hQQ hl => ?_)
  have hl : lv_has ls 1 [(0, .int x0)] := hl
  have h := hf
  unfold f_X3_textNumber at h
  refine lv_iload_n hx hb dX3_textNumber_0 rfl (lv_at hl 0 rfl) ?_
  refine lv_bipush (v := 26) hx hb dX3_textNumber_1 (by decide) ?_
  refine lv_irem hx hb dX3_textNumber_3 (by decide) ?_
  refine lv_bipush (v := 26) hx hb dX3_textNumber_4 (by decide) ?_
  refine lv_iload_n hx hb dX3_textNumber_6 rfl (lv_at hl 0 rfl) ?_
  refine lv_bipush (v := 26) hx hb dX3_textNumber_7 (by decide) ?_
  refine lv_idiv hx hb dX3_textNumber_9 (by decide) ?_
  refine lv_iconst (v := 3) hx hb dX3_textNumber_10 (by decide) ?_
  refine lv_irem hx hb dX3_textNumber_11 (by decide) ?_
  refine lv_imul hx hb dX3_textNumber_12 ?_
  refine lv_iadd hx hb dX3_textNumber_13 ?_
  refine lv_i2l (v := ((x0 - x0 / (26 : Int32) * (26 : Int32)) + ((26 : Int32) * ((x0 / (26 : Int32)) - (x0 / (26 : Int32)) / (3 : Int32) * (3 : Int32)))).toInt64) hx hb dX3_textNumber_14 rfl ?_
  rw [hQQ]
  exact W.lret hx hb hr (fun t ht hW => ⟨_, rfl, (Option.some.inj h).symm, ht⟩) (fun q hq => absurd hq List.not_mem_nil) dX3_textNumber_15
def f_X3_told (x0 : Int32) (x1 : Int32) : Option Int64 :=
  ((f_X3_toldKind x0).bind (fun o_1604 => (if o_1604 = 0 then (some (x1 &&& (1 : Int32)).toInt64) else (if o_1604 = 1 then (some (to_b x1).toInt64) else (if o_1604 = 2 then (some (to_c x1).toInt64) else (if o_1604 = 3 then (some (to_s x1).toInt64) else (if o_1604 = 4 then (some (x1).toInt64) else (if o_1604 = 5 then (some ((x1).toInt64 * (1000003 : Int64))) else (if o_1604 = 6 then ((f_X1_nearestFloat (x1).toInt64 (2 : Int32)).bind (fun o_1613 => (some o_1613))) else (if o_1604 = 7 then ((f_X1_nearestDouble (x1).toInt64 (3 : Int32)).bind (fun o_1616 => (some o_1616))) else (if o_1604 = 8 then (some (x1).toInt64) else (if o_1604 = 9 then ((f_X3_textNumber (x1 &&& (2147483647 : Int32))).bind (fun o_1620 => (some o_1620))) else (if o_1604 = 10 then (some (x1).toInt64) else (if o_1604 = 11 then (some (x1).toInt64) else (if o_1604 = 12 then (some (x1).toInt64) else (if o_1604 = 13 then (some (x1).toInt64) else (if o_1604 = 14 then (some (-9223372036854775808 : Int64)) else (some (x1).toInt64))))))))))))))))))
abbrev rm_X3_told : Room := { frames := 4, cells := 0, slots := 0, locals := 101 }
set_option maxHeartbeats 4000000 in
set_option maxRecDepth 100000 in
theorem c_X3_told (l : Launch) (dC : Nat → ClassId) (dI : Nat → Nat → Nat) (cB cC cI cJ cZ cT : ClassId) (x0 : Int32) (x1 : Int32) (o : Int64) (hf : f_X3_told x0 x1 = some o) : Met l yX3_told wsX3_told rm_X3_told (va_Pc [.int x0, .int x1] (fun _ => True)) (vp_Sl (fun r => o = r)) 0 0 (fun _ => False) := by
  refine Met.ofW (cc := cX3_told) (maxL := 2) (ret := (some .long)) (by decide) rfl ?_
  intro p e s m args below meth c s₁ B hml hv
  obtain ⟨hav, -⟩ := hv
  have hx := B.exec
  have hb := B.bytes
  have hr := B.returns
  have hts := atoms_spec (ws := wsX3_told) B.pre
  have hown : s.vm.findClass RX3 = some m.cls := findClass_of_methodNamed B.named
  have hlocks := B.notSynchronized
  refine wstart (rm := rm_X3_told) hav (Nat.le_of_ble_eq_true rfl) (fun QQ ls hQQ hl => ?_)
  have hl : lv_has ls 2 [(0, .int x0), (1, .int x1)] := hl
  have h := hf
  unfold f_X3_told at h
  refine lv_iload_n hx hb dX3_told_0 rfl (lv_at hl 0 rfl) ?_
  obtain ⟨o_1604, hr_1604, h⟩ := ob h
  refine vp_callSi (va_Run.run (va_runS (As := [.int x0]) (rest := []) ⟨hx, hb, hml, hown, hts⟩ (c_X3_toldKind l dC dI cB cC cI cJ cZ cT x0 o_1604 hr_1604) (va_cwS 1 hts gX3_told_X3_toldKind rfl rfl rfl (by decide +kernel) ⟨Nat.le_of_ble_eq_true rfl, Nat.le_of_ble_eq_true rfl⟩) ⟨blT, fun U hU hW => ⟨rfl, trivial⟩⟩ rfl rfl hl.1 rfl (lv_room (Nat.le_of_ble_eq_true rfl)) dX3_told_1 ⟨Nat.le_of_ble_eq_true rfl, Nat.le_of_ble_eq_true rfl⟩)) (fun r_1604 e_1604 => ?_)
  subst e_1604
  by_cases c_1606 : o_1604 = 0
  · replace h := op c_1606 h
    refine lv_tableIn (off := 76) (tgt := 80) hx hb dX3_told_4 (by rw [c_1606]; decide) (by rw [c_1606]; decide) (by rw [c_1606]; rfl) (by decide) ?_
    refine lv_iload_n hx hb dX3_told_80 rfl (lv_at hl 1 rfl) ?_
    refine lv_iconst (v := 1) hx hb dX3_told_81 (by decide) ?_
    refine lv_iand hx hb dX3_told_82 ?_
    refine lv_i2l (v := (x1 &&& (1 : Int32)).toInt64) hx hb dX3_told_83 rfl ?_
    rw [hQQ]
    exact W.lret hx hb hr (fun t ht hW => ⟨_, rfl, (Option.some.inj h).symm, ht⟩) (fun q hq => absurd hq List.not_mem_nil) dX3_told_84
  replace h := on c_1606 h
  by_cases c_1607 : o_1604 = 1
  · replace h := op c_1607 h
    refine lv_tableIn (off := 81) (tgt := 85) hx hb dX3_told_4 (by rw [c_1607]; decide) (by rw [c_1607]; decide) (by rw [c_1607]; rfl) (by decide) ?_
    refine lv_iload_n hx hb dX3_told_85 rfl (lv_at hl 1 rfl) ?_
    refine lv_i2b (v := (to_b x1)) hx hb dX3_told_86 rfl ?_
    refine lv_i2l (v := (to_b x1).toInt64) hx hb dX3_told_87 rfl ?_
    rw [hQQ]
    exact W.lret hx hb hr (fun t ht hW => ⟨_, rfl, (Option.some.inj h).symm, ht⟩) (fun q hq => absurd hq List.not_mem_nil) dX3_told_88
  replace h := on c_1607 h
  by_cases c_1608 : o_1604 = 2
  · replace h := op c_1608 h
    refine lv_tableIn (off := 85) (tgt := 89) hx hb dX3_told_4 (by rw [c_1608]; decide) (by rw [c_1608]; decide) (by rw [c_1608]; rfl) (by decide) ?_
    refine lv_iload_n hx hb dX3_told_89 rfl (lv_at hl 1 rfl) ?_
    refine lv_i2c (v := (to_c x1)) hx hb dX3_told_90 rfl ?_
    refine lv_i2l (v := (to_c x1).toInt64) hx hb dX3_told_91 rfl ?_
    rw [hQQ]
    exact W.lret hx hb hr (fun t ht hW => ⟨_, rfl, (Option.some.inj h).symm, ht⟩) (fun q hq => absurd hq List.not_mem_nil) dX3_told_92
  replace h := on c_1608 h
  by_cases c_1609 : o_1604 = 3
  · replace h := op c_1609 h
    refine lv_tableIn (off := 89) (tgt := 93) hx hb dX3_told_4 (by rw [c_1609]; decide) (by rw [c_1609]; decide) (by rw [c_1609]; rfl) (by decide) ?_
    refine lv_iload_n hx hb dX3_told_93 rfl (lv_at hl 1 rfl) ?_
    refine lv_i2s (v := (to_s x1)) hx hb dX3_told_94 rfl ?_
    refine lv_i2l (v := (to_s x1).toInt64) hx hb dX3_told_95 rfl ?_
    rw [hQQ]
    exact W.lret hx hb hr (fun t ht hW => ⟨_, rfl, (Option.some.inj h).symm, ht⟩) (fun q hq => absurd hq List.not_mem_nil) dX3_told_96
  replace h := on c_1609 h
  by_cases c_1610 : o_1604 = 4
  · replace h := op c_1610 h
    refine lv_tableIn (off := 126) (tgt := 130) hx hb dX3_told_4 (by rw [c_1610]; decide) (by rw [c_1610]; decide) (by rw [c_1610]; rfl) (by decide) ?_
    refine lv_iload_n hx hb dX3_told_130 rfl (lv_at hl 1 rfl) ?_
    refine lv_i2l (v := (x1).toInt64) hx hb dX3_told_131 rfl ?_
    rw [hQQ]
    exact W.lret hx hb hr (fun t ht hW => ⟨_, rfl, (Option.some.inj h).symm, ht⟩) (fun q hq => absurd hq List.not_mem_nil) dX3_told_132
  replace h := on c_1610 h
  by_cases c_1611 : o_1604 = 5
  · replace h := op c_1611 h
    refine lv_tableIn (off := 93) (tgt := 97) hx hb dX3_told_4 (by rw [c_1611]; decide) (by rw [c_1611]; decide) (by rw [c_1611]; rfl) (by decide) ?_
    refine lv_iload_n hx hb dX3_told_97 rfl (lv_at hl 1 rfl) ?_
    refine lv_i2l (v := (x1).toInt64) hx hb dX3_told_98 rfl ?_
    refine lv_ldc2 (v := 1000003) hx hb hown (hts _ (List.mem_of_getElem? (i := 1) rfl)) dX3_told_99 ?_
    refine lv_lmul hx hb dX3_told_102 ?_
    rw [hQQ]
    exact W.lret hx hb hr (fun t ht hW => ⟨_, rfl, (Option.some.inj h).symm, ht⟩) (fun q hq => absurd hq List.not_mem_nil) dX3_told_103
  replace h := on c_1611 h
  by_cases c_1612 : o_1604 = 6
  · replace h := op c_1612 h
    refine lv_tableIn (off := 100) (tgt := 104) hx hb dX3_told_4 (by rw [c_1612]; decide) (by rw [c_1612]; decide) (by rw [c_1612]; rfl) (by decide) ?_
    refine lv_iload_n hx hb dX3_told_104 rfl (lv_at hl 1 rfl) ?_
    refine lv_i2l (v := (x1).toInt64) hx hb dX3_told_105 rfl ?_
    refine lv_iconst (v := 2) hx hb dX3_told_106 (by decide) ?_
    obtain ⟨o_1613, hr_1613, h⟩ := ob h
    refine vp_callSl (va_Run.run (va_runS (As := [.long (x1).toInt64, .int (2 : Int32)]) (rest := []) ⟨hx, hb, hml, hown, hts⟩ (c_X1_nearestFloat l dC dI cB cC cI cJ cZ cT (x1).toInt64 (2 : Int32) o_1613 hr_1613) (va_cwS 2 hts gX3_told_X1_nearestFloat rfl rfl rfl (by decide +kernel) ⟨Nat.le_of_ble_eq_true rfl, Nat.le_of_ble_eq_true rfl⟩) ⟨blT, fun U hU hW => ⟨rfl, trivial⟩⟩ rfl rfl hl.1 rfl (lv_room (Nat.le_of_ble_eq_true rfl)) dX3_told_107 ⟨Nat.le_of_ble_eq_true rfl, Nat.le_of_ble_eq_true rfl⟩)) (fun r_1613 e_1613 => ?_)
    subst e_1613
    rw [hQQ]
    exact W.lret hx hb hr (fun t ht hW => ⟨_, rfl, (Option.some.inj h).symm, ht⟩) (fun q hq => absurd hq List.not_mem_nil) dX3_told_110
  replace h := on c_1612 h
  by_cases c_1615 : o_1604 = 7
  · replace h := op c_1615 h
    refine lv_tableIn (off := 107) (tgt := 111) hx hb dX3_told_4 (by rw [c_1615]; decide) (by rw [c_1615]; decide) (by rw [c_1615]; rfl) (by decide) ?_
    refine lv_iload_n hx hb dX3_told_111 rfl (lv_at hl 1 rfl) ?_
    refine lv_i2l (v := (x1).toInt64) hx hb dX3_told_112 rfl ?_
    refine lv_iconst (v := 3) hx hb dX3_told_113 (by decide) ?_
    obtain ⟨o_1616, hr_1616, h⟩ := ob h
    refine vp_callSl (va_Run.run (va_runS (As := [.long (x1).toInt64, .int (3 : Int32)]) (rest := []) ⟨hx, hb, hml, hown, hts⟩ (c_X1_nearestDouble l dC dI cB cC cI cJ cZ cT (x1).toInt64 (3 : Int32) o_1616 hr_1616) (va_cwS 2 hts gX3_told_X1_nearestDouble rfl rfl rfl (by decide +kernel) ⟨Nat.le_of_ble_eq_true rfl, Nat.le_of_ble_eq_true rfl⟩) ⟨blT, fun U hU hW => ⟨rfl, trivial⟩⟩ rfl rfl hl.1 rfl (lv_room (Nat.le_of_ble_eq_true rfl)) dX3_told_114 ⟨Nat.le_of_ble_eq_true rfl, Nat.le_of_ble_eq_true rfl⟩)) (fun r_1616 e_1616 => ?_)
    subst e_1616
    rw [hQQ]
    exact W.lret hx hb hr (fun t ht hW => ⟨_, rfl, (Option.some.inj h).symm, ht⟩) (fun q hq => absurd hq List.not_mem_nil) dX3_told_117
  replace h := on c_1615 h
  by_cases c_1618 : o_1604 = 8
  · replace h := op c_1618 h
    refine lv_tableIn (off := 126) (tgt := 130) hx hb dX3_told_4 (by rw [c_1618]; decide) (by rw [c_1618]; decide) (by rw [c_1618]; rfl) (by decide) ?_
    refine lv_iload_n hx hb dX3_told_130 rfl (lv_at hl 1 rfl) ?_
    refine lv_i2l (v := (x1).toInt64) hx hb dX3_told_131 rfl ?_
    rw [hQQ]
    exact W.lret hx hb hr (fun t ht hW => ⟨_, rfl, (Option.some.inj h).symm, ht⟩) (fun q hq => absurd hq List.not_mem_nil) dX3_told_132
  replace h := on c_1618 h
  by_cases c_1619 : o_1604 = 9
  · replace h := op c_1619 h
    refine lv_tableIn (off := 114) (tgt := 118) hx hb dX3_told_4 (by rw [c_1619]; decide) (by rw [c_1619]; decide) (by rw [c_1619]; rfl) (by decide) ?_
    refine lv_iload_n hx hb dX3_told_118 rfl (lv_at hl 1 rfl) ?_
    refine lv_ldc (v := 2147483647) hx hb hown (hts _ (List.mem_of_getElem? (i := 2) rfl)) dX3_told_119 ?_
    refine lv_iand hx hb dX3_told_121 ?_
    obtain ⟨o_1620, hr_1620, h⟩ := ob h
    refine vp_callSl (va_Run.run (va_runS (As := [.int (x1 &&& (2147483647 : Int32))]) (rest := []) ⟨hx, hb, hml, hown, hts⟩ (c_X3_textNumber l dC dI cB cC cI cJ cZ cT (x1 &&& (2147483647 : Int32)) o_1620 hr_1620) (va_cwS 1 hts gX3_told_X3_textNumber rfl rfl rfl (by decide +kernel) ⟨Nat.le_of_ble_eq_true rfl, Nat.le_of_ble_eq_true rfl⟩) ⟨blT, fun U hU hW => ⟨rfl, trivial⟩⟩ rfl rfl hl.1 rfl (lv_room (Nat.le_of_ble_eq_true rfl)) dX3_told_122 ⟨Nat.le_of_ble_eq_true rfl, Nat.le_of_ble_eq_true rfl⟩)) (fun r_1620 e_1620 => ?_)
    subst e_1620
    rw [hQQ]
    exact W.lret hx hb hr (fun t ht hW => ⟨_, rfl, (Option.some.inj h).symm, ht⟩) (fun q hq => absurd hq List.not_mem_nil) dX3_told_125
  replace h := on c_1619 h
  by_cases c_1622 : o_1604 = 10
  · replace h := op c_1622 h
    refine lv_tableIn (off := 126) (tgt := 130) hx hb dX3_told_4 (by rw [c_1622]; decide) (by rw [c_1622]; decide) (by rw [c_1622]; rfl) (by decide) ?_
    refine lv_iload_n hx hb dX3_told_130 rfl (lv_at hl 1 rfl) ?_
    refine lv_i2l (v := (x1).toInt64) hx hb dX3_told_131 rfl ?_
    rw [hQQ]
    exact W.lret hx hb hr (fun t ht hW => ⟨_, rfl, (Option.some.inj h).symm, ht⟩) (fun q hq => absurd hq List.not_mem_nil) dX3_told_132
  replace h := on c_1622 h
  by_cases c_1623 : o_1604 = 11
  · replace h := op c_1623 h
    refine lv_tableIn (off := 126) (tgt := 130) hx hb dX3_told_4 (by rw [c_1623]; decide) (by rw [c_1623]; decide) (by rw [c_1623]; rfl) (by decide) ?_
    refine lv_iload_n hx hb dX3_told_130 rfl (lv_at hl 1 rfl) ?_
    refine lv_i2l (v := (x1).toInt64) hx hb dX3_told_131 rfl ?_
    rw [hQQ]
    exact W.lret hx hb hr (fun t ht hW => ⟨_, rfl, (Option.some.inj h).symm, ht⟩) (fun q hq => absurd hq List.not_mem_nil) dX3_told_132
  replace h := on c_1623 h
  by_cases c_1624 : o_1604 = 12
  · replace h := op c_1624 h
    refine lv_tableIn (off := 126) (tgt := 130) hx hb dX3_told_4 (by rw [c_1624]; decide) (by rw [c_1624]; decide) (by rw [c_1624]; rfl) (by decide) ?_
    refine lv_iload_n hx hb dX3_told_130 rfl (lv_at hl 1 rfl) ?_
    refine lv_i2l (v := (x1).toInt64) hx hb dX3_told_131 rfl ?_
    rw [hQQ]
    exact W.lret hx hb hr (fun t ht hW => ⟨_, rfl, (Option.some.inj h).symm, ht⟩) (fun q hq => absurd hq List.not_mem_nil) dX3_told_132
  replace h := on c_1624 h
  by_cases c_1625 : o_1604 = 13
  · replace h := op c_1625 h
    refine lv_tableIn (off := 126) (tgt := 130) hx hb dX3_told_4 (by rw [c_1625]; decide) (by rw [c_1625]; decide) (by rw [c_1625]; rfl) (by decide) ?_
    refine lv_iload_n hx hb dX3_told_130 rfl (lv_at hl 1 rfl) ?_
    refine lv_i2l (v := (x1).toInt64) hx hb dX3_told_131 rfl ?_
    rw [hQQ]
    exact W.lret hx hb hr (fun t ht hW => ⟨_, rfl, (Option.some.inj h).symm, ht⟩) (fun q hq => absurd hq List.not_mem_nil) dX3_told_132
  replace h := on c_1625 h
  by_cases c_1626 : o_1604 = 14
  · replace h := op c_1626 h
    refine lv_tableIn (off := 122) (tgt := 126) hx hb dX3_told_4 (by rw [c_1626]; decide) (by rw [c_1626]; decide) (by rw [c_1626]; rfl) (by decide) ?_
    refine lv_ldc2 (v := -9223372036854775808) hx hb hown (hts _ (List.mem_of_getElem? (i := 3) rfl)) dX3_told_126 ?_
    rw [hQQ]
    exact W.lret hx hb hr (fun t ht hW => ⟨_, rfl, (Option.some.inj h).symm, ht⟩) (fun q hq => absurd hq List.not_mem_nil) dX3_told_129
  replace h := on c_1626 h
  have ct_1606 : (o_1604).toInt < 0 ∨ 14 < (o_1604).toInt := by
    have q_1606 := i32_ne c_1606
    have q_1607 := i32_ne c_1607
    have q_1608 := i32_ne c_1608
    have q_1609 := i32_ne c_1609
    have q_1610 := i32_ne c_1610
    have q_1611 := i32_ne c_1611
    have q_1612 := i32_ne c_1612
    have q_1615 := i32_ne c_1615
    have q_1618 := i32_ne c_1618
    have q_1619 := i32_ne c_1619
    have q_1622 := i32_ne c_1622
    have q_1623 := i32_ne c_1623
    have q_1624 := i32_ne c_1624
    have q_1625 := i32_ne c_1625
    have q_1626 := i32_ne c_1626
    have z_1606 : ((0 : Int32)).toInt = 0 ∧ ((1 : Int32)).toInt = 1 ∧ ((2 : Int32)).toInt = 2 ∧ ((3 : Int32)).toInt = 3 ∧ ((4 : Int32)).toInt = 4 ∧ ((5 : Int32)).toInt = 5 ∧ ((6 : Int32)).toInt = 6 ∧ ((7 : Int32)).toInt = 7 ∧ ((8 : Int32)).toInt = 8 ∧ ((9 : Int32)).toInt = 9 ∧ ((10 : Int32)).toInt = 10 ∧ ((11 : Int32)).toInt = 11 ∧ ((12 : Int32)).toInt = 12 ∧ ((13 : Int32)).toInt = 13 ∧ ((14 : Int32)).toInt = 14 := by decide
    omega
  refine lv_tableOut (tgt := 130) hx hb dX3_told_4 ct_1606 (by decide) ?_
  refine lv_iload_n hx hb dX3_told_130 rfl (lv_at hl 1 rfl) ?_
  refine lv_i2l (v := (x1).toInt64) hx hb dX3_told_131 rfl ?_
  rw [hQQ]
  exact W.lret hx hb hr (fun t ht hW => ⟨_, rfl, (Option.some.inj h).symm, ht⟩) (fun q hq => absurd hq List.not_mem_nil) dX3_told_132
def f_X3_fits (x0 : Int32) (x1 : Int32) : Option Bool :=
  (if (7 : Int32) < x1 then (if x0 = (14 : Int32) then (some true) else (if x1 = (8 : Int32) then (if x0 = (4 : Int32) then (some true) else (some false)) else (if x0 = x1 then (some true) else (some false)))) else ((f_X3_widens x0 x1).bind (fun o_1632 => (some o_1632))))
abbrev rm_X3_fits : Room := { frames := 2, cells := 0, slots := 0, locals := 41 }
set_option maxHeartbeats 4000000 in
set_option maxRecDepth 100000 in
theorem c_X3_fits (l : Launch) (dC : Nat → ClassId) (dI : Nat → Nat → Nat) (cB cC cI cJ cZ cT : ClassId) (x0 : Int32) (x1 : Int32) (o : Bool) (hf : f_X3_fits x0 x1 = some o) : Met l yX3_fits wsX3_fits rm_X3_fits (va_Pc [.int x0, .int x1] (fun U => SX (fun _ => False) U U.heap)) (vp_Si (fun r => b2i o = r)) 0 0 (fun _ => False) := by
  refine Met.ofW (cc := cX3_fits) (maxL := 2) (ret := (some .boolean)) (by decide) rfl ?_
  intro p e s m args below meth c s₁ B hml hv
  obtain ⟨hav, hX⟩ := hv
  have hx := B.exec
  have hb := B.bytes
  have hr := B.returns
  have hts := atoms_spec (ws := wsX3_fits) B.pre
  have hown : s.vm.findClass RX3 = some m.cls := findClass_of_methodNamed B.named
  have hlocks := B.notSynchronized
  have hS : va_S (fun _ => False) s.heap s.heap [] := va_S.rf
  refine wstart (rm := rm_X3_fits) hav (Nat.le_of_ble_eq_true rfl) (fun QQ ls hQQ hl => ?_)
  have hl : lv_has ls 2 [(0, .int x0), (1, .int x1)] := hl
  have h := hf
  unfold f_X3_fits at h
  refine lv_iload_n hx hb dX3_fits_0 rfl (lv_at hl 1 rfl) ?_
  refine lv_bipush (v := 7) hx hb dX3_fits_1 (by decide) ?_
  refine lv_icmp_gt (tgt := 12) hx hb dX3_fits_3 (by decide) (fun c_1627 => ?_) (fun c_1627 => ?_)
  · replace h := op c_1627 h
    refine lv_iload_n hx hb dX3_fits_12 rfl (lv_at hl 0 rfl) ?_
    refine lv_bipush (v := 14) hx hb dX3_fits_13 (by decide) ?_
    refine lv_icmp_ne (tgt := 20) hx hb dX3_fits_15 (by decide) (fun c_1628 => ?_) (fun c_1628 => ?_)
    · replace h := on c_1628 h
      refine lv_iload_n hx hb dX3_fits_20 rfl (lv_at hl 1 rfl) ?_
      refine lv_bipush (v := 8) hx hb dX3_fits_21 (by decide) ?_
      refine lv_icmp_ne (tgt := 39) hx hb dX3_fits_23 (by decide) (fun c_1629 => ?_) (fun c_1629 => ?_)
      · replace h := on c_1629 h
        refine lv_iload_n hx hb dX3_fits_39 rfl (lv_at hl 0 rfl) ?_
        refine lv_iload_n hx hb dX3_fits_40 rfl (lv_at hl 1 rfl) ?_
        refine lv_icmp_ne (tgt := 48) hx hb dX3_fits_41 (by decide) (fun c_1630 => ?_) (fun c_1630 => ?_)
        · replace h := on c_1630 h
          refine lv_iconst (v := 0) hx hb dX3_fits_48 (by decide) ?_
          rw [hQQ]
          exact W.zret hx hb hr rfl (fun t ht hW => ⟨_, rfl, (congrArg b2i (Option.some.inj h).symm), ht⟩) (fun q hq => absurd hq List.not_mem_nil) dX3_fits_49
        · replace h := op c_1630 h
          refine lv_iconst (v := 1) hx hb dX3_fits_44 (by decide) ?_
          refine lv_goto (tgt := 49) hx hb dX3_fits_45 (by decide) ?_
          rw [hQQ]
          exact W.zret hx hb hr rfl (fun t ht hW => ⟨_, rfl, (congrArg b2i (Option.some.inj h).symm), ht⟩) (fun q hq => absurd hq List.not_mem_nil) dX3_fits_49
      · replace h := op c_1629 h
        refine lv_iload_n hx hb dX3_fits_26 rfl (lv_at hl 0 rfl) ?_
        refine lv_iconst (v := 4) hx hb dX3_fits_27 (by decide) ?_
        refine lv_icmp_ne (tgt := 35) hx hb dX3_fits_28 (by decide) (fun c_1631 => ?_) (fun c_1631 => ?_)
        · replace h := on c_1631 h
          refine lv_iconst (v := 0) hx hb dX3_fits_35 (by decide) ?_
          refine lv_goto (tgt := 49) hx hb dX3_fits_36 (by decide) ?_
          rw [hQQ]
          exact W.zret hx hb hr rfl (fun t ht hW => ⟨_, rfl, (congrArg b2i (Option.some.inj h).symm), ht⟩) (fun q hq => absurd hq List.not_mem_nil) dX3_fits_49
        · replace h := op c_1631 h
          refine lv_iconst (v := 1) hx hb dX3_fits_31 (by decide) ?_
          refine lv_goto (tgt := 49) hx hb dX3_fits_32 (by decide) ?_
          rw [hQQ]
          exact W.zret hx hb hr rfl (fun t ht hW => ⟨_, rfl, (congrArg b2i (Option.some.inj h).symm), ht⟩) (fun q hq => absurd hq List.not_mem_nil) dX3_fits_49
    · replace h := op c_1628 h
      refine lv_iconst (v := 1) hx hb dX3_fits_18 (by decide) ?_
      rw [hQQ]
      exact W.zret hx hb hr rfl (fun t ht hW => ⟨_, rfl, (congrArg b2i (Option.some.inj h).symm), ht⟩) (fun q hq => absurd hq List.not_mem_nil) dX3_fits_19
  · replace h := on c_1627 h
    refine lv_iload_n hx hb dX3_fits_6 rfl (lv_at hl 0 rfl) ?_
    refine lv_iload_n hx hb dX3_fits_7 rfl (lv_at hl 1 rfl) ?_
    obtain ⟨o_1632, hr_1632, h⟩ := ob h
    refine vp_callSi (va_Run.run (va_runS (As := [.int x0, .int x1]) (rest := []) ⟨hx, hb, hml, hown, hts⟩ (c_X3_widens l dC dI cB cC cI cJ cZ cT x0 x1 o_1632 hr_1632) (va_cwS 2 hts gX3_fits_X3_widens rfl rfl rfl (by decide +kernel) ⟨Nat.le_of_ble_eq_true rfl, Nat.le_of_ble_eq_true rfl⟩) ⟨blTX, fun U hU hW => ⟨rfl, by rw [hU]; exact SX.use hW.alike hS hX⟩⟩ rfl rfl hl.1 rfl (lv_room (Nat.le_of_ble_eq_true rfl)) dX3_fits_8 ⟨Nat.le_of_ble_eq_true rfl, Nat.le_of_ble_eq_true rfl⟩)) (fun r_1632 e_1632 => ?_)
    subst e_1632
    rw [hQQ]
    exact W.zret hx hb hr (nzb _) (fun t ht hW => ⟨_, rfl, (congrArg b2i (Option.some.inj h).symm), ht⟩) (fun q hq => absurd hq List.not_mem_nil) dX3_fits_11
def f_X3_ownWay (x0 : Int32) (x1 : Int64) : Option Int32 :=
  (if (7 : Int32) < x0 then (if (lg_cmp x1 (-9223372036854775808 : Int64)) = 0 then (some (21 : Int32)) else (if x0 = (8 : Int32) then (some (14 : Int32)) else (if x0 = (9 : Int32) then (some (19 : Int32)) else (some (20 : Int32))))) else (some ((10 : Int32) + x0)))
abbrev rm_X3_ownWay : Room := { frames := 0, cells := 0, slots := 0, locals := 0 }
set_option maxHeartbeats 4000000 in
set_option maxRecDepth 100000 in
theorem c_X3_ownWay (l : Launch) (dC : Nat → ClassId) (dI : Nat → Nat → Nat) (cB cC cI cJ cZ cT : ClassId) (x0 : Int32) (x1 : Int64) (o : Int32) (hf : f_X3_ownWay x0 x1 = some o) : Met l yX3_ownWay wsX3_ownWay rm_X3_ownWay (va_Pc [.int x0, .long x1] (fun _ => True)) (vp_Si (fun r => o = r)) 0 0 (fun _ => False) := by
  refine Met.ofW (cc := cX3_ownWay) (maxL := 3) (ret := (some .int)) (by decide) rfl ?_
  intro p e s m args below meth c s₁ B hml hv
  obtain ⟨hav, -⟩ := hv
  have hx := B.exec
  have hb := B.bytes
  have hr := B.returns
  have hts := atoms_spec (ws := wsX3_ownWay) B.pre
  have hown : s.vm.findClass RX3 = some m.cls := findClass_of_methodNamed B.named
  have hlocks := B.notSynchronized
  refine wstart (rm := rm_X3_ownWay) hav (Nat.le_of_ble_eq_true rfl) (fun QQ ls hQQ hl => ?_)
  have hl : lv_has ls 3 [(0, .int x0), (1, .long x1)] := hl
  have h := hf
  unfold f_X3_ownWay at h
  refine lv_iload_n hx hb dX3_ownWay_0 rfl (lv_at hl 0 rfl) ?_
  refine lv_bipush (v := 7) hx hb dX3_ownWay_1 (by decide) ?_
  refine lv_icmp_gt (tgt := 11) hx hb dX3_ownWay_3 (by decide) (fun c_1634 => ?_) (fun c_1634 => ?_)
  · replace h := op c_1634 h
    refine lv_lload_n hx hb dX3_ownWay_11 rfl (lv_at hl 1 rfl) ?_
    refine lv_ldc2 (v := -9223372036854775808) hx hb hown (hts _ (List.mem_of_getElem? (i := 1) rfl)) dX3_ownWay_12 ?_
    refine W.lcmp hx hb dX3_ownWay_15 ?_
    refine lv_if_ne (tgt := 22) hx hb dX3_ownWay_16 (by decide) (fun c_1635 => ?_) (fun c_1635 => ?_)
    · replace h := on c_1635 h
      refine lv_iload_n hx hb dX3_ownWay_22 rfl (lv_at hl 0 rfl) ?_
      refine lv_bipush (v := 8) hx hb dX3_ownWay_23 (by decide) ?_
      refine lv_icmp_ne (tgt := 33) hx hb dX3_ownWay_25 (by decide) (fun c_1636 => ?_) (fun c_1636 => ?_)
      · replace h := on c_1636 h
        refine lv_iload_n hx hb dX3_ownWay_33 rfl (lv_at hl 0 rfl) ?_
        refine lv_bipush (v := 9) hx hb dX3_ownWay_34 (by decide) ?_
        refine lv_icmp_ne (tgt := 44) hx hb dX3_ownWay_36 (by decide) (fun c_1637 => ?_) (fun c_1637 => ?_)
        · replace h := on c_1637 h
          refine lv_bipush (v := 20) hx hb dX3_ownWay_44 (by decide) ?_
          rw [hQQ]
          exact W.iret hx hb hr (fun t ht hW => ⟨_, rfl, (Option.some.inj h).symm, ht⟩) (fun q hq => absurd hq List.not_mem_nil) dX3_ownWay_46
        · replace h := op c_1637 h
          refine lv_bipush (v := 19) hx hb dX3_ownWay_39 (by decide) ?_
          refine lv_goto (tgt := 46) hx hb dX3_ownWay_41 (by decide) ?_
          rw [hQQ]
          exact W.iret hx hb hr (fun t ht hW => ⟨_, rfl, (Option.some.inj h).symm, ht⟩) (fun q hq => absurd hq List.not_mem_nil) dX3_ownWay_46
      · replace h := op c_1636 h
        refine lv_bipush (v := 14) hx hb dX3_ownWay_28 (by decide) ?_
        refine lv_goto (tgt := 46) hx hb dX3_ownWay_30 (by decide) ?_
        rw [hQQ]
        exact W.iret hx hb hr (fun t ht hW => ⟨_, rfl, (Option.some.inj h).symm, ht⟩) (fun q hq => absurd hq List.not_mem_nil) dX3_ownWay_46
    · replace h := op c_1635 h
      refine lv_bipush (v := 21) hx hb dX3_ownWay_19 (by decide) ?_
      rw [hQQ]
      exact W.iret hx hb hr (fun t ht hW => ⟨_, rfl, (Option.some.inj h).symm, ht⟩) (fun q hq => absurd hq List.not_mem_nil) dX3_ownWay_21
  · replace h := on c_1634 h
    refine lv_bipush (v := 10) hx hb dX3_ownWay_6 (by decide) ?_
    refine lv_iload_n hx hb dX3_ownWay_8 rfl (lv_at hl 0 rfl) ?_
    refine lv_iadd hx hb dX3_ownWay_9 ?_
    rw [hQQ]
    exact W.iret hx hb hr (fun t ht hW => ⟨_, rfl, (Option.some.inj h).symm, ht⟩) (fun q hq => absurd hq List.not_mem_nil) dX3_ownWay_10
def f_X3_widened (x0 : Int32) (x1 : Int32) (x2 : Int64) : Option Int64 :=
  (if x0 = x1 then (some x2) else (if x1 = (6 : Int32) then (if x0 = (6 : Int32) then ((f_X1_doubleOfFloat x2).bind (fun o_1646 => (some o_1646))) else (if x1 = (6 : Int32) then ((f_X1_nearestFloat x2 (0 : Int32)).bind (fun o_1644 => (some o_1644))) else ((f_X1_nearestDouble x2 (0 : Int32)).bind (fun o_1642 => (some o_1642))))) else (if x1 = (7 : Int32) then (if x0 = (6 : Int32) then ((f_X1_doubleOfFloat x2).bind (fun o_1655 => (some o_1655))) else (if x1 = (6 : Int32) then ((f_X1_nearestFloat x2 (0 : Int32)).bind (fun o_1653 => (some o_1653))) else ((f_X1_nearestDouble x2 (0 : Int32)).bind (fun o_1651 => (some o_1651))))) else (some x2))))
abbrev rm_X3_widened : Room := { frames := 4, cells := 0, slots := 0, locals := 101 }
set_option maxHeartbeats 4000000 in
set_option maxRecDepth 100000 in
theorem c_X3_widened (l : Launch) (dC : Nat → ClassId) (dI : Nat → Nat → Nat) (cB cC cI cJ cZ cT : ClassId) (x0 : Int32) (x1 : Int32) (x2 : Int64) (o : Int64) (hf : f_X3_widened x0 x1 x2 = some o) : Met l yX3_widened wsX3_widened rm_X3_widened (va_Pc [.int x0, .int x1, .long x2] (fun _ => True)) (vp_Sl (fun r => o = r)) 0 0 (fun _ => False) := by
  refine Met.ofW (cc := cX3_widened) (maxL := 4) (ret := (some .long)) (by decide) rfl ?_
  intro p e s m args below meth c s₁ B hml hv
  obtain ⟨hav, -⟩ := hv
  have hx := B.exec
  have hb := B.bytes
  have hr := B.returns
  have hts := atoms_spec (ws := wsX3_widened) B.pre
  have hown : s.vm.findClass RX3 = some m.cls := findClass_of_methodNamed B.named
  have hlocks := B.notSynchronized
  refine wstart (rm := rm_X3_widened) hav (Nat.le_of_ble_eq_true rfl) (fun QQ ls hQQ hl => ?_)
  have hl : lv_has ls 4 [(0, .int x0), (1, .int x1), (2, .long x2)] := hl
  have h := hf
  unfold f_X3_widened at h
  refine lv_iload_n hx hb dX3_widened_0 rfl (lv_at hl 0 rfl) ?_
  refine lv_iload_n hx hb dX3_widened_1 rfl (lv_at hl 1 rfl) ?_
  refine lv_icmp_eq (tgt := 17) hx hb dX3_widened_2 (by decide) (fun c_1638 => ?_) (fun c_1638 => ?_)
  · replace h := op c_1638 h
    refine lv_lload_n hx hb dX3_widened_17 rfl (lv_at hl 2 rfl) ?_
    rw [hQQ]
    exact W.lret hx hb hr (fun t ht hW => ⟨_, rfl, (Option.some.inj h).symm, ht⟩) (fun q hq => absurd hq List.not_mem_nil) dX3_widened_18
  · replace h := on c_1638 h
    refine lv_iload_n hx hb dX3_widened_5 rfl (lv_at hl 1 rfl) ?_
    refine lv_bipush (v := 6) hx hb dX3_widened_6 (by decide) ?_
    refine lv_icmp_eq (tgt := 19) hx hb dX3_widened_8 (by decide) (fun c_1639 => ?_) (fun c_1639 => ?_)
    · replace h := op c_1639 h
      refine lv_iload_n hx hb dX3_widened_19 rfl (lv_at hl 0 rfl) ?_
      refine lv_bipush (v := 6) hx hb dX3_widened_20 (by decide) ?_
      refine lv_icmp_ne (tgt := 30) hx hb dX3_widened_22 (by decide) (fun c_1640 => ?_) (fun c_1640 => ?_)
      · replace h := on c_1640 h
        refine lv_iload_n hx hb dX3_widened_30 rfl (lv_at hl 1 rfl) ?_
        refine lv_bipush (v := 6) hx hb dX3_widened_31 (by decide) ?_
        refine lv_icmp_ne (tgt := 44) hx hb dX3_widened_33 (by decide) (fun c_1641 => ?_) (fun c_1641 => ?_)
        · replace h := on c_1641 h
          refine lv_lload_n hx hb dX3_widened_44 rfl (lv_at hl 2 rfl) ?_
          refine lv_iconst (v := 0) hx hb dX3_widened_45 (by decide) ?_
          obtain ⟨o_1642, hr_1642, h⟩ := ob h
          refine vp_callSl (va_Run.run (va_runS (As := [.long x2, .int (0 : Int32)]) (rest := []) ⟨hx, hb, hml, hown, hts⟩ (c_X1_nearestDouble l dC dI cB cC cI cJ cZ cT x2 (0 : Int32) o_1642 hr_1642) (va_cwS 2 hts gX3_widened_X1_nearestDouble rfl rfl rfl (by decide +kernel) ⟨Nat.le_of_ble_eq_true rfl, Nat.le_of_ble_eq_true rfl⟩) ⟨blT, fun U hU hW => ⟨rfl, trivial⟩⟩ rfl rfl hl.1 rfl (lv_room (Nat.le_of_ble_eq_true rfl)) dX3_widened_46 ⟨Nat.le_of_ble_eq_true rfl, Nat.le_of_ble_eq_true rfl⟩)) (fun r_1642 e_1642 => ?_)
          subst e_1642
          rw [hQQ]
          exact W.lret hx hb hr (fun t ht hW => ⟨_, rfl, (Option.some.inj h).symm, ht⟩) (fun q hq => absurd hq List.not_mem_nil) dX3_widened_49
        · replace h := op c_1641 h
          refine lv_lload_n hx hb dX3_widened_36 rfl (lv_at hl 2 rfl) ?_
          refine lv_iconst (v := 0) hx hb dX3_widened_37 (by decide) ?_
          obtain ⟨o_1644, hr_1644, h⟩ := ob h
          refine vp_callSl (va_Run.run (va_runS (As := [.long x2, .int (0 : Int32)]) (rest := []) ⟨hx, hb, hml, hown, hts⟩ (c_X1_nearestFloat l dC dI cB cC cI cJ cZ cT x2 (0 : Int32) o_1644 hr_1644) (va_cwS 2 hts gX3_widened_X1_nearestFloat rfl rfl rfl (by decide +kernel) ⟨Nat.le_of_ble_eq_true rfl, Nat.le_of_ble_eq_true rfl⟩) ⟨blT, fun U hU hW => ⟨rfl, trivial⟩⟩ rfl rfl hl.1 rfl (lv_room (Nat.le_of_ble_eq_true rfl)) dX3_widened_38 ⟨Nat.le_of_ble_eq_true rfl, Nat.le_of_ble_eq_true rfl⟩)) (fun r_1644 e_1644 => ?_)
          subst e_1644
          refine lv_goto (tgt := 49) hx hb dX3_widened_41 (by decide) ?_
          rw [hQQ]
          exact W.lret hx hb hr (fun t ht hW => ⟨_, rfl, (Option.some.inj h).symm, ht⟩) (fun q hq => absurd hq List.not_mem_nil) dX3_widened_49
      · replace h := op c_1640 h
        refine lv_lload_n hx hb dX3_widened_25 rfl (lv_at hl 2 rfl) ?_
        obtain ⟨o_1646, hr_1646, h⟩ := ob h
        refine vp_callSl (va_Run.run (va_runS (As := [.long x2]) (rest := []) ⟨hx, hb, hml, hown, hts⟩ (c_X1_doubleOfFloat l dC dI cB cC cI cJ cZ cT x2 o_1646 hr_1646) (va_cwS 1 hts gX3_widened_X1_doubleOfFloat rfl rfl rfl (by decide +kernel) ⟨Nat.le_of_ble_eq_true rfl, Nat.le_of_ble_eq_true rfl⟩) ⟨blT, fun U hU hW => ⟨rfl, trivial⟩⟩ rfl rfl hl.1 rfl (lv_room (Nat.le_of_ble_eq_true rfl)) dX3_widened_26 ⟨Nat.le_of_ble_eq_true rfl, Nat.le_of_ble_eq_true rfl⟩)) (fun r_1646 e_1646 => ?_)
        subst e_1646
        rw [hQQ]
        exact W.lret hx hb hr (fun t ht hW => ⟨_, rfl, (Option.some.inj h).symm, ht⟩) (fun q hq => absurd hq List.not_mem_nil) dX3_widened_29
    · replace h := on c_1639 h
      refine lv_iload_n hx hb dX3_widened_11 rfl (lv_at hl 1 rfl) ?_
      refine lv_bipush (v := 7) hx hb dX3_widened_12 (by decide) ?_
      refine lv_icmp_eq (tgt := 19) hx hb dX3_widened_14 (by decide) (fun c_1648 => ?_) (fun c_1648 => ?_)
      · replace h := op c_1648 h
        refine lv_iload_n hx hb dX3_widened_19 rfl (lv_at hl 0 rfl) ?_
        refine lv_bipush (v := 6) hx hb dX3_widened_20 (by decide) ?_
        refine lv_icmp_ne (tgt := 30) hx hb dX3_widened_22 (by decide) (fun c_1649 => ?_) (fun c_1649 => ?_)
        · replace h := on c_1649 h
          refine lv_iload_n hx hb dX3_widened_30 rfl (lv_at hl 1 rfl) ?_
          refine lv_bipush (v := 6) hx hb dX3_widened_31 (by decide) ?_
          refine lv_icmp_ne (tgt := 44) hx hb dX3_widened_33 (by decide) (fun c_1650 => ?_) (fun c_1650 => ?_)
          · replace h := on c_1650 h
            refine lv_lload_n hx hb dX3_widened_44 rfl (lv_at hl 2 rfl) ?_
            refine lv_iconst (v := 0) hx hb dX3_widened_45 (by decide) ?_
            obtain ⟨o_1651, hr_1651, h⟩ := ob h
            refine vp_callSl (va_Run.run (va_runS (As := [.long x2, .int (0 : Int32)]) (rest := []) ⟨hx, hb, hml, hown, hts⟩ (c_X1_nearestDouble l dC dI cB cC cI cJ cZ cT x2 (0 : Int32) o_1651 hr_1651) (va_cwS 2 hts gX3_widened_X1_nearestDouble rfl rfl rfl (by decide +kernel) ⟨Nat.le_of_ble_eq_true rfl, Nat.le_of_ble_eq_true rfl⟩) ⟨blT, fun U hU hW => ⟨rfl, trivial⟩⟩ rfl rfl hl.1 rfl (lv_room (Nat.le_of_ble_eq_true rfl)) dX3_widened_46 ⟨Nat.le_of_ble_eq_true rfl, Nat.le_of_ble_eq_true rfl⟩)) (fun r_1651 e_1651 => ?_)
            subst e_1651
            rw [hQQ]
            exact W.lret hx hb hr (fun t ht hW => ⟨_, rfl, (Option.some.inj h).symm, ht⟩) (fun q hq => absurd hq List.not_mem_nil) dX3_widened_49
          · replace h := op c_1650 h
            refine lv_lload_n hx hb dX3_widened_36 rfl (lv_at hl 2 rfl) ?_
            refine lv_iconst (v := 0) hx hb dX3_widened_37 (by decide) ?_
            obtain ⟨o_1653, hr_1653, h⟩ := ob h
            refine vp_callSl (va_Run.run (va_runS (As := [.long x2, .int (0 : Int32)]) (rest := []) ⟨hx, hb, hml, hown, hts⟩ (c_X1_nearestFloat l dC dI cB cC cI cJ cZ cT x2 (0 : Int32) o_1653 hr_1653) (va_cwS 2 hts gX3_widened_X1_nearestFloat rfl rfl rfl (by decide +kernel) ⟨Nat.le_of_ble_eq_true rfl, Nat.le_of_ble_eq_true rfl⟩) ⟨blT, fun U hU hW => ⟨rfl, trivial⟩⟩ rfl rfl hl.1 rfl (lv_room (Nat.le_of_ble_eq_true rfl)) dX3_widened_38 ⟨Nat.le_of_ble_eq_true rfl, Nat.le_of_ble_eq_true rfl⟩)) (fun r_1653 e_1653 => ?_)
            subst e_1653
            refine lv_goto (tgt := 49) hx hb dX3_widened_41 (by decide) ?_
            rw [hQQ]
            exact W.lret hx hb hr (fun t ht hW => ⟨_, rfl, (Option.some.inj h).symm, ht⟩) (fun q hq => absurd hq List.not_mem_nil) dX3_widened_49
        · replace h := op c_1649 h
          refine lv_lload_n hx hb dX3_widened_25 rfl (lv_at hl 2 rfl) ?_
          obtain ⟨o_1655, hr_1655, h⟩ := ob h
          refine vp_callSl (va_Run.run (va_runS (As := [.long x2]) (rest := []) ⟨hx, hb, hml, hown, hts⟩ (c_X1_doubleOfFloat l dC dI cB cC cI cJ cZ cT x2 o_1655 hr_1655) (va_cwS 1 hts gX3_widened_X1_doubleOfFloat rfl rfl rfl (by decide +kernel) ⟨Nat.le_of_ble_eq_true rfl, Nat.le_of_ble_eq_true rfl⟩) ⟨blT, fun U hU hW => ⟨rfl, trivial⟩⟩ rfl rfl hl.1 rfl (lv_room (Nat.le_of_ble_eq_true rfl)) dX3_widened_26 ⟨Nat.le_of_ble_eq_true rfl, Nat.le_of_ble_eq_true rfl⟩)) (fun r_1655 e_1655 => ?_)
          subst e_1655
          rw [hQQ]
          exact W.lret hx hb hr (fun t ht hW => ⟨_, rfl, (Option.some.inj h).symm, ht⟩) (fun q hq => absurd hq List.not_mem_nil) dX3_widened_29
      · replace h := on c_1648 h
        refine lv_lload_n hx hb dX3_widened_17 rfl (lv_at hl 2 rfl) ?_
        rw [hQQ]
        exact W.lret hx hb hr (fun t ht hW => ⟨_, rfl, (Option.some.inj h).symm, ht⟩) (fun q hq => absurd hq List.not_mem_nil) dX3_widened_18
def f_X3_weight (x0 : Int32) (x1 : Int64) : Option Int64 :=
  ((f_X3_mayBeNothing x0).bind (fun o_1657 => (if (b2i o_1657) = 0 then (if x0 = 6 then (if 0 ≤ (lg_cmp x1 (0 : Int64)) then (some x1) else (some (x1 ^^^ (2147483647 : Int64)))) else (if x0 = 7 then (if 0 ≤ (lg_cmp x1 (0 : Int64)) then (some x1) else (some (x1 ^^^ (9223372036854775807 : Int64)))) else (if x0 = 8 then (some x1) else (if x0 = 9 then (some (((x1 - x1 / (26 : Int64) * (26 : Int64)) * (3 : Int64)) + (x1 / (26 : Int64)))) else (some x1))))) else (if (lg_cmp x1 (-9223372036854775808 : Int64)) = 0 then (some (-9223372036854775808 : Int64)) else (if x0 = 6 then (if 0 ≤ (lg_cmp x1 (0 : Int64)) then (some x1) else (some (x1 ^^^ (2147483647 : Int64)))) else (if x0 = 7 then (if 0 ≤ (lg_cmp x1 (0 : Int64)) then (some x1) else (some (x1 ^^^ (9223372036854775807 : Int64)))) else (if x0 = 8 then (some x1) else (if x0 = 9 then (some (((x1 - x1 / (26 : Int64) * (26 : Int64)) * (3 : Int64)) + (x1 / (26 : Int64)))) else (some x1)))))))))
abbrev rm_X3_weight : Room := { frames := 1, cells := 0, slots := 0, locals := 20 }
set_option maxHeartbeats 4000000 in
set_option maxRecDepth 100000 in
theorem c_X3_weight (l : Launch) (dC : Nat → ClassId) (dI : Nat → Nat → Nat) (cB cC cI cJ cZ cT : ClassId) (x0 : Int32) (x1 : Int64) (o : Int64) (hf : f_X3_weight x0 x1 = some o) : Met l yX3_weight wsX3_weight rm_X3_weight (va_Pc [.int x0, .long x1] (fun _ => True)) (vp_Sl (fun r => o = r)) 0 0 (fun _ => False) := by
  refine Met.ofW (cc := cX3_weight) (maxL := 3) (ret := (some .long)) (by decide) rfl ?_
  intro p e s m args below meth c s₁ B hml hv
  obtain ⟨hav, -⟩ := hv
  have hx := B.exec
  have hb := B.bytes
  have hr := B.returns
  have hts := atoms_spec (ws := wsX3_weight) B.pre
  have hown : s.vm.findClass RX3 = some m.cls := findClass_of_methodNamed B.named
  have hlocks := B.notSynchronized
  refine wstart (rm := rm_X3_weight) hav (Nat.le_of_ble_eq_true rfl) (fun QQ ls hQQ hl => ?_)
  have hl : lv_has ls 3 [(0, .int x0), (1, .long x1)] := hl
  have h := hf
  unfold f_X3_weight at h
  refine lv_iload_n hx hb dX3_weight_0 rfl (lv_at hl 0 rfl) ?_
  obtain ⟨o_1657, hr_1657, h⟩ := ob h
  refine vp_callSi (va_Run.run (va_runS (As := [.int x0]) (rest := []) ⟨hx, hb, hml, hown, hts⟩ (c_X3_mayBeNothing l dC dI cB cC cI cJ cZ cT x0 o_1657 hr_1657) (va_cwS 1 hts gX3_weight_X3_mayBeNothing rfl rfl rfl (by decide +kernel) ⟨Nat.le_of_ble_eq_true rfl, Nat.le_of_ble_eq_true rfl⟩) ⟨blT, fun U hU hW => ⟨rfl, trivial⟩⟩ rfl rfl hl.1 rfl (lv_room (Nat.le_of_ble_eq_true rfl)) dX3_weight_1 ⟨Nat.le_of_ble_eq_true rfl, Nat.le_of_ble_eq_true rfl⟩)) (fun r_1657 e_1657 => ?_)
  subst e_1657
  refine lv_if_eq (tgt := 19) hx hb dX3_weight_4 (by decide) (fun c_1659 => ?_) (fun c_1659 => ?_)
  · replace h := op c_1659 h
    refine lv_iload_n hx hb dX3_weight_19 rfl (lv_at hl 0 rfl) ?_
    by_cases c_1660 : x0 = 6
    · replace h := op c_1660 h
      refine lv_tableIn (off := 32) (tgt := 52) hx hb dX3_weight_20 (by rw [c_1660]; decide) (by rw [c_1660]; decide) (by rw [c_1660]; rfl) (by decide) ?_
      refine lv_lload_n hx hb dX3_weight_52 rfl (lv_at hl 1 rfl) ?_
      refine lv_lconst (v := 0) hx hb dX3_weight_53 (by decide) ?_
      refine W.lcmp hx hb dX3_weight_54 ?_
      refine lv_if_ge (tgt := 66) hx hb dX3_weight_55 (by decide) (fun c_1661 => ?_) (fun c_1661 => ?_)
      · replace h := op c_1661 h
        refine lv_lload_n hx hb dX3_weight_66 rfl (lv_at hl 1 rfl) ?_
        rw [hQQ]
        exact W.lret hx hb hr (fun t ht hW => ⟨_, rfl, (Option.some.inj h).symm, ht⟩) (fun q hq => absurd hq List.not_mem_nil) dX3_weight_67
      · replace h := on c_1661 h
        refine lv_lload_n hx hb dX3_weight_58 rfl (lv_at hl 1 rfl) ?_
        refine lv_ldc2 (v := 2147483647) hx hb hown (hts _ (List.mem_of_getElem? (i := 2) rfl)) dX3_weight_59 ?_
        refine lv_lxor hx hb dX3_weight_62 ?_
        refine lv_goto (tgt := 67) hx hb dX3_weight_63 (by decide) ?_
        rw [hQQ]
        exact W.lret hx hb hr (fun t ht hW => ⟨_, rfl, (Option.some.inj h).symm, ht⟩) (fun q hq => absurd hq List.not_mem_nil) dX3_weight_67
    replace h := on c_1660 h
    by_cases c_1662 : x0 = 7
    · replace h := op c_1662 h
      refine lv_tableIn (off := 48) (tgt := 68) hx hb dX3_weight_20 (by rw [c_1662]; decide) (by rw [c_1662]; decide) (by rw [c_1662]; rfl) (by decide) ?_
      refine lv_lload_n hx hb dX3_weight_68 rfl (lv_at hl 1 rfl) ?_
      refine lv_lconst (v := 0) hx hb dX3_weight_69 (by decide) ?_
      refine W.lcmp hx hb dX3_weight_70 ?_
      refine lv_if_ge (tgt := 82) hx hb dX3_weight_71 (by decide) (fun c_1663 => ?_) (fun c_1663 => ?_)
      · replace h := op c_1663 h
        refine lv_lload_n hx hb dX3_weight_82 rfl (lv_at hl 1 rfl) ?_
        rw [hQQ]
        exact W.lret hx hb hr (fun t ht hW => ⟨_, rfl, (Option.some.inj h).symm, ht⟩) (fun q hq => absurd hq List.not_mem_nil) dX3_weight_83
      · replace h := on c_1663 h
        refine lv_lload_n hx hb dX3_weight_74 rfl (lv_at hl 1 rfl) ?_
        refine lv_ldc2 (v := 9223372036854775807) hx hb hown (hts _ (List.mem_of_getElem? (i := 3) rfl)) dX3_weight_75 ?_
        refine lv_lxor hx hb dX3_weight_78 ?_
        refine lv_goto (tgt := 83) hx hb dX3_weight_79 (by decide) ?_
        rw [hQQ]
        exact W.lret hx hb hr (fun t ht hW => ⟨_, rfl, (Option.some.inj h).symm, ht⟩) (fun q hq => absurd hq List.not_mem_nil) dX3_weight_83
    replace h := on c_1662 h
    by_cases c_1664 : x0 = 8
    · replace h := op c_1664 h
      refine lv_tableIn (off := 80) (tgt := 100) hx hb dX3_weight_20 (by rw [c_1664]; decide) (by rw [c_1664]; decide) (by rw [c_1664]; rfl) (by decide) ?_
      refine lv_lload_n hx hb dX3_weight_100 rfl (lv_at hl 1 rfl) ?_
      rw [hQQ]
      exact W.lret hx hb hr (fun t ht hW => ⟨_, rfl, (Option.some.inj h).symm, ht⟩) (fun q hq => absurd hq List.not_mem_nil) dX3_weight_101
    replace h := on c_1664 h
    by_cases c_1665 : x0 = 9
    · replace h := op c_1665 h
      refine lv_tableIn (off := 64) (tgt := 84) hx hb dX3_weight_20 (by rw [c_1665]; decide) (by rw [c_1665]; decide) (by rw [c_1665]; rfl) (by decide) ?_
      refine lv_lload_n hx hb dX3_weight_84 rfl (lv_at hl 1 rfl) ?_
      refine lv_ldc2 (v := 26) hx hb hown (hts _ (List.mem_of_getElem? (i := 4) rfl)) dX3_weight_85 ?_
      refine lv_lrem hx hb dX3_weight_88 (by decide) ?_
      refine lv_ldc2 (v := 3) hx hb hown (hts _ (List.mem_of_getElem? (i := 5) rfl)) dX3_weight_89 ?_
      refine lv_lmul hx hb dX3_weight_92 ?_
      refine lv_lload_n hx hb dX3_weight_93 rfl (lv_at hl 1 rfl) ?_
      refine lv_ldc2 (v := 26) hx hb hown (hts _ (List.mem_of_getElem? (i := 4) rfl)) dX3_weight_94 ?_
      refine lv_ldiv hx hb dX3_weight_97 (by decide) ?_
      refine lv_ladd hx hb dX3_weight_98 ?_
      rw [hQQ]
      exact W.lret hx hb hr (fun t ht hW => ⟨_, rfl, (Option.some.inj h).symm, ht⟩) (fun q hq => absurd hq List.not_mem_nil) dX3_weight_99
    replace h := on c_1665 h
    have ct_1660 : (x0).toInt < 6 ∨ 9 < (x0).toInt := by
      have q_1660 := i32_ne c_1660
      have q_1662 := i32_ne c_1662
      have q_1664 := i32_ne c_1664
      have q_1665 := i32_ne c_1665
      have z_1660 : ((6 : Int32)).toInt = 6 ∧ ((7 : Int32)).toInt = 7 ∧ ((8 : Int32)).toInt = 8 ∧ ((9 : Int32)).toInt = 9 := by decide
      omega
    refine lv_tableOut (tgt := 100) hx hb dX3_weight_20 ct_1660 (by decide) ?_
    refine lv_lload_n hx hb dX3_weight_100 rfl (lv_at hl 1 rfl) ?_
    rw [hQQ]
    exact W.lret hx hb hr (fun t ht hW => ⟨_, rfl, (Option.some.inj h).symm, ht⟩) (fun q hq => absurd hq List.not_mem_nil) dX3_weight_101
  · replace h := on c_1659 h
    refine lv_lload_n hx hb dX3_weight_7 rfl (lv_at hl 1 rfl) ?_
    refine lv_ldc2 (v := -9223372036854775808) hx hb hown (hts _ (List.mem_of_getElem? (i := 1) rfl)) dX3_weight_8 ?_
    refine W.lcmp hx hb dX3_weight_11 ?_
    refine lv_if_ne (tgt := 19) hx hb dX3_weight_12 (by decide) (fun c_1666 => ?_) (fun c_1666 => ?_)
    · replace h := on c_1666 h
      refine lv_iload_n hx hb dX3_weight_19 rfl (lv_at hl 0 rfl) ?_
      by_cases c_1667 : x0 = 6
      · replace h := op c_1667 h
        refine lv_tableIn (off := 32) (tgt := 52) hx hb dX3_weight_20 (by rw [c_1667]; decide) (by rw [c_1667]; decide) (by rw [c_1667]; rfl) (by decide) ?_
        refine lv_lload_n hx hb dX3_weight_52 rfl (lv_at hl 1 rfl) ?_
        refine lv_lconst (v := 0) hx hb dX3_weight_53 (by decide) ?_
        refine W.lcmp hx hb dX3_weight_54 ?_
        refine lv_if_ge (tgt := 66) hx hb dX3_weight_55 (by decide) (fun c_1668 => ?_) (fun c_1668 => ?_)
        · replace h := op c_1668 h
          refine lv_lload_n hx hb dX3_weight_66 rfl (lv_at hl 1 rfl) ?_
          rw [hQQ]
          exact W.lret hx hb hr (fun t ht hW => ⟨_, rfl, (Option.some.inj h).symm, ht⟩) (fun q hq => absurd hq List.not_mem_nil) dX3_weight_67
        · replace h := on c_1668 h
          refine lv_lload_n hx hb dX3_weight_58 rfl (lv_at hl 1 rfl) ?_
          refine lv_ldc2 (v := 2147483647) hx hb hown (hts _ (List.mem_of_getElem? (i := 2) rfl)) dX3_weight_59 ?_
          refine lv_lxor hx hb dX3_weight_62 ?_
          refine lv_goto (tgt := 67) hx hb dX3_weight_63 (by decide) ?_
          rw [hQQ]
          exact W.lret hx hb hr (fun t ht hW => ⟨_, rfl, (Option.some.inj h).symm, ht⟩) (fun q hq => absurd hq List.not_mem_nil) dX3_weight_67
      replace h := on c_1667 h
      by_cases c_1669 : x0 = 7
      · replace h := op c_1669 h
        refine lv_tableIn (off := 48) (tgt := 68) hx hb dX3_weight_20 (by rw [c_1669]; decide) (by rw [c_1669]; decide) (by rw [c_1669]; rfl) (by decide) ?_
        refine lv_lload_n hx hb dX3_weight_68 rfl (lv_at hl 1 rfl) ?_
        refine lv_lconst (v := 0) hx hb dX3_weight_69 (by decide) ?_
        refine W.lcmp hx hb dX3_weight_70 ?_
        refine lv_if_ge (tgt := 82) hx hb dX3_weight_71 (by decide) (fun c_1670 => ?_) (fun c_1670 => ?_)
        · replace h := op c_1670 h
          refine lv_lload_n hx hb dX3_weight_82 rfl (lv_at hl 1 rfl) ?_
          rw [hQQ]
          exact W.lret hx hb hr (fun t ht hW => ⟨_, rfl, (Option.some.inj h).symm, ht⟩) (fun q hq => absurd hq List.not_mem_nil) dX3_weight_83
        · replace h := on c_1670 h
          refine lv_lload_n hx hb dX3_weight_74 rfl (lv_at hl 1 rfl) ?_
          refine lv_ldc2 (v := 9223372036854775807) hx hb hown (hts _ (List.mem_of_getElem? (i := 3) rfl)) dX3_weight_75 ?_
          refine lv_lxor hx hb dX3_weight_78 ?_
          refine lv_goto (tgt := 83) hx hb dX3_weight_79 (by decide) ?_
          rw [hQQ]
          exact W.lret hx hb hr (fun t ht hW => ⟨_, rfl, (Option.some.inj h).symm, ht⟩) (fun q hq => absurd hq List.not_mem_nil) dX3_weight_83
      replace h := on c_1669 h
      by_cases c_1671 : x0 = 8
      · replace h := op c_1671 h
        refine lv_tableIn (off := 80) (tgt := 100) hx hb dX3_weight_20 (by rw [c_1671]; decide) (by rw [c_1671]; decide) (by rw [c_1671]; rfl) (by decide) ?_
        refine lv_lload_n hx hb dX3_weight_100 rfl (lv_at hl 1 rfl) ?_
        rw [hQQ]
        exact W.lret hx hb hr (fun t ht hW => ⟨_, rfl, (Option.some.inj h).symm, ht⟩) (fun q hq => absurd hq List.not_mem_nil) dX3_weight_101
      replace h := on c_1671 h
      by_cases c_1672 : x0 = 9
      · replace h := op c_1672 h
        refine lv_tableIn (off := 64) (tgt := 84) hx hb dX3_weight_20 (by rw [c_1672]; decide) (by rw [c_1672]; decide) (by rw [c_1672]; rfl) (by decide) ?_
        refine lv_lload_n hx hb dX3_weight_84 rfl (lv_at hl 1 rfl) ?_
        refine lv_ldc2 (v := 26) hx hb hown (hts _ (List.mem_of_getElem? (i := 4) rfl)) dX3_weight_85 ?_
        refine lv_lrem hx hb dX3_weight_88 (by decide) ?_
        refine lv_ldc2 (v := 3) hx hb hown (hts _ (List.mem_of_getElem? (i := 5) rfl)) dX3_weight_89 ?_
        refine lv_lmul hx hb dX3_weight_92 ?_
        refine lv_lload_n hx hb dX3_weight_93 rfl (lv_at hl 1 rfl) ?_
        refine lv_ldc2 (v := 26) hx hb hown (hts _ (List.mem_of_getElem? (i := 4) rfl)) dX3_weight_94 ?_
        refine lv_ldiv hx hb dX3_weight_97 (by decide) ?_
        refine lv_ladd hx hb dX3_weight_98 ?_
        rw [hQQ]
        exact W.lret hx hb hr (fun t ht hW => ⟨_, rfl, (Option.some.inj h).symm, ht⟩) (fun q hq => absurd hq List.not_mem_nil) dX3_weight_99
      replace h := on c_1672 h
      have ct_1667 : (x0).toInt < 6 ∨ 9 < (x0).toInt := by
        have q_1667 := i32_ne c_1667
        have q_1669 := i32_ne c_1669
        have q_1671 := i32_ne c_1671
        have q_1672 := i32_ne c_1672
        have z_1667 : ((6 : Int32)).toInt = 6 ∧ ((7 : Int32)).toInt = 7 ∧ ((8 : Int32)).toInt = 8 ∧ ((9 : Int32)).toInt = 9 := by decide
        omega
      refine lv_tableOut (tgt := 100) hx hb dX3_weight_20 ct_1667 (by decide) ?_
      refine lv_lload_n hx hb dX3_weight_100 rfl (lv_at hl 1 rfl) ?_
      rw [hQQ]
      exact W.lret hx hb hr (fun t ht hW => ⟨_, rfl, (Option.some.inj h).symm, ht⟩) (fun q hq => absurd hq List.not_mem_nil) dX3_weight_101
    · replace h := op c_1666 h
      refine lv_ldc2 (v := -9223372036854775808) hx hb hown (hts _ (List.mem_of_getElem? (i := 1) rfl)) dX3_weight_15 ?_
      rw [hQQ]
      exact W.lret hx hb hr (fun t ht hW => ⟨_, rfl, (Option.some.inj h).symm, ht⟩) (fun q hq => absurd hq List.not_mem_nil) dX3_weight_18
def f_X3_group (x0 : Int32) (x1 : Int64) : Option Int32 :=
  ((f_X3_mayBeNothing x0).bind (fun o_1673 => (if (b2i o_1673) = 0 then (if x0 < (1 : Int32) then (some x0) else (if (8 : Int32) < x0 then (some x0) else (some (4 : Int32)))) else (if (lg_cmp x1 (-9223372036854775808 : Int64)) = 0 then (some (14 : Int32)) else (if x0 < (1 : Int32) then (some x0) else (if (8 : Int32) < x0 then (some x0) else (some (4 : Int32))))))))
abbrev rm_X3_group : Room := { frames := 1, cells := 0, slots := 0, locals := 20 }
set_option maxHeartbeats 4000000 in
set_option maxRecDepth 100000 in
theorem c_X3_group (l : Launch) (dC : Nat → ClassId) (dI : Nat → Nat → Nat) (cB cC cI cJ cZ cT : ClassId) (x0 : Int32) (x1 : Int64) (o : Int32) (hf : f_X3_group x0 x1 = some o) : Met l yX3_group wsX3_group rm_X3_group (va_Pc [.int x0, .long x1] (fun _ => True)) (vp_Si (fun r => o = r)) 0 0 (fun _ => False) := by
  refine Met.ofW (cc := cX3_group) (maxL := 3) (ret := (some .int)) (by decide) rfl ?_
  intro p e s m args below meth c s₁ B hml hv
  obtain ⟨hav, -⟩ := hv
  have hx := B.exec
  have hb := B.bytes
  have hr := B.returns
  have hts := atoms_spec (ws := wsX3_group) B.pre
  have hown : s.vm.findClass RX3 = some m.cls := findClass_of_methodNamed B.named
  have hlocks := B.notSynchronized
  refine wstart (rm := rm_X3_group) hav (Nat.le_of_ble_eq_true rfl) (fun QQ ls hQQ hl => ?_)
  have hl : lv_has ls 3 [(0, .int x0), (1, .long x1)] := hl
  have h := hf
  unfold f_X3_group at h
  refine lv_iload_n hx hb dX3_group_0 rfl (lv_at hl 0 rfl) ?_
  obtain ⟨o_1673, hr_1673, h⟩ := ob h
  refine vp_callSi (va_Run.run (va_runS (As := [.int x0]) (rest := []) ⟨hx, hb, hml, hown, hts⟩ (c_X3_mayBeNothing l dC dI cB cC cI cJ cZ cT x0 o_1673 hr_1673) (va_cwS 1 hts gX3_group_X3_mayBeNothing rfl rfl rfl (by decide +kernel) ⟨Nat.le_of_ble_eq_true rfl, Nat.le_of_ble_eq_true rfl⟩) ⟨blT, fun U hU hW => ⟨rfl, trivial⟩⟩ rfl rfl hl.1 rfl (lv_room (Nat.le_of_ble_eq_true rfl)) dX3_group_1 ⟨Nat.le_of_ble_eq_true rfl, Nat.le_of_ble_eq_true rfl⟩)) (fun r_1673 e_1673 => ?_)
  subst e_1673
  refine lv_if_eq (tgt := 18) hx hb dX3_group_4 (by decide) (fun c_1675 => ?_) (fun c_1675 => ?_)
  · replace h := op c_1675 h
    refine lv_iload_n hx hb dX3_group_18 rfl (lv_at hl 0 rfl) ?_
    refine lv_iconst (v := 1) hx hb dX3_group_19 (by decide) ?_
    refine lv_icmp_lt (tgt := 33) hx hb dX3_group_20 (by decide) (fun c_1676 => ?_) (fun c_1676 => ?_)
    · replace h := op c_1676 h
      refine lv_iload_n hx hb dX3_group_33 rfl (lv_at hl 0 rfl) ?_
      rw [hQQ]
      exact W.iret hx hb hr (fun t ht hW => ⟨_, rfl, (Option.some.inj h).symm, ht⟩) (fun q hq => absurd hq List.not_mem_nil) dX3_group_34
    · replace h := on c_1676 h
      refine lv_iload_n hx hb dX3_group_23 rfl (lv_at hl 0 rfl) ?_
      refine lv_bipush (v := 8) hx hb dX3_group_24 (by decide) ?_
      refine lv_icmp_gt (tgt := 33) hx hb dX3_group_26 (by decide) (fun c_1677 => ?_) (fun c_1677 => ?_)
      · replace h := op c_1677 h
        refine lv_iload_n hx hb dX3_group_33 rfl (lv_at hl 0 rfl) ?_
        rw [hQQ]
        exact W.iret hx hb hr (fun t ht hW => ⟨_, rfl, (Option.some.inj h).symm, ht⟩) (fun q hq => absurd hq List.not_mem_nil) dX3_group_34
      · replace h := on c_1677 h
        refine lv_iconst (v := 4) hx hb dX3_group_29 (by decide) ?_
        refine lv_goto (tgt := 34) hx hb dX3_group_30 (by decide) ?_
        rw [hQQ]
        exact W.iret hx hb hr (fun t ht hW => ⟨_, rfl, (Option.some.inj h).symm, ht⟩) (fun q hq => absurd hq List.not_mem_nil) dX3_group_34
  · replace h := on c_1675 h
    refine lv_lload_n hx hb dX3_group_7 rfl (lv_at hl 1 rfl) ?_
    refine lv_ldc2 (v := -9223372036854775808) hx hb hown (hts _ (List.mem_of_getElem? (i := 1) rfl)) dX3_group_8 ?_
    refine W.lcmp hx hb dX3_group_11 ?_
    refine lv_if_ne (tgt := 18) hx hb dX3_group_12 (by decide) (fun c_1678 => ?_) (fun c_1678 => ?_)
    · replace h := on c_1678 h
      refine lv_iload_n hx hb dX3_group_18 rfl (lv_at hl 0 rfl) ?_
      refine lv_iconst (v := 1) hx hb dX3_group_19 (by decide) ?_
      refine lv_icmp_lt (tgt := 33) hx hb dX3_group_20 (by decide) (fun c_1679 => ?_) (fun c_1679 => ?_)
      · replace h := op c_1679 h
        refine lv_iload_n hx hb dX3_group_33 rfl (lv_at hl 0 rfl) ?_
        rw [hQQ]
        exact W.iret hx hb hr (fun t ht hW => ⟨_, rfl, (Option.some.inj h).symm, ht⟩) (fun q hq => absurd hq List.not_mem_nil) dX3_group_34
      · replace h := on c_1679 h
        refine lv_iload_n hx hb dX3_group_23 rfl (lv_at hl 0 rfl) ?_
        refine lv_bipush (v := 8) hx hb dX3_group_24 (by decide) ?_
        refine lv_icmp_gt (tgt := 33) hx hb dX3_group_26 (by decide) (fun c_1680 => ?_) (fun c_1680 => ?_)
        · replace h := op c_1680 h
          refine lv_iload_n hx hb dX3_group_33 rfl (lv_at hl 0 rfl) ?_
          rw [hQQ]
          exact W.iret hx hb hr (fun t ht hW => ⟨_, rfl, (Option.some.inj h).symm, ht⟩) (fun q hq => absurd hq List.not_mem_nil) dX3_group_34
        · replace h := on c_1680 h
          refine lv_iconst (v := 4) hx hb dX3_group_29 (by decide) ?_
          refine lv_goto (tgt := 34) hx hb dX3_group_30 (by decide) ?_
          rw [hQQ]
          exact W.iret hx hb hr (fun t ht hW => ⟨_, rfl, (Option.some.inj h).symm, ht⟩) (fun q hq => absurd hq List.not_mem_nil) dX3_group_34
    · replace h := op c_1678 h
      refine lv_bipush (v := 14) hx hb dX3_group_15 (by decide) ?_
      rw [hQQ]
      exact W.iret hx hb hr (fun t ht hW => ⟨_, rfl, (Option.some.inj h).symm, ht⟩) (fun q hq => absurd hq List.not_mem_nil) dX3_group_17
def f_X3_sameWorth (x0 : Int32) (x1 : Int64) (x3 : Int32) (x4 : Int64) : Option Bool :=
  ((f_X3_group x0 x1).bind (fun o_1681 => ((f_X3_group x3 x4).bind (fun o_1683 => (if o_1681 = o_1683 then (if o_1681 = (4 : Int32) then ((f_X3_widened x0 (7 : Int32) x1).bind (fun o_1688 => ((f_X3_widened x3 (7 : Int32) x4).bind (fun o_1690 => (if (lg_cmp o_1688 o_1690) = 0 then (some true) else (some false)))))) else (if (lg_cmp x1 x4) = 0 then (some true) else (some false))) else (some false))))))
abbrev rm_X3_sameWorth : Room := { frames := 5, cells := 0, slots := 0, locals := 124 }
set_option maxHeartbeats 4000000 in
set_option maxRecDepth 100000 in
theorem c_X3_sameWorth (l : Launch) (dC : Nat → ClassId) (dI : Nat → Nat → Nat) (cB cC cI cJ cZ cT : ClassId) (x0 : Int32) (x1 : Int64) (x3 : Int32) (x4 : Int64) (o : Bool) (hf : f_X3_sameWorth x0 x1 x3 x4 = some o) : Met l yX3_sameWorth wsX3_sameWorth rm_X3_sameWorth (va_Pc [.int x0, .long x1, .int x3, .long x4] (fun _ => True)) (vp_Si (fun r => b2i o = r)) 0 0 (fun _ => False) := by
  refine Met.ofW (cc := cX3_sameWorth) (maxL := 7) (ret := (some .boolean)) (by decide) rfl ?_
  intro p e s m args below meth c s₁ B hml hv
  obtain ⟨hav, -⟩ := hv
  have hx := B.exec
  have hb := B.bytes
  have hr := B.returns
  have hts := atoms_spec (ws := wsX3_sameWorth) B.pre
  have hown : s.vm.findClass RX3 = some m.cls := findClass_of_methodNamed B.named
  have hlocks := B.notSynchronized
  refine wstart (rm := rm_X3_sameWorth) hav (Nat.le_of_ble_eq_true rfl) (fun QQ ls hQQ hl => ?_)
  have hl : lv_has ls 7 [(0, .int x0), (1, .long x1), (3, .int x3), (4, .long x4)] := hl
  have h := hf
  unfold f_X3_sameWorth at h
  refine lv_iload_n hx hb dX3_sameWorth_0 rfl (lv_at hl 0 rfl) ?_
  refine lv_lload_n hx hb dX3_sameWorth_1 rfl (lv_at hl 1 rfl) ?_
  obtain ⟨o_1681, hr_1681, h⟩ := ob h
  refine vp_callSi (va_Run.run (va_runS (As := [.int x0, .long x1]) (rest := []) ⟨hx, hb, hml, hown, hts⟩ (c_X3_group l dC dI cB cC cI cJ cZ cT x0 x1 o_1681 hr_1681) (va_cwS 2 hts gX3_sameWorth_X3_group rfl rfl rfl (by decide +kernel) ⟨Nat.le_of_ble_eq_true rfl, Nat.le_of_ble_eq_true rfl⟩) ⟨blT, fun U hU hW => ⟨rfl, trivial⟩⟩ rfl rfl hl.1 rfl (lv_room (Nat.le_of_ble_eq_true rfl)) dX3_sameWorth_2 ⟨Nat.le_of_ble_eq_true rfl, Nat.le_of_ble_eq_true rfl⟩)) (fun r_1681 e_1681 => ?_)
  subst e_1681
  refine lv_istore (lv' := [(6, .int o_1681), (0, .int x0), (1, .long x1), (3, .int x3), (4, .long x4)]) hx hb dX3_sameWorth_5 hl (by decide) rfl (fun ls hl => ?_)
  refine lv_iload hx hb dX3_sameWorth_7 (lv_at hl 0 rfl) ?_
  refine lv_iload_n hx hb dX3_sameWorth_9 rfl (lv_at hl 3 rfl) ?_
  refine lv_lload hx hb dX3_sameWorth_10 (lv_at hl 4 rfl) ?_
  obtain ⟨o_1683, hr_1683, h⟩ := ob h
  refine vp_callSi (va_Run.run (va_runS (As := [.int x3, .long x4]) (rest := [.int o_1681]) ⟨hx, hb, hml, hown, hts⟩ (c_X3_group l dC dI cB cC cI cJ cZ cT x3 x4 o_1683 hr_1683) (va_cwS 2 hts gX3_sameWorth_X3_group rfl rfl rfl (by decide +kernel) ⟨Nat.le_of_ble_eq_true rfl, Nat.le_of_ble_eq_true rfl⟩) ⟨blT, fun U hU hW => ⟨rfl, trivial⟩⟩ rfl rfl hl.1 rfl (lv_room (Nat.le_of_ble_eq_true rfl)) dX3_sameWorth_12 ⟨Nat.le_of_ble_eq_true rfl, Nat.le_of_ble_eq_true rfl⟩)) (fun r_1683 e_1683 => ?_)
  subst e_1683
  refine lv_icmp_eq (tgt := 20) hx hb dX3_sameWorth_15 (by decide) (fun c_1685 => ?_) (fun c_1685 => ?_)
  · replace h := op c_1685 h
    refine lv_iload hx hb dX3_sameWorth_20 (lv_at hl 0 rfl) ?_
    refine lv_iconst (v := 4) hx hb dX3_sameWorth_22 (by decide) ?_
    refine lv_icmp_ne (tgt := 51) hx hb dX3_sameWorth_23 (by decide) (fun c_1686 => ?_) (fun c_1686 => ?_)
    · replace h := on c_1686 h
      refine lv_lload_n hx hb dX3_sameWorth_51 rfl (lv_at hl 2 rfl) ?_
      refine lv_lload hx hb dX3_sameWorth_52 (lv_at hl 4 rfl) ?_
      refine W.lcmp hx hb dX3_sameWorth_54 ?_
      refine lv_if_ne (tgt := 62) hx hb dX3_sameWorth_55 (by decide) (fun c_1687 => ?_) (fun c_1687 => ?_)
      · replace h := on c_1687 h
        refine lv_iconst (v := 0) hx hb dX3_sameWorth_62 (by decide) ?_
        rw [hQQ]
        exact W.zret hx hb hr rfl (fun t ht hW => ⟨_, rfl, (congrArg b2i (Option.some.inj h).symm), ht⟩) (fun q hq => absurd hq List.not_mem_nil) dX3_sameWorth_63
      · replace h := op c_1687 h
        refine lv_iconst (v := 1) hx hb dX3_sameWorth_58 (by decide) ?_
        refine lv_goto (tgt := 63) hx hb dX3_sameWorth_59 (by decide) ?_
        rw [hQQ]
        exact W.zret hx hb hr rfl (fun t ht hW => ⟨_, rfl, (congrArg b2i (Option.some.inj h).symm), ht⟩) (fun q hq => absurd hq List.not_mem_nil) dX3_sameWorth_63
    · replace h := op c_1686 h
      refine lv_iload_n hx hb dX3_sameWorth_26 rfl (lv_at hl 1 rfl) ?_
      refine lv_bipush (v := 7) hx hb dX3_sameWorth_27 (by decide) ?_
      refine lv_lload_n hx hb dX3_sameWorth_29 rfl (lv_at hl 2 rfl) ?_
      obtain ⟨o_1688, hr_1688, h⟩ := ob h
      refine vp_callSl (va_Run.run (va_runS (As := [.int x0, .int (7 : Int32), .long x1]) (rest := []) ⟨hx, hb, hml, hown, hts⟩ (c_X3_widened l dC dI cB cC cI cJ cZ cT x0 (7 : Int32) x1 o_1688 hr_1688) (va_cwS 3 hts gX3_sameWorth_X3_widened rfl rfl rfl (by decide +kernel) ⟨Nat.le_of_ble_eq_true rfl, Nat.le_of_ble_eq_true rfl⟩) ⟨blT, fun U hU hW => ⟨rfl, trivial⟩⟩ rfl rfl hl.1 rfl (lv_room (Nat.le_of_ble_eq_true rfl)) dX3_sameWorth_30 ⟨Nat.le_of_ble_eq_true rfl, Nat.le_of_ble_eq_true rfl⟩)) (fun r_1688 e_1688 => ?_)
      subst e_1688
      refine lv_iload_n hx hb dX3_sameWorth_33 rfl (lv_at hl 3 rfl) ?_
      refine lv_bipush (v := 7) hx hb dX3_sameWorth_34 (by decide) ?_
      refine lv_lload hx hb dX3_sameWorth_36 (lv_at hl 4 rfl) ?_
      obtain ⟨o_1690, hr_1690, h⟩ := ob h
      refine vp_callSl (va_Run.run (va_runS (As := [.int x3, .int (7 : Int32), .long x4]) (rest := [.long o_1688]) ⟨hx, hb, hml, hown, hts⟩ (c_X3_widened l dC dI cB cC cI cJ cZ cT x3 (7 : Int32) x4 o_1690 hr_1690) (va_cwS 3 hts gX3_sameWorth_X3_widened rfl rfl rfl (by decide +kernel) ⟨Nat.le_of_ble_eq_true rfl, Nat.le_of_ble_eq_true rfl⟩) ⟨blT, fun U hU hW => ⟨rfl, trivial⟩⟩ rfl rfl hl.1 rfl (lv_room (Nat.le_of_ble_eq_true rfl)) dX3_sameWorth_38 ⟨Nat.le_of_ble_eq_true rfl, Nat.le_of_ble_eq_true rfl⟩)) (fun r_1690 e_1690 => ?_)
      subst e_1690
      refine W.lcmp hx hb dX3_sameWorth_41 ?_
      refine lv_if_ne (tgt := 49) hx hb dX3_sameWorth_42 (by decide) (fun c_1692 => ?_) (fun c_1692 => ?_)
      · replace h := on c_1692 h
        refine lv_iconst (v := 0) hx hb dX3_sameWorth_49 (by decide) ?_
        rw [hQQ]
        exact W.zret hx hb hr rfl (fun t ht hW => ⟨_, rfl, (congrArg b2i (Option.some.inj h).symm), ht⟩) (fun q hq => absurd hq List.not_mem_nil) dX3_sameWorth_50
      · replace h := op c_1692 h
        refine lv_iconst (v := 1) hx hb dX3_sameWorth_45 (by decide) ?_
        refine lv_goto (tgt := 50) hx hb dX3_sameWorth_46 (by decide) ?_
        rw [hQQ]
        exact W.zret hx hb hr rfl (fun t ht hW => ⟨_, rfl, (congrArg b2i (Option.some.inj h).symm), ht⟩) (fun q hq => absurd hq List.not_mem_nil) dX3_sameWorth_50
  · replace h := on c_1685 h
    refine lv_iconst (v := 0) hx hb dX3_sameWorth_18 (by decide) ?_
    rw [hQQ]
    exact W.zret hx hb hr rfl (fun t ht hW => ⟨_, rfl, (congrArg b2i (Option.some.inj h).symm), ht⟩) (fun q hq => absurd hq List.not_mem_nil) dX3_sameWorth_19
