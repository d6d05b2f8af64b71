def f_X3_ofLetter (x0 : Int32) : Option Int32 :=
  ((f_J0_indexOf_0f7a4 x0).bind (fun o_1673 => (some o_1673)))
abbrev rm_X3_ofLetter : Room := { frames := 4, cells := 0, slots := 0, locals := 91 }
set_option maxHeartbeats 4000000 in
set_option maxRecDepth 100000 in
theorem c_X3_ofLetter (l : Launch) (dC : Nat → ClassId) (dI : Nat → Nat → Nat) (cB cC cI cJ cZ cT : ClassId) (x0 : Int32) (o : Int32) (hf : f_X3_ofLetter x0 = some o) : Met l yX3_ofLetter wsX3_ofLetter rm_X3_ofLetter (va_Pc [.int x0] (fun U => SX (fun _ => False) U U.heap)) (vp_Si (fun r => o = r)) 0 0 (fun _ => False) := by
  refine Met.ofW (cc := cX3_ofLetter) (maxL := 1) (ret := (some .int)) (by decide +kernel) rfl ?_
  intro p e s m args below meth c s₁ B hml hv
  obtain ⟨hav, hX⟩ := hv
  have hx := B.exec
  have hb := B.bytes
  have hr := B.returns
  have hts := atoms_spec (ws := wsX3_ofLetter) B.pre
  have hown : s.vm.findClass RX3 = some m.cls := findClass_of_methodNamed B.named
  have hlocks := B.notSynchronized
  have hS : va_S (fun _ => False) s.heap s.heap [] := va_S.rf
  obtain ⟨-, -, ⟨aM, vM, hRM, hEM⟩, aC, vC, hRC, hEC⟩ := id hX
  obtain ⟨-, -, -, hOM, -, -⟩ := id hEM
  obtain ⟨-, -, -, hOC, -, -⟩ := id hEC
  refine wstart (rm := rm_X3_ofLetter) hav (Nat.le_of_ble_eq_true rfl) (fun QQ ls hQQ hl => ?_)
  have hl : lv_has ls 1 [(0, .int x0)] := hl
  have h := hf
  unfold f_X3_ofLetter at h
  refine va_ldcS hx hb hown hRC dX3_ofLetter_0 ?_
  refine lv_iload_n hx hb dX3_ofLetter_2 rfl (lv_at hl 0 rfl) ?_
  obtain ⟨o_1673, hr_1673, h⟩ := ob h
  refine vp_callSi (va_Run.run (va_runV (As := [.int x0]) (rest := []) ⟨hx, hb, hml, hown, hts⟩ (c_J0_indexOf_0f7a4 l dC dI cB cC cI cJ cZ cT aC vC x0 o_1673 hr_1673) (cwV 1 hts gX3_ofLetter_J0_indexOf_0f7a4 rfl rfl rfl (by decide +kernel) ⟨Nat.le_of_ble_eq_true rfl, Nat.le_of_ble_eq_true rfl⟩) ⟨blS, va_Orecv hOC hS, fun U hU hW => ⟨rfl, by show STR _ _ (fun _ => False) U U.heap; rw [hU]; exact hEC.go hW.alike hS.2.1 (fun _ q => q.elim)⟩⟩ rfl rfl hl.1 rfl (lv_room (Nat.le_of_ble_eq_true rfl)) dX3_ofLetter_3 ⟨Nat.le_of_ble_eq_true rfl, Nat.le_of_ble_eq_true rfl⟩)) (fun r_1673 e_1673 => ?_)
  subst e_1673
  rw [hQQ]
  exact W.iret hx hb hr (fun t ht hW => ⟨_, rfl, (Option.some.inj h).symm, ht⟩) (fun q hq => absurd hq List.not_mem_nil) dX3_ofLetter_6
def f_X3_isNumberWay (x0 : Int32) : Option Bool :=
  (if x0 < 0 then (some false) else (if (7 : Int32) < x0 then (some false) else (some true)))
abbrev rm_X3_isNumberWay : Room := { frames := 0, cells := 0, slots := 0, locals := 0 }
set_option maxHeartbeats 4000000 in
set_option maxRecDepth 100000 in
theorem c_X3_isNumberWay (l : Launch) (dC : Nat → ClassId) (dI : Nat → Nat → Nat) (cB cC cI cJ cZ cT : ClassId) (x0 : Int32) (o : Bool) (hf : f_X3_isNumberWay x0 = some o) : Met l yX3_isNumberWay wsX3_isNumberWay rm_X3_isNumberWay (va_Pc [.int x0] (fun _ => True)) (vp_Si (fun r => b2i o = r)) 0 0 (fun _ => False) := by
  refine Met.ofW (cc := cX3_isNumberWay) (maxL := 1) (ret := (some .boolean)) (by decide +kernel) rfl ?_
  intro p e s m args below meth c s₁ B hml hv
  obtain ⟨hav, -⟩ := hv
  have hx := B.exec
  have hb := B.bytes
  have hr := B.returns
  have hts := atoms_spec (ws := wsX3_isNumberWay) B.pre
  have hown : s.vm.findClass RX3 = some m.cls := findClass_of_methodNamed B.named
  have hlocks := B.notSynchronized
  refine wstart (rm := rm_X3_isNumberWay) hav (Nat.le_of_ble_eq_true rfl) (fun QQ ls hQQ hl => ?_)
  have hl : lv_has ls 1 [(0, .int x0)] := hl
  have h := hf
  unfold f_X3_isNumberWay at h
  refine lv_iload_n hx hb dX3_isNumberWay_0 rfl (lv_at hl 0 rfl) ?_
  refine lv_if_lt (tgt := 14) hx hb dX3_isNumberWay_1 (by decide) (fun c_1675 => ?_) (fun c_1675 => ?_)
  · replace h := op c_1675 h
    refine lv_iconst (v := 0) hx hb dX3_isNumberWay_14 (by decide) ?_
    rw [hQQ]
    exact W.zret hx hb hr rfl (fun t ht hW => ⟨_, rfl, (congrArg b2i (Option.some.inj h).symm), ht⟩) (fun q hq => absurd hq List.not_mem_nil) dX3_isNumberWay_15
  · replace h := on c_1675 h
    refine lv_iload_n hx hb dX3_isNumberWay_4 rfl (lv_at hl 0 rfl) ?_
    refine lv_bipush (v := 7) hx hb dX3_isNumberWay_5 (by decide) ?_
    refine lv_icmp_gt (tgt := 14) hx hb dX3_isNumberWay_7 (by decide) (fun c_1676 => ?_) (fun c_1676 => ?_)
    · replace h := op c_1676 h
      refine lv_iconst (v := 0) hx hb dX3_isNumberWay_14 (by decide) ?_
      rw [hQQ]
      exact W.zret hx hb hr rfl (fun t ht hW => ⟨_, rfl, (congrArg b2i (Option.some.inj h).symm), ht⟩) (fun q hq => absurd hq List.not_mem_nil) dX3_isNumberWay_15
    · replace h := on c_1676 h
      refine lv_iconst (v := 1) hx hb dX3_isNumberWay_10 (by decide) ?_
      refine lv_goto (tgt := 15) hx hb dX3_isNumberWay_11 (by decide) ?_
      rw [hQQ]
      exact W.zret hx hb hr rfl (fun t ht hW => ⟨_, rfl, (congrArg b2i (Option.some.inj h).symm), ht⟩) (fun q hq => absurd hq List.not_mem_nil) dX3_isNumberWay_15
def f_X3_puts (x0 : Int32) : Option Bool :=
  ((f_X3_isNumberWay x0).bind (fun o_1677 => (if (b2i o_1677) = 0 then (if x0 < (10 : Int32) then (some false) else (if (21 : Int32) < x0 then (some false) else (some true))) else (some true))))
abbrev rm_X3_puts : Room := { frames := 1, cells := 0, slots := 0, locals := 20 }
set_option maxHeartbeats 4000000 in
set_option maxRecDepth 100000 in
theorem c_X3_puts (l : Launch) (dC : Nat → ClassId) (dI : Nat → Nat → Nat) (cB cC cI cJ cZ cT : ClassId) (x0 : Int32) (o : Bool) (hf : f_X3_puts x0 = some o) : Met l yX3_puts wsX3_puts rm_X3_puts (va_Pc [.int x0] (fun _ => True)) (vp_Si (fun r => b2i o = r)) 0 0 (fun _ => False) := by
  refine Met.ofW (cc := cX3_puts) (maxL := 1) (ret := (some .boolean)) (by decide +kernel) rfl ?_
  intro p e s m args below meth c s₁ B hml hv
  obtain ⟨hav, -⟩ := hv
  have hx := B.exec
  have hb := B.bytes
  have hr := B.returns
  have hts := atoms_spec (ws := wsX3_puts) B.pre
  have hown : s.vm.findClass RX3 = some m.cls := findClass_of_methodNamed B.named
  have hlocks := B.notSynchronized
  refine wstart (rm := rm_X3_puts) hav (Nat.le_of_ble_eq_true rfl) (fun QQ ls hQQ hl => ?_)
  have hl : lv_has ls 1 [(0, .int x0)] := hl
  have h := hf
  unfold f_X3_puts at h
  refine lv_iload_n hx hb dX3_puts_0 rfl (lv_at hl 0 rfl) ?_
  obtain ⟨o_1677, hr_1677, h⟩ := ob h
  refine vp_callSi (va_Run.run (va_runS (As := [.int x0]) (rest := []) ⟨hx, hb, hml, hown, hts⟩ (c_X3_isNumberWay l dC dI cB cC cI cJ cZ cT x0 o_1677 hr_1677) (va_cwS 1 hts gX3_puts_X3_isNumberWay rfl rfl rfl (by decide +kernel) ⟨Nat.le_of_ble_eq_true rfl, Nat.le_of_ble_eq_true rfl⟩) ⟨blT, fun U hU hW => ⟨rfl, trivial⟩⟩ rfl rfl hl.1 rfl (lv_room (Nat.le_of_ble_eq_true rfl)) dX3_puts_1 ⟨Nat.le_of_ble_eq_true rfl, Nat.le_of_ble_eq_true rfl⟩)) (fun r_1677 e_1677 => ?_)
  subst e_1677
  refine lv_if_ne (tgt := 19) hx hb dX3_puts_4 (by decide) (fun c_1679 => ?_) (fun c_1679 => ?_)
  · replace h := on c_1679 h
    refine lv_iconst (v := 1) hx hb dX3_puts_19 (by decide) ?_
    refine lv_goto (tgt := 24) hx hb dX3_puts_20 (by decide) ?_
    rw [hQQ]
    exact W.zret hx hb hr rfl (fun t ht hW => ⟨_, rfl, (congrArg b2i (Option.some.inj h).symm), ht⟩) (fun q hq => absurd hq List.not_mem_nil) dX3_puts_24
  · replace h := op c_1679 h
    refine lv_iload_n hx hb dX3_puts_7 rfl (lv_at hl 0 rfl) ?_
    refine lv_bipush (v := 10) hx hb dX3_puts_8 (by decide) ?_
    refine lv_icmp_lt (tgt := 23) hx hb dX3_puts_10 (by decide) (fun c_1680 => ?_) (fun c_1680 => ?_)
    · replace h := op c_1680 h
      refine lv_iconst (v := 0) hx hb dX3_puts_23 (by decide) ?_
      rw [hQQ]
      exact W.zret hx hb hr rfl (fun t ht hW => ⟨_, rfl, (congrArg b2i (Option.some.inj h).symm), ht⟩) (fun q hq => absurd hq List.not_mem_nil) dX3_puts_24
    · replace h := on c_1680 h
      refine lv_iload_n hx hb dX3_puts_13 rfl (lv_at hl 0 rfl) ?_
      refine lv_bipush (v := 21) hx hb dX3_puts_14 (by decide) ?_
      refine lv_icmp_gt (tgt := 23) hx hb dX3_puts_16 (by decide) (fun c_1681 => ?_) (fun c_1681 => ?_)
      · replace h := op c_1681 h
        refine lv_iconst (v := 0) hx hb dX3_puts_23 (by decide) ?_
        rw [hQQ]
        exact W.zret hx hb hr rfl (fun t ht hW => ⟨_, rfl, (congrArg b2i (Option.some.inj h).symm), ht⟩) (fun q hq => absurd hq List.not_mem_nil) dX3_puts_24
      · replace h := on c_1681 h
        refine lv_iconst (v := 1) hx hb dX3_puts_19 (by decide) ?_
        refine lv_goto (tgt := 24) hx hb dX3_puts_20 (by decide) ?_
        rw [hQQ]
        exact W.zret hx hb hr rfl (fun t ht hW => ⟨_, rfl, (congrArg b2i (Option.some.inj h).symm), ht⟩) (fun q hq => absurd hq List.not_mem_nil) dX3_puts_24
def f_X3_takes (x0 : Int32) : Option Bool :=
  ((f_X3_isNumberWay x0).bind (fun o_1682 => (if (b2i o_1682) = 0 then (if x0 = (10 : Int32) then (some true) else (some false)) else (some true))))
abbrev rm_X3_takes : Room := { frames := 1, cells := 0, slots := 0, locals := 20 }
set_option maxHeartbeats 4000000 in
set_option maxRecDepth 100000 in
theorem c_X3_takes (l : Launch) (dC : Nat → ClassId) (dI : Nat → Nat → Nat) (cB cC cI cJ cZ cT : ClassId) (x0 : Int32) (o : Bool) (hf : f_X3_takes x0 = some o) : Met l yX3_takes wsX3_takes rm_X3_takes (va_Pc [.int x0] (fun _ => True)) (vp_Si (fun r => b2i o = r)) 0 0 (fun _ => False) := by
  refine Met.ofW (cc := cX3_takes) (maxL := 1) (ret := (some .boolean)) (by decide +kernel) rfl ?_
  intro p e s m args below meth c s₁ B hml hv
  obtain ⟨hav, -⟩ := hv
  have hx := B.exec
  have hb := B.bytes
  have hr := B.returns
  have hts := atoms_spec (ws := wsX3_takes) B.pre
  have hown : s.vm.findClass RX3 = some m.cls := findClass_of_methodNamed B.named
  have hlocks := B.notSynchronized
  refine wstart (rm := rm_X3_takes) hav (Nat.le_of_ble_eq_true rfl) (fun QQ ls hQQ hl => ?_)
  have hl : lv_has ls 1 [(0, .int x0)] := hl
  have h := hf
  unfold f_X3_takes at h
  refine lv_iload_n hx hb dX3_takes_0 rfl (lv_at hl 0 rfl) ?_
  obtain ⟨o_1682, hr_1682, h⟩ := ob h
  refine vp_callSi (va_Run.run (va_runS (As := [.int x0]) (rest := []) ⟨hx, hb, hml, hown, hts⟩ (c_X3_isNumberWay l dC dI cB cC cI cJ cZ cT x0 o_1682 hr_1682) (va_cwS 1 hts gX3_takes_X3_isNumberWay rfl rfl rfl (by decide +kernel) ⟨Nat.le_of_ble_eq_true rfl, Nat.le_of_ble_eq_true rfl⟩) ⟨blT, fun U hU hW => ⟨rfl, trivial⟩⟩ rfl rfl hl.1 rfl (lv_room (Nat.le_of_ble_eq_true rfl)) dX3_takes_1 ⟨Nat.le_of_ble_eq_true rfl, Nat.le_of_ble_eq_true rfl⟩)) (fun r_1682 e_1682 => ?_)
  subst e_1682
  refine lv_if_ne (tgt := 13) hx hb dX3_takes_4 (by decide) (fun c_1684 => ?_) (fun c_1684 => ?_)
  · replace h := on c_1684 h
    refine lv_iconst (v := 1) hx hb dX3_takes_13 (by decide) ?_
    refine lv_goto (tgt := 18) hx hb dX3_takes_14 (by decide) ?_
    rw [hQQ]
    exact W.zret hx hb hr rfl (fun t ht hW => ⟨_, rfl, (congrArg b2i (Option.some.inj h).symm), ht⟩) (fun q hq => absurd hq List.not_mem_nil) dX3_takes_18
  · replace h := op c_1684 h
    refine lv_iload_n hx hb dX3_takes_7 rfl (lv_at hl 0 rfl) ?_
    refine lv_bipush (v := 10) hx hb dX3_takes_8 (by decide) ?_
    refine lv_icmp_ne (tgt := 17) hx hb dX3_takes_10 (by decide) (fun c_1685 => ?_) (fun c_1685 => ?_)
    · replace h := on c_1685 h
      refine lv_iconst (v := 0) hx hb dX3_takes_17 (by decide) ?_
      rw [hQQ]
      exact W.zret hx hb hr rfl (fun t ht hW => ⟨_, rfl, (congrArg b2i (Option.some.inj h).symm), ht⟩) (fun q hq => absurd hq List.not_mem_nil) dX3_takes_18
    · replace h := op c_1685 h
      refine lv_iconst (v := 1) hx hb dX3_takes_13 (by decide) ?_
      refine lv_goto (tgt := 18) hx hb dX3_takes_14 (by decide) ?_
      rw [hQQ]
      exact W.zret hx hb hr rfl (fun t ht hW => ⟨_, rfl, (congrArg b2i (Option.some.inj h).symm), ht⟩) (fun q hq => absurd hq List.not_mem_nil) dX3_takes_18
def f_X3_mayBeNothing (x0 : Int32) : Option Bool :=
  (if x0 < (8 : Int32) then (some false) else (if (10 : Int32) < x0 then (some false) else (some true)))
abbrev rm_X3_mayBeNothing : Room := { frames := 0, cells := 0, slots := 0, locals := 0 }
set_option maxHeartbeats 4000000 in
set_option maxRecDepth 100000 in
theorem c_X3_mayBeNothing (l : Launch) (dC : Nat → ClassId) (dI : Nat → Nat → Nat) (cB cC cI cJ cZ cT : ClassId) (x0 : Int32) (o : Bool) (hf : f_X3_mayBeNothing x0 = some o) : Met l yX3_mayBeNothing wsX3_mayBeNothing rm_X3_mayBeNothing (va_Pc [.int x0] (fun _ => True)) (vp_Si (fun r => b2i o = r)) 0 0 (fun _ => False) := by
  refine Met.ofW (cc := cX3_mayBeNothing) (maxL := 1) (ret := (some .boolean)) (by decide +kernel) rfl ?_
  intro p e s m args below meth c s₁ B hml hv
  obtain ⟨hav, -⟩ := hv
  have hx := B.exec
  have hb := B.bytes
  have hr := B.returns
  have hts := atoms_spec (ws := wsX3_mayBeNothing) B.pre
  have hown : s.vm.findClass RX3 = some m.cls := findClass_of_methodNamed B.named
  have hlocks := B.notSynchronized
  refine wstart (rm := rm_X3_mayBeNothing) hav (Nat.le_of_ble_eq_true rfl) (fun QQ ls hQQ hl => ?_)
  have hl : lv_has ls 1 [(0, .int x0)] := hl
  have h := hf
  unfold f_X3_mayBeNothing at h
  refine lv_iload_n hx hb dX3_mayBeNothing_0 rfl (lv_at hl 0 rfl) ?_
  refine lv_bipush (v := 8) hx hb dX3_mayBeNothing_1 (by decide) ?_
  refine lv_icmp_lt (tgt := 16) hx hb dX3_mayBeNothing_3 (by decide) (fun c_1686 => ?_) (fun c_1686 => ?_)
  · replace h := op c_1686 h
    refine lv_iconst (v := 0) hx hb dX3_mayBeNothing_16 (by decide) ?_
    rw [hQQ]
    exact W.zret hx hb hr rfl (fun t ht hW => ⟨_, rfl, (congrArg b2i (Option.some.inj h).symm), ht⟩) (fun q hq => absurd hq List.not_mem_nil) dX3_mayBeNothing_17
  · replace h := on c_1686 h
    refine lv_iload_n hx hb dX3_mayBeNothing_6 rfl (lv_at hl 0 rfl) ?_
    refine lv_bipush (v := 10) hx hb dX3_mayBeNothing_7 (by decide) ?_
    refine lv_icmp_gt (tgt := 16) hx hb dX3_mayBeNothing_9 (by decide) (fun c_1687 => ?_) (fun c_1687 => ?_)
    · replace h := op c_1687 h
      refine lv_iconst (v := 0) hx hb dX3_mayBeNothing_16 (by decide) ?_
      rw [hQQ]
      exact W.zret hx hb hr rfl (fun t ht hW => ⟨_, rfl, (congrArg b2i (Option.some.inj h).symm), ht⟩) (fun q hq => absurd hq List.not_mem_nil) dX3_mayBeNothing_17
    · replace h := on c_1687 h
      refine lv_iconst (v := 1) hx hb dX3_mayBeNothing_12 (by decide) ?_
      refine lv_goto (tgt := 17) hx hb dX3_mayBeNothing_13 (by decide) ?_
      rw [hQQ]
      exact W.zret hx hb hr rfl (fun t ht hW => ⟨_, rfl, (congrArg b2i (Option.some.inj h).symm), ht⟩) (fun q hq => absurd hq List.not_mem_nil) dX3_mayBeNothing_17
def f_X3_widens (x0 : Int32) (x1 : Int32) : Option Bool :=
  ((f_X3_isNumberWay x0).bind (fun o_1688 => (if (b2i o_1688) = 0 then (some false) else ((f_X3_isNumberWay x1).bind (fun o_1691 => (if (b2i o_1691) = 0 then (some false) else (if x0 < 0 ∨ 8 ≤ (x0).toNatClampNeg then none else (if (((wid (x0).toNatClampNeg) >>> (x1 &&& 31)) &&& (1 : Int32)) = 0 then (some false) else (some true)))))))))
abbrev rm_X3_widens : Room := { frames := 1, cells := 0, slots := 0, locals := 20 }
set_option maxHeartbeats 4000000 in
set_option maxRecDepth 100000 in
theorem c_X3_widens (l : Launch) (dC : Nat → ClassId) (dI : Nat → Nat → Nat) (cB cC cI cJ cZ cT : ClassId) (x0 : Int32) (x1 : Int32) (o : Bool) (hf : f_X3_widens x0 x1 = some o) : Met l yX3_widens wsX3_widens rm_X3_widens (va_Pc [.int x0, .int x1] (fun U => SX (fun _ => False) U U.heap)) (vp_Si (fun r => b2i o = r)) 0 0 (fun _ => False) := by
  refine Met.ofW (cc := cX3_widens) (maxL := 2) (ret := (some .boolean)) (by decide +kernel) rfl ?_
  intro p e s m args below meth c s₁ B hml hv
  obtain ⟨hav, hX⟩ := hv
  have hx := B.exec
  have hb := B.bytes
  have hr := B.returns
  have hts := atoms_spec (ws := wsX3_widens) B.pre
  have hown : s.vm.findClass RX3 = some m.cls := findClass_of_methodNamed B.named
  have hlocks := B.notSynchronized
  have hS : va_S (fun _ => False) s.heap s.heap [] := va_S.rf
  obtain ⟨⟨tM, hZM, hTM⟩, ⟨tC, hZC, hTC⟩, -, -⟩ := id hX
  refine wstart (rm := rm_X3_widens) hav (Nat.le_of_ble_eq_true rfl) (fun QQ ls hQQ hl => ?_)
  have hl : lv_has ls 2 [(0, .int x0), (1, .int x1)] := hl
  have h := hf
  unfold f_X3_widens at h
  refine lv_iload_n hx hb dX3_widens_0 rfl (lv_at hl 0 rfl) ?_
  obtain ⟨o_1688, hr_1688, h⟩ := ob h
  refine vp_callSi (va_Run.run (va_runS (As := [.int x0]) (rest := []) ⟨hx, hb, hml, hown, hts⟩ (c_X3_isNumberWay l dC dI cB cC cI cJ cZ cT x0 o_1688 hr_1688) (va_cwS 1 hts gX3_widens_X3_isNumberWay rfl rfl rfl (by decide +kernel) ⟨Nat.le_of_ble_eq_true rfl, Nat.le_of_ble_eq_true rfl⟩) ⟨blT, fun U hU hW => ⟨rfl, trivial⟩⟩ rfl rfl hl.1 rfl (lv_room (Nat.le_of_ble_eq_true rfl)) dX3_widens_1 ⟨Nat.le_of_ble_eq_true rfl, Nat.le_of_ble_eq_true rfl⟩)) (fun r_1688 e_1688 => ?_)
  subst e_1688
  refine lv_if_eq (tgt := 30) hx hb dX3_widens_4 (by decide) (fun c_1690 => ?_) (fun c_1690 => ?_)
  · replace h := op c_1690 h
    refine lv_iconst (v := 0) hx hb dX3_widens_30 (by decide) ?_
    rw [hQQ]
    exact W.zret hx hb hr rfl (fun t ht hW => ⟨_, rfl, (congrArg b2i (Option.some.inj h).symm), ht⟩) (fun q hq => absurd hq List.not_mem_nil) dX3_widens_31
  · replace h := on c_1690 h
    refine lv_iload_n hx hb dX3_widens_7 rfl (lv_at hl 1 rfl) ?_
    obtain ⟨o_1691, hr_1691, h⟩ := ob h
    refine vp_callSi (va_Run.run (va_runS (As := [.int x1]) (rest := []) ⟨hx, hb, hml, hown, hts⟩ (c_X3_isNumberWay l dC dI cB cC cI cJ cZ cT x1 o_1691 hr_1691) (va_cwS 1 hts gX3_widens_X3_isNumberWay rfl rfl rfl (by decide +kernel) ⟨Nat.le_of_ble_eq_true rfl, Nat.le_of_ble_eq_true rfl⟩) ⟨blT, fun U hU hW => ⟨rfl, trivial⟩⟩ rfl rfl hl.1 rfl (lv_room (Nat.le_of_ble_eq_true rfl)) dX3_widens_8 ⟨Nat.le_of_ble_eq_true rfl, Nat.le_of_ble_eq_true rfl⟩)) (fun r_1691 e_1691 => ?_)
    subst e_1691
    refine lv_if_eq (tgt := 30) hx hb dX3_widens_11 (by decide) (fun c_1693 => ?_) (fun c_1693 => ?_)
    · replace h := op c_1693 h
      refine lv_iconst (v := 0) hx hb dX3_widens_30 (by decide) ?_
      rw [hQQ]
      exact W.zret hx hb hr rfl (fun t ht hW => ⟨_, rfl, (congrArg b2i (Option.some.inj h).symm), ht⟩) (fun q hq => absurd hq List.not_mem_nil) dX3_widens_31
    · replace h := on c_1693 h
      refine va_gets hx hb hZC hS hown (hts _ (List.mem_of_getElem? (i := 1) rfl)) (fun _ h9 => h9) dX3_widens_14 ?_
      refine lv_iload_n hx hb dX3_widens_17 rfl (lv_at hl 0 rfl) ?_
      obtain ⟨hi_1694, h⟩ := og h
      refine va_ti (v := .int (wid (x0).toNatClampNeg)) hx hb hTC hS hi_1694 rfl dX3_widens_18 ?_
      refine lv_iload_n hx hb dX3_widens_19 rfl (lv_at hl 1 rfl) ?_
      refine lv_ishr hx hb dX3_widens_20 ?_
      refine lv_iconst (v := 1) hx hb dX3_widens_21 (by decide) ?_
      refine lv_iand hx hb dX3_widens_22 ?_
      refine lv_if_eq (tgt := 30) hx hb dX3_widens_23 (by decide) (fun c_1695 => ?_) (fun c_1695 => ?_)
      · replace h := op c_1695 h
        refine lv_iconst (v := 0) hx hb dX3_widens_30 (by decide) ?_
        rw [hQQ]
        exact W.zret hx hb hr rfl (fun t ht hW => ⟨_, rfl, (congrArg b2i (Option.some.inj h).symm), ht⟩) (fun q hq => absurd hq List.not_mem_nil) dX3_widens_31
      · replace h := on c_1695 h
        refine lv_iconst (v := 1) hx hb dX3_widens_26 (by decide) ?_
        refine lv_goto (tgt := 31) hx hb dX3_widens_27 (by decide) ?_
        rw [hQQ]
        exact W.zret hx hb hr rfl (fun t ht hW => ⟨_, rfl, (congrArg b2i (Option.some.inj h).symm), ht⟩) (fun q hq => absurd hq List.not_mem_nil) dX3_widens_31
def f_X3_toldKind (x0 : Int32) : Option Int32 :=
  (if x0 = 18 then (some (4 : Int32)) else (if x0 = 19 then (some (9 : Int32)) else (if x0 = 20 then (some (10 : Int32)) else (if x0 = 21 then (some (14 : Int32)) else (if x0 < (10 : Int32) then (some x0) else (some (x0 - (10 : Int32))))))))
abbrev rm_X3_toldKind : Room := { frames := 0, cells := 0, slots := 0, locals := 0 }
set_option maxHeartbeats 4000000 in
set_option maxRecDepth 100000 in
theorem c_X3_toldKind (l : Launch) (dC : Nat → ClassId) (dI : Nat → Nat → Nat) (cB cC cI cJ cZ cT : ClassId) (x0 : Int32) (o : Int32) (hf : f_X3_toldKind x0 = some o) : Met l yX3_toldKind wsX3_toldKind rm_X3_toldKind (va_Pc [.int x0] (fun _ => True)) (vp_Si (fun r => o = r)) 0 0 (fun _ => False) := by
  refine Met.ofW (cc := cX3_toldKind) (maxL := 1) (ret := (some .int)) (by decide +kernel) rfl ?_
  intro p e s m args below meth c s₁ B hml hv
  obtain ⟨hav, -⟩ := hv
  have hx := B.exec
  have hb := B.bytes
  have hr := B.returns
  have hts := atoms_spec (ws := wsX3_toldKind) B.pre
  have hown : s.vm.findClass RX3 = some m.cls := findClass_of_methodNamed B.named
  have hlocks := B.notSynchronized
  refine wstart (rm := rm_X3_toldKind) hav (Nat.le_of_ble_eq_true rfl) (fun QQ ls hQQ hl => ?_)
  have hl : lv_has ls 1 [(0, .int x0)] := hl
  have h := hf
  unfold f_X3_toldKind at h
  refine lv_iload_n hx hb dX3_toldKind_0 rfl (lv_at hl 0 rfl) ?_
  by_cases c_1696 : x0 = 18
  · replace h := op c_1696 h
    refine lv_tableIn (off := 31) (tgt := 32) hx hb dX3_toldKind_1 (by rw [c_1696]; decide) (by rw [c_1696]; decide) (by rw [c_1696]; rfl) (by decide) ?_
    refine lv_iconst (v := 4) hx hb dX3_toldKind_32 (by decide) ?_
    rw [hQQ]
    exact W.iret hx hb hr (fun t ht hW => ⟨_, rfl, (Option.some.inj h).symm, ht⟩) (fun q hq => absurd hq List.not_mem_nil) dX3_toldKind_33
  replace h := on c_1696 h
  by_cases c_1697 : x0 = 19
  · replace h := op c_1697 h
    refine lv_tableIn (off := 33) (tgt := 34) hx hb dX3_toldKind_1 (by rw [c_1697]; decide) (by rw [c_1697]; decide) (by rw [c_1697]; rfl) (by decide) ?_
    refine lv_bipush (v := 9) hx hb dX3_toldKind_34 (by decide) ?_
    rw [hQQ]
    exact W.iret hx hb hr (fun t ht hW => ⟨_, rfl, (Option.some.inj h).symm, ht⟩) (fun q hq => absurd hq List.not_mem_nil) dX3_toldKind_36
  replace h := on c_1697 h
  by_cases c_1698 : x0 = 20
  · replace h := op c_1698 h
    refine lv_tableIn (off := 36) (tgt := 37) hx hb dX3_toldKind_1 (by rw [c_1698]; decide) (by rw [c_1698]; decide) (by rw [c_1698]; rfl) (by decide) ?_
    refine lv_bipush (v := 10) hx hb dX3_toldKind_37 (by decide) ?_
    rw [hQQ]
    exact W.iret hx hb hr (fun t ht hW => ⟨_, rfl, (Option.some.inj h).symm, ht⟩) (fun q hq => absurd hq List.not_mem_nil) dX3_toldKind_39
  replace h := on c_1698 h
  by_cases c_1699 : x0 = 21
  · replace h := op c_1699 h
    refine lv_tableIn (off := 39) (tgt := 40) hx hb dX3_toldKind_1 (by rw [c_1699]; decide) (by rw [c_1699]; decide) (by rw [c_1699]; rfl) (by decide) ?_
    refine lv_bipush (v := 14) hx hb dX3_toldKind_40 (by decide) ?_
    rw [hQQ]
    exact W.iret hx hb hr (fun t ht hW => ⟨_, rfl, (Option.some.inj h).symm, ht⟩) (fun q hq => absurd hq List.not_mem_nil) dX3_toldKind_42
  replace h := on c_1699 h
  have ct_1696 : (x0).toInt < 18 ∨ 21 < (x0).toInt := by
    have q_1696 := i32_ne c_1696
    have q_1697 := i32_ne c_1697
    have q_1698 := i32_ne c_1698
    have q_1699 := i32_ne c_1699
    have z_1696 : ((18 : Int32)).toInt = 18 ∧ ((19 : Int32)).toInt = 19 ∧ ((20 : Int32)).toInt = 20 ∧ ((21 : Int32)).toInt = 21 := by decide
    omega
  refine lv_tableOut (tgt := 43) hx hb dX3_toldKind_1 ct_1696 (by decide) ?_
  refine lv_iload_n hx hb dX3_toldKind_43 rfl (lv_at hl 0 rfl) ?_
  refine lv_bipush (v := 10) hx hb dX3_toldKind_44 (by decide) ?_
  refine lv_icmp_lt (tgt := 56) hx hb dX3_toldKind_46 (by decide) (fun c_1700 => ?_) (fun c_1700 => ?_)
  · replace h := op c_1700 h
    refine lv_iload_n hx hb dX3_toldKind_56 rfl (lv_at hl 0 rfl) ?_
    rw [hQQ]
    exact W.iret hx hb hr (fun t ht hW => ⟨_, rfl, (Option.some.inj h).symm, ht⟩) (fun q hq => absurd hq List.not_mem_nil) dX3_toldKind_57
  · replace h := on c_1700 h
    refine lv_iload_n hx hb dX3_toldKind_49 rfl (lv_at hl 0 rfl) ?_
    refine lv_bipush (v := 10) hx hb dX3_toldKind_50 (by decide) ?_
    refine lv_isub hx hb dX3_toldKind_52 ?_
    refine lv_goto (tgt := 57) hx hb dX3_toldKind_53 (by decide) ?_
    rw [hQQ]
    exact W.iret hx hb hr (fun t ht hW => ⟨_, rfl, (Option.some.inj h).symm, ht⟩) (fun q hq => absurd hq List.not_mem_nil) dX3_toldKind_57
def f_X3_textNumber (x0 : Int32) : Option Int64 :=
  (some ((x0 - x0 / (26 : Int32) * (26 : Int32)) + ((26 : Int32) * ((x0 / (26 : Int32)) - (x0 / (26 : Int32)) / (3 : Int32) * (3 : Int32)))).toInt64)
abbrev rm_X3_textNumber : Room := { frames := 0, cells := 0, slots := 0, locals := 0 }
set_option maxHeartbeats 4000000 in
set_option maxRecDepth 100000 in
theorem c_X3_textNumber (l : Launch) (dC : Nat → ClassId) (dI : Nat → Nat → Nat) (cB cC cI cJ cZ cT : ClassId) (x0 : Int32) (o : Int64) (hf : f_X3_textNumber x0 = some o) : Met l yX3_textNumber wsX3_textNumber rm_X3_textNumber (va_Pc [.int x0] (fun _ => True)) (vp_Sl (fun r => o = r)) 0 0 (fun _ => False) := by
  refine Met.ofW (cc := cX3_textNumber) (maxL := 1) (ret := (some .long)) (by decide +kernel) rfl ?_
  intro p e s m args below meth c s₁ B hml hv
  obtain ⟨hav, -⟩ := hv
  have hx := B.exec
  have hb := B.bytes
  have hr := B.returns
  have hts := atoms_spec (ws := wsX3_textNumber) B.pre
  have hown : s.vm.findClass RX3 = some m.cls := findClass_of_methodNamed B.named
  have hlocks := B.notSynchronized
  refine wstart (rm := rm_X3_textNumber) hav (Nat.le_of_ble_eq_true rfl) (fun QQ ls hQQ hl => ?_)
  have hl : lv_has ls 1 [(0, .int x0)] := hl
  have h := hf
  unfold f_X3_textNumber at h
  refine lv_iload_n hx hb dX3_textNumber_0 rfl (lv_at hl 0 rfl) ?_
  refine lv_bipush (v := 26) hx hb dX3_textNumber_1 (by decide) ?_
  refine lv_irem hx hb dX3_textNumber_3 (by decide) ?_
  refine lv_bipush (v := 26) hx hb dX3_textNumber_4 (by decide) ?_
  refine lv_iload_n hx hb dX3_textNumber_6 rfl (lv_at hl 0 rfl) ?_
  refine lv_bipush (v := 26) hx hb dX3_textNumber_7 (by decide) ?_
  refine lv_idiv hx hb dX3_textNumber_9 (by decide) ?_
  refine lv_iconst (v := 3) hx hb dX3_textNumber_10 (by decide) ?_
  refine lv_irem hx hb dX3_textNumber_11 (by decide) ?_
  refine lv_imul hx hb dX3_textNumber_12 ?_
  refine lv_iadd hx hb dX3_textNumber_13 ?_
  refine lv_i2l (v := ((x0 - x0 / (26 : Int32) * (26 : Int32)) + ((26 : Int32) * ((x0 / (26 : Int32)) - (x0 / (26 : Int32)) / (3 : Int32) * (3 : Int32)))).toInt64) hx hb dX3_textNumber_14 rfl ?_
  rw [hQQ]
  exact W.lret hx hb hr (fun t ht hW => ⟨_, rfl, (Option.some.inj h).symm, ht⟩) (fun q hq => absurd hq List.not_mem_nil) dX3_textNumber_15
def f_X3_told (x0 : Int32) (x1 : Int32) : Option Int64 :=
  ((f_X3_toldKind x0).bind (fun o_1701 => (if o_1701 = 0 then (some (x1 &&& (1 : Int32)).toInt64) else (if o_1701 = 1 then (some (to_b x1).toInt64) else (if o_1701 = 2 then (some (to_c x1).toInt64) else (if o_1701 = 3 then (some (to_s x1).toInt64) else (if o_1701 = 4 then (some (x1).toInt64) else (if o_1701 = 5 then (some ((x1).toInt64 * (1000003 : Int64))) else (if o_1701 = 6 then ((f_X1_nearestFloat (x1).toInt64 (2 : Int32)).bind (fun o_1710 => (some o_1710))) else (if o_1701 = 7 then ((f_X1_nearestDouble (x1).toInt64 (3 : Int32)).bind (fun o_1713 => (some o_1713))) else (if o_1701 = 8 then (some (x1).toInt64) else (if o_1701 = 9 then ((f_X3_textNumber (x1 &&& (2147483647 : Int32))).bind (fun o_1717 => (some o_1717))) else (if o_1701 = 10 then (some (x1).toInt64) else (if o_1701 = 11 then (some (x1).toInt64) else (if o_1701 = 12 then (some (x1).toInt64) else (if o_1701 = 13 then (some (x1).toInt64) else (if o_1701 = 14 then (some (-9223372036854775808 : Int64)) else (some (x1).toInt64))))))))))))))))))
abbrev rm_X3_told : Room := { frames := 4, cells := 0, slots := 0, locals := 101 }
set_option maxHeartbeats 4000000 in
set_option maxRecDepth 100000 in
theorem c_X3_told (l : Launch) (dC : Nat → ClassId) (dI : Nat → Nat → Nat) (cB cC cI cJ cZ cT : ClassId) (x0 : Int32) (x1 : Int32) (o : Int64) (hf : f_X3_told x0 x1 = some o) : Met l yX3_told wsX3_told rm_X3_told (va_Pc [.int x0, .int x1] (fun _ => True)) (vp_Sl (fun r => o = r)) 0 0 (fun _ => False) := by
  refine Met.ofW (cc := cX3_told) (maxL := 2) (ret := (some .long)) (by decide +kernel) rfl ?_
  intro p e s m args below meth c s₁ B hml hv
  obtain ⟨hav, -⟩ := hv
  have hx := B.exec
  have hb := B.bytes
  have hr := B.returns
  have hts := atoms_spec (ws := wsX3_told) B.pre
  have hown : s.vm.findClass RX3 = some m.cls := findClass_of_methodNamed B.named
  have hlocks := B.notSynchronized
  refine wstart (rm := rm_X3_told) hav (Nat.le_of_ble_eq_true rfl) (fun QQ ls hQQ hl => ?_)
  have hl : lv_has ls 2 [(0, .int x0), (1, .int x1)] := hl
  have h := hf
  unfold f_X3_told at h
  refine lv_iload_n hx hb dX3_told_0 rfl (lv_at hl 0 rfl) ?_
  obtain ⟨o_1701, hr_1701, h⟩ := ob h
  refine vp_callSi (va_Run.run (va_runS (As := [.int x0]) (rest := []) ⟨hx, hb, hml, hown, hts⟩ (c_X3_toldKind l dC dI cB cC cI cJ cZ cT x0 o_1701 hr_1701) (va_cwS 1 hts gX3_told_X3_toldKind rfl rfl rfl (by decide +kernel) ⟨Nat.le_of_ble_eq_true rfl, Nat.le_of_ble_eq_true rfl⟩) ⟨blT, fun U hU hW => ⟨rfl, trivial⟩⟩ rfl rfl hl.1 rfl (lv_room (Nat.le_of_ble_eq_true rfl)) dX3_told_1 ⟨Nat.le_of_ble_eq_true rfl, Nat.le_of_ble_eq_true rfl⟩)) (fun r_1701 e_1701 => ?_)
  subst e_1701
  by_cases c_1703 : o_1701 = 0
  · replace h := op c_1703 h
    refine lv_tableIn (off := 76) (tgt := 80) hx hb dX3_told_4 (by rw [c_1703]; decide) (by rw [c_1703]; decide) (by rw [c_1703]; rfl) (by decide) ?_
    refine lv_iload_n hx hb dX3_told_80 rfl (lv_at hl 1 rfl) ?_
    refine lv_iconst (v := 1) hx hb dX3_told_81 (by decide) ?_
    refine lv_iand hx hb dX3_told_82 ?_
    refine lv_i2l (v := (x1 &&& (1 : Int32)).toInt64) hx hb dX3_told_83 rfl ?_
    rw [hQQ]
    exact W.lret hx hb hr (fun t ht hW => ⟨_, rfl, (Option.some.inj h).symm, ht⟩) (fun q hq => absurd hq List.not_mem_nil) dX3_told_84
  replace h := on c_1703 h
  by_cases c_1704 : o_1701 = 1
  · replace h := op c_1704 h
    refine lv_tableIn (off := 81) (tgt := 85) hx hb dX3_told_4 (by rw [c_1704]; decide) (by rw [c_1704]; decide) (by rw [c_1704]; rfl) (by decide) ?_
    refine lv_iload_n hx hb dX3_told_85 rfl (lv_at hl 1 rfl) ?_
    refine lv_i2b (v := (to_b x1)) hx hb dX3_told_86 rfl ?_
    refine lv_i2l (v := (to_b x1).toInt64) hx hb dX3_told_87 rfl ?_
    rw [hQQ]
    exact W.lret hx hb hr (fun t ht hW => ⟨_, rfl, (Option.some.inj h).symm, ht⟩) (fun q hq => absurd hq List.not_mem_nil) dX3_told_88
  replace h := on c_1704 h
  by_cases c_1705 : o_1701 = 2
  · replace h := op c_1705 h
    refine lv_tableIn (off := 85) (tgt := 89) hx hb dX3_told_4 (by rw [c_1705]; decide) (by rw [c_1705]; decide) (by rw [c_1705]; rfl) (by decide) ?_
    refine lv_iload_n hx hb dX3_told_89 rfl (lv_at hl 1 rfl) ?_
    refine lv_i2c (v := (to_c x1)) hx hb dX3_told_90 rfl ?_
    refine lv_i2l (v := (to_c x1).toInt64) hx hb dX3_told_91 rfl ?_
    rw [hQQ]
    exact W.lret hx hb hr (fun t ht hW => ⟨_, rfl, (Option.some.inj h).symm, ht⟩) (fun q hq => absurd hq List.not_mem_nil) dX3_told_92
  replace h := on c_1705 h
  by_cases c_1706 : o_1701 = 3
  · replace h := op c_1706 h
    refine lv_tableIn (off := 89) (tgt := 93) hx hb dX3_told_4 (by rw [c_1706]; decide) (by rw [c_1706]; decide) (by rw [c_1706]; rfl) (by decide) ?_
    refine lv_iload_n hx hb dX3_told_93 rfl (lv_at hl 1 rfl) ?_
    refine lv_i2s (v := (to_s x1)) hx hb dX3_told_94 rfl ?_
    refine lv_i2l (v := (to_s x1).toInt64) hx hb dX3_told_95 rfl ?_
    rw [hQQ]
    exact W.lret hx hb hr (fun t ht hW => ⟨_, rfl, (Option.some.inj h).symm, ht⟩) (fun q hq => absurd hq List.not_mem_nil) dX3_told_96
  replace h := on c_1706 h
  by_cases c_1707 : o_1701 = 4
  · replace h := op c_1707 h
    refine lv_tableIn (off := 126) (tgt := 130) hx hb dX3_told_4 (by rw [c_1707]; decide) (by rw [c_1707]; decide) (by rw [c_1707]; rfl) (by decide) ?_
    refine lv_iload_n hx hb dX3_told_130 rfl (lv_at hl 1 rfl) ?_
    refine lv_i2l (v := (x1).toInt64) hx hb dX3_told_131 rfl ?_
    rw [hQQ]
    exact W.lret hx hb hr (fun t ht hW => ⟨_, rfl, (Option.some.inj h).symm, ht⟩) (fun q hq => absurd hq List.not_mem_nil) dX3_told_132
  replace h := on c_1707 h
  by_cases c_1708 : o_1701 = 5
  · replace h := op c_1708 h
    refine lv_tableIn (off := 93) (tgt := 97) hx hb dX3_told_4 (by rw [c_1708]; decide) (by rw [c_1708]; decide) (by rw [c_1708]; rfl) (by decide) ?_
    refine lv_iload_n hx hb dX3_told_97 rfl (lv_at hl 1 rfl) ?_
    refine lv_i2l (v := (x1).toInt64) hx hb dX3_told_98 rfl ?_
    refine lv_ldc2 (v := 1000003) hx hb hown (hts _ (List.mem_of_getElem? (i := 1) rfl)) dX3_told_99 ?_
    refine lv_lmul hx hb dX3_told_102 ?_
    rw [hQQ]
    exact W.lret hx hb hr (fun t ht hW => ⟨_, rfl, (Option.some.inj h).symm, ht⟩) (fun q hq => absurd hq List.not_mem_nil) dX3_told_103
  replace h := on c_1708 h
  by_cases c_1709 : o_1701 = 6
  · replace h := op c_1709 h
    refine lv_tableIn (off := 100) (tgt := 104) hx hb dX3_told_4 (by rw [c_1709]; decide) (by rw [c_1709]; decide) (by rw [c_1709]; rfl) (by decide) ?_
    refine lv_iload_n hx hb dX3_told_104 rfl (lv_at hl 1 rfl) ?_
    refine lv_i2l (v := (x1).toInt64) hx hb dX3_told_105 rfl ?_
    refine lv_iconst (v := 2) hx hb dX3_told_106 (by decide) ?_
    obtain ⟨o_1710, hr_1710, h⟩ := ob h
    refine vp_callSl (va_Run.run (va_runS (As := [.long (x1).toInt64, .int (2 : Int32)]) (rest := []) ⟨hx, hb, hml, hown, hts⟩ (c_X1_nearestFloat l dC dI cB cC cI cJ cZ cT (x1).toInt64 (2 : Int32) o_1710 hr_1710) (va_cwS 2 hts gX3_told_X1_nearestFloat rfl rfl rfl (by decide +kernel) ⟨Nat.le_of_ble_eq_true rfl, Nat.le_of_ble_eq_true rfl⟩) ⟨blT, fun U hU hW => ⟨rfl, trivial⟩⟩ rfl rfl hl.1 rfl (lv_room (Nat.le_of_ble_eq_true rfl)) dX3_told_107 ⟨Nat.le_of_ble_eq_true rfl, Nat.le_of_ble_eq_true rfl⟩)) (fun r_1710 e_1710 => ?_)
    subst e_1710
    rw [hQQ]
    exact W.lret hx hb hr (fun t ht hW => ⟨_, rfl, (Option.some.inj h).symm, ht⟩) (fun q hq => absurd hq List.not_mem_nil) dX3_told_110
  replace h := on c_1709 h
  by_cases c_1712 : o_1701 = 7
  · replace h := op c_1712 h
    refine lv_tableIn (off := 107) (tgt := 111) hx hb dX3_told_4 (by rw [c_1712]; decide) (by rw [c_1712]; decide) (by rw [c_1712]; rfl) (by decide) ?_
    refine lv_iload_n hx hb dX3_told_111 rfl (lv_at hl 1 rfl) ?_
    refine lv_i2l (v := (x1).toInt64) hx hb dX3_told_112 rfl ?_
    refine lv_iconst (v := 3) hx hb dX3_told_113 (by decide) ?_
    obtain ⟨o_1713, hr_1713, h⟩ := ob h
    refine vp_callSl (va_Run.run (va_runS (As := [.long (x1).toInt64, .int (3 : Int32)]) (rest := []) ⟨hx, hb, hml, hown, hts⟩ (c_X1_nearestDouble l dC dI cB cC cI cJ cZ cT (x1).toInt64 (3 : Int32) o_1713 hr_1713) (va_cwS 2 hts gX3_told_X1_nearestDouble rfl rfl rfl (by decide +kernel) ⟨Nat.le_of_ble_eq_true rfl, Nat.le_of_ble_eq_true rfl⟩) ⟨blT, fun U hU hW => ⟨rfl, trivial⟩⟩ rfl rfl hl.1 rfl (lv_room (Nat.le_of_ble_eq_true rfl)) dX3_told_114 ⟨Nat.le_of_ble_eq_true rfl, Nat.le_of_ble_eq_true rfl⟩)) (fun r_1713 e_1713 => ?_)
    subst e_1713
    rw [hQQ]
    exact W.lret hx hb hr (fun t ht hW => ⟨_, rfl, (Option.some.inj h).symm, ht⟩) (fun q hq => absurd hq List.not_mem_nil) dX3_told_117
  replace h := on c_1712 h
  by_cases c_1715 : o_1701 = 8
  · replace h := op c_1715 h
    refine lv_tableIn (off := 126) (tgt := 130) hx hb dX3_told_4 (by rw [c_1715]; decide) (by rw [c_1715]; decide) (by rw [c_1715]; rfl) (by decide) ?_
    refine lv_iload_n hx hb dX3_told_130 rfl (lv_at hl 1 rfl) ?_
    refine lv_i2l (v := (x1).toInt64) hx hb dX3_told_131 rfl ?_
    rw [hQQ]
    exact W.lret hx hb hr (fun t ht hW => ⟨_, rfl, (Option.some.inj h).symm, ht⟩) (fun q hq => absurd hq List.not_mem_nil) dX3_told_132
  replace h := on c_1715 h
  by_cases c_1716 : o_1701 = 9
  · replace h := op c_1716 h
    refine lv_tableIn (off := 114) (tgt := 118) hx hb dX3_told_4 (by rw [c_1716]; decide) (by rw [c_1716]; decide) (by rw [c_1716]; rfl) (by decide) ?_
    refine lv_iload_n hx hb dX3_told_118 rfl (lv_at hl 1 rfl) ?_
    refine lv_ldc (v := 2147483647) hx hb hown (hts _ (List.mem_of_getElem? (i := 2) rfl)) dX3_told_119 ?_
    refine lv_iand hx hb dX3_told_121 ?_
    obtain ⟨o_1717, hr_1717, h⟩ := ob h
    refine vp_callSl (va_Run.run (va_runS (As := [.int (x1 &&& (2147483647 : Int32))]) (rest := []) ⟨hx, hb, hml, hown, hts⟩ (c_X3_textNumber l dC dI cB cC cI cJ cZ cT (x1 &&& (2147483647 : Int32)) o_1717 hr_1717) (va_cwS 1 hts gX3_told_X3_textNumber rfl rfl rfl (by decide +kernel) ⟨Nat.le_of_ble_eq_true rfl, Nat.le_of_ble_eq_true rfl⟩) ⟨blT, fun U hU hW => ⟨rfl, trivial⟩⟩ rfl rfl hl.1 rfl (lv_room (Nat.le_of_ble_eq_true rfl)) dX3_told_122 ⟨Nat.le_of_ble_eq_true rfl, Nat.le_of_ble_eq_true rfl⟩)) (fun r_1717 e_1717 => ?_)
    subst e_1717
    rw [hQQ]
    exact W.lret hx hb hr (fun t ht hW => ⟨_, rfl, (Option.some.inj h).symm, ht⟩) (fun q hq => absurd hq List.not_mem_nil) dX3_told_125
  replace h := on c_1716 h
  by_cases c_1719 : o_1701 = 10
  · replace h := op c_1719 h
    refine lv_tableIn (off := 126) (tgt := 130) hx hb dX3_told_4 (by rw [c_1719]; decide) (by rw [c_1719]; decide) (by rw [c_1719]; rfl) (by decide) ?_
    refine lv_iload_n hx hb dX3_told_130 rfl (lv_at hl 1 rfl) ?_
    refine lv_i2l (v := (x1).toInt64) hx hb dX3_told_131 rfl ?_
    rw [hQQ]
    exact W.lret hx hb hr (fun t ht hW => ⟨_, rfl, (Option.some.inj h).symm, ht⟩) (fun q hq => absurd hq List.not_mem_nil) dX3_told_132
  replace h := on c_1719 h
  by_cases c_1720 : o_1701 = 11
  · replace h := op c_1720 h
    refine lv_tableIn (off := 126) (tgt := 130) hx hb dX3_told_4 (by rw [c_1720]; decide) (by rw [c_1720]; decide) (by rw [c_1720]; rfl) (by decide) ?_
    refine lv_iload_n hx hb dX3_told_130 rfl (lv_at hl 1 rfl) ?_
    refine lv_i2l (v := (x1).toInt64) hx hb dX3_told_131 rfl ?_
    rw [hQQ]
    exact W.lret hx hb hr (fun t ht hW => ⟨_, rfl, (Option.some.inj h).symm, ht⟩) (fun q hq => absurd hq List.not_mem_nil) dX3_told_132
  replace h := on c_1720 h
  by_cases c_1721 : o_1701 = 12
  · replace h := op c_1721 h
    refine lv_tableIn (off := 126) (tgt := 130) hx hb dX3_told_4 (by rw [c_1721]; decide) (by rw [c_1721]; decide) (by rw [c_1721]; rfl) (by decide) ?_
    refine lv_iload_n hx hb dX3_told_130 rfl (lv_at hl 1 rfl) ?_
    refine lv_i2l (v := (x1).toInt64) hx hb dX3_told_131 rfl ?_
    rw [hQQ]
    exact W.lret hx hb hr (fun t ht hW => ⟨_, rfl, (Option.some.inj h).symm, ht⟩) (fun q hq => absurd hq List.not_mem_nil) dX3_told_132
  replace h := on c_1721 h
  by_cases c_1722 : o_1701 = 13
  · replace h := op c_1722 h
    refine lv_tableIn (off := 126) (tgt := 130) hx hb dX3_told_4 (by rw [c_1722]; decide) (by rw [c_1722]; decide) (by rw [c_1722]; rfl) (by decide) ?_
    refine lv_iload_n hx hb dX3_told_130 rfl (lv_at hl 1 rfl) ?_
    refine lv_i2l (v := (x1).toInt64) hx hb dX3_told_131 rfl ?_
    rw [hQQ]
    exact W.lret hx hb hr (fun t ht hW => ⟨_, rfl, (Option.some.inj h).symm, ht⟩) (fun q hq => absurd hq List.not_mem_nil) dX3_told_132
  replace h := on c_1722 h
  by_cases c_1723 : o_1701 = 14
  · replace h := op c_1723 h
    refine lv_tableIn (off := 122) (tgt := 126) hx hb dX3_told_4 (by rw [c_1723]; decide) (by rw [c_1723]; decide) (by rw [c_1723]; rfl) (by decide) ?_
    refine lv_ldc2 (v := -9223372036854775808) hx hb hown (hts _ (List.mem_of_getElem? (i := 3) rfl)) dX3_told_126 ?_
    rw [hQQ]
    exact W.lret hx hb hr (fun t ht hW => ⟨_, rfl, (Option.some.inj h).symm, ht⟩) (fun q hq => absurd hq List.not_mem_nil) dX3_told_129
  replace h := on c_1723 h
  have ct_1703 : (o_1701).toInt < 0 ∨ 14 < (o_1701).toInt := by
    have q_1703 := i32_ne c_1703
    have q_1704 := i32_ne c_1704
    have q_1705 := i32_ne c_1705
    have q_1706 := i32_ne c_1706
    have q_1707 := i32_ne c_1707
    have q_1708 := i32_ne c_1708
    have q_1709 := i32_ne c_1709
    have q_1712 := i32_ne c_1712
    have q_1715 := i32_ne c_1715
    have q_1716 := i32_ne c_1716
    have q_1719 := i32_ne c_1719
    have q_1720 := i32_ne c_1720
    have q_1721 := i32_ne c_1721
    have q_1722 := i32_ne c_1722
    have q_1723 := i32_ne c_1723
    have z_1703 : ((0 : Int32)).toInt = 0 ∧ ((1 : Int32)).toInt = 1 ∧ ((2 : Int32)).toInt = 2 ∧ ((3 : Int32)).toInt = 3 ∧ ((4 : Int32)).toInt = 4 ∧ ((5 : Int32)).toInt = 5 ∧ ((6 : Int32)).toInt = 6 ∧ ((7 : Int32)).toInt = 7 ∧ ((8 : Int32)).toInt = 8 ∧ ((9 : Int32)).toInt = 9 ∧ ((10 : Int32)).toInt = 10 ∧ ((11 : Int32)).toInt = 11 ∧ ((12 : Int32)).toInt = 12 ∧ ((13 : Int32)).toInt = 13 ∧ ((14 : Int32)).toInt = 14 := by decide
    omega
  refine lv_tableOut (tgt := 130) hx hb dX3_told_4 ct_1703 (by decide) ?_
  refine lv_iload_n hx hb dX3_told_130 rfl (lv_at hl 1 rfl) ?_
  refine lv_i2l (v := (x1).toInt64) hx hb dX3_told_131 rfl ?_
  rw [hQQ]
  exact W.lret hx hb hr (fun t ht hW => ⟨_, rfl, (Option.some.inj h).symm, ht⟩) (fun q hq => absurd hq List.not_mem_nil) dX3_told_132
def f_X3_fits (x0 : Int32) (x1 : Int32) : Option Bool :=
  (if (7 : Int32) < x1 then (if x0 = (14 : Int32) then (some true) else (if x1 = (8 : Int32) then (if x0 = (4 : Int32) then (some true) else (some false)) else (if x0 = x1 then (some true) else (some false)))) else ((f_X3_widens x0 x1).bind (fun o_1729 => (some o_1729))))
abbrev rm_X3_fits : Room := { frames := 2, cells := 0, slots := 0, locals := 41 }
set_option maxHeartbeats 4000000 in
set_option maxRecDepth 100000 in
theorem c_X3_fits (l : Launch) (dC : Nat → ClassId) (dI : Nat → Nat → Nat) (cB cC cI cJ cZ cT : ClassId) (x0 : Int32) (x1 : Int32) (o : Bool) (hf : f_X3_fits x0 x1 = some o) : Met l yX3_fits wsX3_fits rm_X3_fits (va_Pc [.int x0, .int x1] (fun U => SX (fun _ => False) U U.heap)) (vp_Si (fun r => b2i o = r)) 0 0 (fun _ => False) := by
  refine Met.ofW (cc := cX3_fits) (maxL := 2) (ret := (some .boolean)) (by decide +kernel) rfl ?_
  intro p e s m args below meth c s₁ B hml hv
  obtain ⟨hav, hX⟩ := hv
  have hx := B.exec
  have hb := B.bytes
  have hr := B.returns
  have hts := atoms_spec (ws := wsX3_fits) B.pre
  have hown : s.vm.findClass RX3 = some m.cls := findClass_of_methodNamed B.named
  have hlocks := B.notSynchronized
  have hS : va_S (fun _ => False) s.heap s.heap [] := va_S.rf
  refine wstart (rm := rm_X3_fits) hav (Nat.le_of_ble_eq_true rfl) (fun QQ ls hQQ hl => ?_)
  have hl : lv_has ls 2 [(0, .int x0), (1, .int x1)] := hl
  have h := hf
  unfold f_X3_fits at h
  refine lv_iload_n hx hb dX3_fits_0 rfl (lv_at hl 1 rfl) ?_
  refine lv_bipush (v := 7) hx hb dX3_fits_1 (by decide) ?_
  refine lv_icmp_gt (tgt := 12) hx hb dX3_fits_3 (by decide) (fun c_1724 => ?_) (fun c_1724 => ?_)
  · replace h := op c_1724 h
    refine lv_iload_n hx hb dX3_fits_12 rfl (lv_at hl 0 rfl) ?_
    refine lv_bipush (v := 14) hx hb dX3_fits_13 (by decide) ?_
    refine lv_icmp_ne (tgt := 20) hx hb dX3_fits_15 (by decide) (fun c_1725 => ?_) (fun c_1725 => ?_)
    · replace h := on c_1725 h
      refine lv_iload_n hx hb dX3_fits_20 rfl (lv_at hl 1 rfl) ?_
      refine lv_bipush (v := 8) hx hb dX3_fits_21 (by decide) ?_
      refine lv_icmp_ne (tgt := 39) hx hb dX3_fits_23 (by decide) (fun c_1726 => ?_) (fun c_1726 => ?_)
      · replace h := on c_1726 h
        refine lv_iload_n hx hb dX3_fits_39 rfl (lv_at hl 0 rfl) ?_
        refine lv_iload_n hx hb dX3_fits_40 rfl (lv_at hl 1 rfl) ?_
        refine lv_icmp_ne (tgt := 48) hx hb dX3_fits_41 (by decide) (fun c_1727 => ?_) (fun c_1727 => ?_)
        · replace h := on c_1727 h
          refine lv_iconst (v := 0) hx hb dX3_fits_48 (by decide) ?_
          rw [hQQ]
          exact W.zret hx hb hr rfl (fun t ht hW => ⟨_, rfl, (congrArg b2i (Option.some.inj h).symm), ht⟩) (fun q hq => absurd hq List.not_mem_nil) dX3_fits_49
        · replace h := op c_1727 h
          refine lv_iconst (v := 1) hx hb dX3_fits_44 (by decide) ?_
          refine lv_goto (tgt := 49) hx hb dX3_fits_45 (by decide) ?_
          rw [hQQ]
          exact W.zret hx hb hr rfl (fun t ht hW => ⟨_, rfl, (congrArg b2i (Option.some.inj h).symm), ht⟩) (fun q hq => absurd hq List.not_mem_nil) dX3_fits_49
      · replace h := op c_1726 h
        refine lv_iload_n hx hb dX3_fits_26 rfl (lv_at hl 0 rfl) ?_
        refine lv_iconst (v := 4) hx hb dX3_fits_27 (by decide) ?_
        refine lv_icmp_ne (tgt := 35) hx hb dX3_fits_28 (by decide) (fun c_1728 => ?_) (fun c_1728 => ?_)
        · replace h := on c_1728 h
          refine lv_iconst (v := 0) hx hb dX3_fits_35 (by decide) ?_
          refine lv_goto (tgt := 49) hx hb dX3_fits_36 (by decide) ?_
          rw [hQQ]
          exact W.zret hx hb hr rfl (fun t ht hW => ⟨_, rfl, (congrArg b2i (Option.some.inj h).symm), ht⟩) (fun q hq => absurd hq List.not_mem_nil) dX3_fits_49
        · replace h := op c_1728 h
          refine lv_iconst (v := 1) hx hb dX3_fits_31 (by decide) ?_
          refine lv_goto (tgt := 49) hx hb dX3_fits_32 (by decide) ?_
          rw [hQQ]
          exact W.zret hx hb hr rfl (fun t ht hW => ⟨_, rfl, (congrArg b2i (Option.some.inj h).symm), ht⟩) (fun q hq => absurd hq List.not_mem_nil) dX3_fits_49
    · replace h := op c_1725 h
      refine lv_iconst (v := 1) hx hb dX3_fits_18 (by decide) ?_
      rw [hQQ]
      exact W.zret hx hb hr rfl (fun t ht hW => ⟨_, rfl, (congrArg b2i (Option.some.inj h).symm), ht⟩) (fun q hq => absurd hq List.not_mem_nil) dX3_fits_19
  · replace h := on c_1724 h
    refine lv_iload_n hx hb dX3_fits_6 rfl (lv_at hl 0 rfl) ?_
    refine lv_iload_n hx hb dX3_fits_7 rfl (lv_at hl 1 rfl) ?_
    obtain ⟨o_1729, hr_1729, h⟩ := ob h
    refine vp_callSi (va_Run.run (va_runS (As := [.int x0, .int x1]) (rest := []) ⟨hx, hb, hml, hown, hts⟩ (c_X3_widens l dC dI cB cC cI cJ cZ cT x0 x1 o_1729 hr_1729) (va_cwS 2 hts gX3_fits_X3_widens rfl rfl rfl (by decide +kernel) ⟨Nat.le_of_ble_eq_true rfl, Nat.le_of_ble_eq_true rfl⟩) ⟨blTX, fun U hU hW => ⟨rfl, by show SX (fun _ => False) U U.heap; rw [hU]; exact SX.use hW hS hX⟩⟩ rfl rfl hl.1 rfl (lv_room (Nat.le_of_ble_eq_true rfl)) dX3_fits_8 ⟨Nat.le_of_ble_eq_true rfl, Nat.le_of_ble_eq_true rfl⟩)) (fun r_1729 e_1729 => ?_)
    subst e_1729
    rw [hQQ]
    exact W.zret hx hb hr (nzb _) (fun t ht hW => ⟨_, rfl, (congrArg b2i (Option.some.inj h).symm), ht⟩) (fun q hq => absurd hq List.not_mem_nil) dX3_fits_11
def f_X3_ownWay (x0 : Int32) (x1 : Int64) : Option Int32 :=
  (if (7 : Int32) < x0 then (if (lg_cmp x1 (-9223372036854775808 : Int64)) = 0 then (some (21 : Int32)) else (if x0 = (8 : Int32) then (some (14 : Int32)) else (if x0 = (9 : Int32) then (some (19 : Int32)) else (some (20 : Int32))))) else (some ((10 : Int32) + x0)))
abbrev rm_X3_ownWay : Room := { frames := 0, cells := 0, slots := 0, locals := 0 }
set_option maxHeartbeats 4000000 in
set_option maxRecDepth 100000 in
theorem c_X3_ownWay (l : Launch) (dC : Nat → ClassId) (dI : Nat → Nat → Nat) (cB cC cI cJ cZ cT : ClassId) (x0 : Int32) (x1 : Int64) (o : Int32) (hf : f_X3_ownWay x0 x1 = some o) : Met l yX3_ownWay wsX3_ownWay rm_X3_ownWay (va_Pc [.int x0, .long x1] (fun _ => True)) (vp_Si (fun r => o = r)) 0 0 (fun _ => False) := by
  refine Met.ofW (cc := cX3_ownWay) (maxL := 3) (ret := (some .int)) (by decide +kernel) rfl ?_
  intro p e s m args below meth c s₁ B hml hv
  obtain ⟨hav, -⟩ := hv
  have hx := B.exec
  have hb := B.bytes
  have hr := B.returns
  have hts := atoms_spec (ws := wsX3_ownWay) B.pre
  have hown : s.vm.findClass RX3 = some m.cls := findClass_of_methodNamed B.named
  have hlocks := B.notSynchronized
  refine wstart (rm := rm_X3_ownWay) hav (Nat.le_of_ble_eq_true rfl) (fun QQ ls hQQ hl => ?_)
  have hl : lv_has ls 3 [(0, .int x0), (1, .long x1)] := hl
  have h := hf
  unfold f_X3_ownWay at h
  refine lv_iload_n hx hb dX3_ownWay_0 rfl (lv_at hl 0 rfl) ?_
  refine lv_bipush (v := 7) hx hb dX3_ownWay_1 (by decide) ?_
  refine lv_icmp_gt (tgt := 11) hx hb dX3_ownWay_3 (by decide) (fun c_1731 => ?_) (fun c_1731 => ?_)
  · replace h := op c_1731 h
    refine lv_lload_n hx hb dX3_ownWay_11 rfl (lv_at hl 1 rfl) ?_
    refine lv_ldc2 (v := -9223372036854775808) hx hb hown (hts _ (List.mem_of_getElem? (i := 1) rfl)) dX3_ownWay_12 ?_
    refine W.lcmp hx hb dX3_ownWay_15 ?_
    refine lv_if_ne (tgt := 22) hx hb dX3_ownWay_16 (by decide) (fun c_1732 => ?_) (fun c_1732 => ?_)
    · replace h := on c_1732 h
      refine lv_iload_n hx hb dX3_ownWay_22 rfl (lv_at hl 0 rfl) ?_
      refine lv_bipush (v := 8) hx hb dX3_ownWay_23 (by decide) ?_
      refine lv_icmp_ne (tgt := 33) hx hb dX3_ownWay_25 (by decide) (fun c_1733 => ?_) (fun c_1733 => ?_)
      · replace h := on c_1733 h
        refine lv_iload_n hx hb dX3_ownWay_33 rfl (lv_at hl 0 rfl) ?_
        refine lv_bipush (v := 9) hx hb dX3_ownWay_34 (by decide) ?_
        refine lv_icmp_ne (tgt := 44) hx hb dX3_ownWay_36 (by decide) (fun c_1734 => ?_) (fun c_1734 => ?_)
        · replace h := on c_1734 h
          refine lv_bipush (v := 20) hx hb dX3_ownWay_44 (by decide) ?_
          rw [hQQ]
          exact W.iret hx hb hr (fun t ht hW => ⟨_, rfl, (Option.some.inj h).symm, ht⟩) (fun q hq => absurd hq List.not_mem_nil) dX3_ownWay_46
        · replace h := op c_1734 h
          refine lv_bipush (v := 19) hx hb dX3_ownWay_39 (by decide) ?_
          refine lv_goto (tgt := 46) hx hb dX3_ownWay_41 (by decide) ?_
          rw [hQQ]
          exact W.iret hx hb hr (fun t ht hW => ⟨_, rfl, (Option.some.inj h).symm, ht⟩) (fun q hq => absurd hq List.not_mem_nil) dX3_ownWay_46
      · replace h := op c_1733 h
        refine lv_bipush (v := 14) hx hb dX3_ownWay_28 (by decide) ?_
        refine lv_goto (tgt := 46) hx hb dX3_ownWay_30 (by decide) ?_
        rw [hQQ]
        exact W.iret hx hb hr (fun t ht hW => ⟨_, rfl, (Option.some.inj h).symm, ht⟩) (fun q hq => absurd hq List.not_mem_nil) dX3_ownWay_46
    · replace h := op c_1732 h
      refine lv_bipush (v := 21) hx hb dX3_ownWay_19 (by decide) ?_
      rw [hQQ]
      exact W.iret hx hb hr (fun t ht hW => ⟨_, rfl, (Option.some.inj h).symm, ht⟩) (fun q hq => absurd hq List.not_mem_nil) dX3_ownWay_21
  · replace h := on c_1731 h
    refine lv_bipush (v := 10) hx hb dX3_ownWay_6 (by decide) ?_
    refine lv_iload_n hx hb dX3_ownWay_8 rfl (lv_at hl 0 rfl) ?_
    refine lv_iadd hx hb dX3_ownWay_9 ?_
    rw [hQQ]
    exact W.iret hx hb hr (fun t ht hW => ⟨_, rfl, (Option.some.inj h).symm, ht⟩) (fun q hq => absurd hq List.not_mem_nil) dX3_ownWay_10
def f_X3_widened (x0 : Int32) (x1 : Int32) (x2 : Int64) : Option Int64 :=
  (if x0 = x1 then (some x2) else (if x1 = (6 : Int32) then (if x0 = (6 : Int32) then ((f_X1_doubleOfFloat x2).bind (fun o_1743 => (some o_1743))) else (if x1 = (6 : Int32) then ((f_X1_nearestFloat x2 (0 : Int32)).bind (fun o_1741 => (some o_1741))) else ((f_X1_nearestDouble x2 (0 : Int32)).bind (fun o_1739 => (some o_1739))))) else (if x1 = (7 : Int32) then (if x0 = (6 : Int32) then ((f_X1_doubleOfFloat x2).bind (fun o_1752 => (some o_1752))) else (if x1 = (6 : Int32) then ((f_X1_nearestFloat x2 (0 : Int32)).bind (fun o_1750 => (some o_1750))) else ((f_X1_nearestDouble x2 (0 : Int32)).bind (fun o_1748 => (some o_1748))))) else (some x2))))
abbrev rm_X3_widened : Room := { frames := 4, cells := 0, slots := 0, locals := 101 }
set_option maxHeartbeats 4000000 in
set_option maxRecDepth 100000 in
theorem c_X3_widened (l : Launch) (dC : Nat → ClassId) (dI : Nat → Nat → Nat) (cB cC cI cJ cZ cT : ClassId) (x0 : Int32) (x1 : Int32) (x2 : Int64) (o : Int64) (hf : f_X3_widened x0 x1 x2 = some o) : Met l yX3_widened wsX3_widened rm_X3_widened (va_Pc [.int x0, .int x1, .long x2] (fun _ => True)) (vp_Sl (fun r => o = r)) 0 0 (fun _ => False) := by
  refine Met.ofW (cc := cX3_widened) (maxL := 4) (ret := (some .long)) (by decide +kernel) rfl ?_
  intro p e s m args below meth c s₁ B hml hv
  obtain ⟨hav, -⟩ := hv
  have hx := B.exec
  have hb := B.bytes
  have hr := B.returns
  have hts := atoms_spec (ws := wsX3_widened) B.pre
  have hown : s.vm.findClass RX3 = some m.cls := findClass_of_methodNamed B.named
  have hlocks := B.notSynchronized
  refine wstart (rm := rm_X3_widened) hav (Nat.le_of_ble_eq_true rfl) (fun QQ ls hQQ hl => ?_)
  have hl : lv_has ls 4 [(0, .int x0), (1, .int x1), (2, .long x2)] := hl
  have h := hf
  unfold f_X3_widened at h
  refine lv_iload_n hx hb dX3_widened_0 rfl (lv_at hl 0 rfl) ?_
  refine lv_iload_n hx hb dX3_widened_1 rfl (lv_at hl 1 rfl) ?_
  refine lv_icmp_eq (tgt := 17) hx hb dX3_widened_2 (by decide) (fun c_1735 => ?_) (fun c_1735 => ?_)
  · replace h := op c_1735 h
    refine lv_lload_n hx hb dX3_widened_17 rfl (lv_at hl 2 rfl) ?_
    rw [hQQ]
    exact W.lret hx hb hr (fun t ht hW => ⟨_, rfl, (Option.some.inj h).symm, ht⟩) (fun q hq => absurd hq List.not_mem_nil) dX3_widened_18
  · replace h := on c_1735 h
    refine lv_iload_n hx hb dX3_widened_5 rfl (lv_at hl 1 rfl) ?_
    refine lv_bipush (v := 6) hx hb dX3_widened_6 (by decide) ?_
    refine lv_icmp_eq (tgt := 19) hx hb dX3_widened_8 (by decide) (fun c_1736 => ?_) (fun c_1736 => ?_)
    · replace h := op c_1736 h
      refine lv_iload_n hx hb dX3_widened_19 rfl (lv_at hl 0 rfl) ?_
      refine lv_bipush (v := 6) hx hb dX3_widened_20 (by decide) ?_
      refine lv_icmp_ne (tgt := 30) hx hb dX3_widened_22 (by decide) (fun c_1737 => ?_) (fun c_1737 => ?_)
      · replace h := on c_1737 h
        refine lv_iload_n hx hb dX3_widened_30 rfl (lv_at hl 1 rfl) ?_
        refine lv_bipush (v := 6) hx hb dX3_widened_31 (by decide) ?_
        refine lv_icmp_ne (tgt := 44) hx hb dX3_widened_33 (by decide) (fun c_1738 => ?_) (fun c_1738 => ?_)
        · replace h := on c_1738 h
          refine lv_lload_n hx hb dX3_widened_44 rfl (lv_at hl 2 rfl) ?_
          refine lv_iconst (v := 0) hx hb dX3_widened_45 (by decide) ?_
          obtain ⟨o_1739, hr_1739, h⟩ := ob h
          refine vp_callSl (va_Run.run (va_runS (As := [.long x2, .int (0 : Int32)]) (rest := []) ⟨hx, hb, hml, hown, hts⟩ (c_X1_nearestDouble l dC dI cB cC cI cJ cZ cT x2 (0 : Int32) o_1739 hr_1739) (va_cwS 2 hts gX3_widened_X1_nearestDouble rfl rfl rfl (by decide +kernel) ⟨Nat.le_of_ble_eq_true rfl, Nat.le_of_ble_eq_true rfl⟩) ⟨blT, fun U hU hW => ⟨rfl, trivial⟩⟩ rfl rfl hl.1 rfl (lv_room (Nat.le_of_ble_eq_true rfl)) dX3_widened_46 ⟨Nat.le_of_ble_eq_true rfl, Nat.le_of_ble_eq_true rfl⟩)) (fun r_1739 e_1739 => ?_)
          subst e_1739
          rw [hQQ]
          exact W.lret hx hb hr (fun t ht hW => ⟨_, rfl, (Option.some.inj h).symm, ht⟩) (fun q hq => absurd hq List.not_mem_nil) dX3_widened_49
        · replace h := op c_1738 h
          refine lv_lload_n hx hb dX3_widened_36 rfl (lv_at hl 2 rfl) ?_
          refine lv_iconst (v := 0) hx hb dX3_widened_37 (by decide) ?_
          obtain ⟨o_1741, hr_1741, h⟩ := ob h
          refine vp_callSl (va_Run.run (va_runS (As := [.long x2, .int (0 : Int32)]) (rest := []) ⟨hx, hb, hml, hown, hts⟩ (c_X1_nearestFloat l dC dI cB cC cI cJ cZ cT x2 (0 : Int32) o_1741 hr_1741) (va_cwS 2 hts gX3_widened_X1_nearestFloat rfl rfl rfl (by decide +kernel) ⟨Nat.le_of_ble_eq_true rfl, Nat.le_of_ble_eq_true rfl⟩) ⟨blT, fun U hU hW => ⟨rfl, trivial⟩⟩ rfl rfl hl.1 rfl (lv_room (Nat.le_of_ble_eq_true rfl)) dX3_widened_38 ⟨Nat.le_of_ble_eq_true rfl, Nat.le_of_ble_eq_true rfl⟩)) (fun r_1741 e_1741 => ?_)
          subst e_1741
          refine lv_goto (tgt := 49) hx hb dX3_widened_41 (by decide) ?_
          rw [hQQ]
          exact W.lret hx hb hr (fun t ht hW => ⟨_, rfl, (Option.some.inj h).symm, ht⟩) (fun q hq => absurd hq List.not_mem_nil) dX3_widened_49
      · replace h := op c_1737 h
        refine lv_lload_n hx hb dX3_widened_25 rfl (lv_at hl 2 rfl) ?_
        obtain ⟨o_1743, hr_1743, h⟩ := ob h
        refine vp_callSl (va_Run.run (va_runS (As := [.long x2]) (rest := []) ⟨hx, hb, hml, hown, hts⟩ (c_X1_doubleOfFloat l dC dI cB cC cI cJ cZ cT x2 o_1743 hr_1743) (va_cwS 1 hts gX3_widened_X1_doubleOfFloat rfl rfl rfl (by decide +kernel) ⟨Nat.le_of_ble_eq_true rfl, Nat.le_of_ble_eq_true rfl⟩) ⟨blT, fun U hU hW => ⟨rfl, trivial⟩⟩ rfl rfl hl.1 rfl (lv_room (Nat.le_of_ble_eq_true rfl)) dX3_widened_26 ⟨Nat.le_of_ble_eq_true rfl, Nat.le_of_ble_eq_true rfl⟩)) (fun r_1743 e_1743 => ?_)
        subst e_1743
        rw [hQQ]
        exact W.lret hx hb hr (fun t ht hW => ⟨_, rfl, (Option.some.inj h).symm, ht⟩) (fun q hq => absurd hq List.not_mem_nil) dX3_widened_29
    · replace h := on c_1736 h
      refine lv_iload_n hx hb dX3_widened_11 rfl (lv_at hl 1 rfl) ?_
      refine lv_bipush (v := 7) hx hb dX3_widened_12 (by decide) ?_
      refine lv_icmp_eq (tgt := 19) hx hb dX3_widened_14 (by decide) (fun c_1745 => ?_) (fun c_1745 => ?_)
      · replace h := op c_1745 h
        refine lv_iload_n hx hb dX3_widened_19 rfl (lv_at hl 0 rfl) ?_
        refine lv_bipush (v := 6) hx hb dX3_widened_20 (by decide) ?_
        refine lv_icmp_ne (tgt := 30) hx hb dX3_widened_22 (by decide) (fun c_1746 => ?_) (fun c_1746 => ?_)
        · replace h := on c_1746 h
          refine lv_iload_n hx hb dX3_widened_30 rfl (lv_at hl 1 rfl) ?_
          refine lv_bipush (v := 6) hx hb dX3_widened_31 (by decide) ?_
          refine lv_icmp_ne (tgt := 44) hx hb dX3_widened_33 (by decide) (fun c_1747 => ?_) (fun c_1747 => ?_)
          · replace h := on c_1747 h
            refine lv_lload_n hx hb dX3_widened_44 rfl (lv_at hl 2 rfl) ?_
            refine lv_iconst (v := 0) hx hb dX3_widened_45 (by decide) ?_
            obtain ⟨o_1748, hr_1748, h⟩ := ob h
            refine vp_callSl (va_Run.run (va_runS (As := [.long x2, .int (0 : Int32)]) (rest := []) ⟨hx, hb, hml, hown, hts⟩ (c_X1_nearestDouble l dC dI cB cC cI cJ cZ cT x2 (0 : Int32) o_1748 hr_1748) (va_cwS 2 hts gX3_widened_X1_nearestDouble rfl rfl rfl (by decide +kernel) ⟨Nat.le_of_ble_eq_true rfl, Nat.le_of_ble_eq_true rfl⟩) ⟨blT, fun U hU hW => ⟨rfl, trivial⟩⟩ rfl rfl hl.1 rfl (lv_room (Nat.le_of_ble_eq_true rfl)) dX3_widened_46 ⟨Nat.le_of_ble_eq_true rfl, Nat.le_of_ble_eq_true rfl⟩)) (fun r_1748 e_1748 => ?_)
            subst e_1748
            rw [hQQ]
            exact W.lret hx hb hr (fun t ht hW => ⟨_, rfl, (Option.some.inj h).symm, ht⟩) (fun q hq => absurd hq List.not_mem_nil) dX3_widened_49
          · replace h := op c_1747 h
            refine lv_lload_n hx hb dX3_widened_36 rfl (lv_at hl 2 rfl) ?_
            refine lv_iconst (v := 0) hx hb dX3_widened_37 (by decide) ?_
            obtain ⟨o_1750, hr_1750, h⟩ := ob h
            refine vp_callSl (va_Run.run (va_runS (As := [.long x2, .int (0 : Int32)]) (rest := []) ⟨hx, hb, hml, hown, hts⟩ (c_X1_nearestFloat l dC dI cB cC cI cJ cZ cT x2 (0 : Int32) o_1750 hr_1750) (va_cwS 2 hts gX3_widened_X1_nearestFloat rfl rfl rfl (by decide +kernel) ⟨Nat.le_of_ble_eq_true rfl, Nat.le_of_ble_eq_true rfl⟩) ⟨blT, fun U hU hW => ⟨rfl, trivial⟩⟩ rfl rfl hl.1 rfl (lv_room (Nat.le_of_ble_eq_true rfl)) dX3_widened_38 ⟨Nat.le_of_ble_eq_true rfl, Nat.le_of_ble_eq_true rfl⟩)) (fun r_1750 e_1750 => ?_)
            subst e_1750
            refine lv_goto (tgt := 49) hx hb dX3_widened_41 (by decide) ?_
            rw [hQQ]
            exact W.lret hx hb hr (fun t ht hW => ⟨_, rfl, (Option.some.inj h).symm, ht⟩) (fun q hq => absurd hq List.not_mem_nil) dX3_widened_49
        · replace h := op c_1746 h
          refine lv_lload_n hx hb dX3_widened_25 rfl (lv_at hl 2 rfl) ?_
          obtain ⟨o_1752, hr_1752, h⟩ := ob h
          refine vp_callSl (va_Run.run (va_runS (As := [.long x2]) (rest := []) ⟨hx, hb, hml, hown, hts⟩ (c_X1_doubleOfFloat l dC dI cB cC cI cJ cZ cT x2 o_1752 hr_1752) (va_cwS 1 hts gX3_widened_X1_doubleOfFloat rfl rfl rfl (by decide +kernel) ⟨Nat.le_of_ble_eq_true rfl, Nat.le_of_ble_eq_true rfl⟩) ⟨blT, fun U hU hW => ⟨rfl, trivial⟩⟩ rfl rfl hl.1 rfl (lv_room (Nat.le_of_ble_eq_true rfl)) dX3_widened_26 ⟨Nat.le_of_ble_eq_true rfl, Nat.le_of_ble_eq_true rfl⟩)) (fun r_1752 e_1752 => ?_)
          subst e_1752
          rw [hQQ]
          exact W.lret hx hb hr (fun t ht hW => ⟨_, rfl, (Option.some.inj h).symm, ht⟩) (fun q hq => absurd hq List.not_mem_nil) dX3_widened_29
      · replace h := on c_1745 h
        refine lv_lload_n hx hb dX3_widened_17 rfl (lv_at hl 2 rfl) ?_
        rw [hQQ]
        exact W.lret hx hb hr (fun t ht hW => ⟨_, rfl, (Option.some.inj h).symm, ht⟩) (fun q hq => absurd hq List.not_mem_nil) dX3_widened_18
def f_X3_weight (x0 : Int32) (x1 : Int64) : Option Int64 :=
  ((f_X3_mayBeNothing x0).bind (fun o_1754 => (if (b2i o_1754) = 0 then (if x0 = 6 then (if 0 ≤ (lg_cmp x1 (0 : Int64)) then (some x1) else (some (x1 ^^^ (2147483647 : Int64)))) else (if x0 = 7 then (if 0 ≤ (lg_cmp x1 (0 : Int64)) then (some x1) else (some (x1 ^^^ (9223372036854775807 : Int64)))) else (if x0 = 8 then (some x1) else (if x0 = 9 then (some (((x1 - x1 / (26 : Int64) * (26 : Int64)) * (3 : Int64)) + (x1 / (26 : Int64)))) else (some x1))))) else (if (lg_cmp x1 (-9223372036854775808 : Int64)) = 0 then (some (-9223372036854775808 : Int64)) else (if x0 = 6 then (if 0 ≤ (lg_cmp x1 (0 : Int64)) then (some x1) else (some (x1 ^^^ (2147483647 : Int64)))) else (if x0 = 7 then (if 0 ≤ (lg_cmp x1 (0 : Int64)) then (some x1) else (some (x1 ^^^ (9223372036854775807 : Int64)))) else (if x0 = 8 then (some x1) else (if x0 = 9 then (some (((x1 - x1 / (26 : Int64) * (26 : Int64)) * (3 : Int64)) + (x1 / (26 : Int64)))) else (some x1)))))))))
abbrev rm_X3_weight : Room := { frames := 1, cells := 0, slots := 0, locals := 20 }
set_option maxHeartbeats 4000000 in
set_option maxRecDepth 100000 in
theorem c_X3_weight (l : Launch) (dC : Nat → ClassId) (dI : Nat → Nat → Nat) (cB cC cI cJ cZ cT : ClassId) (x0 : Int32) (x1 : Int64) (o : Int64) (hf : f_X3_weight x0 x1 = some o) : Met l yX3_weight wsX3_weight rm_X3_weight (va_Pc [.int x0, .long x1] (fun _ => True)) (vp_Sl (fun r => o = r)) 0 0 (fun _ => False) := by
  refine Met.ofW (cc := cX3_weight) (maxL := 3) (ret := (some .long)) (by decide +kernel) rfl ?_
  intro p e s m args below meth c s₁ B hml hv
  obtain ⟨hav, -⟩ := hv
  have hx := B.exec
  have hb := B.bytes
  have hr := B.returns
  have hts := atoms_spec (ws := wsX3_weight) B.pre
  have hown : s.vm.findClass RX3 = some m.cls := findClass_of_methodNamed B.named
  have hlocks := B.notSynchronized
  refine wstart (rm := rm_X3_weight) hav (Nat.le_of_ble_eq_true rfl) (fun QQ ls hQQ hl => ?_)
  have hl : lv_has ls 3 [(0, .int x0), (1, .long x1)] := hl
  have h := hf
  unfold f_X3_weight at h
  refine lv_iload_n hx hb dX3_weight_0 rfl (lv_at hl 0 rfl) ?_
  obtain ⟨o_1754, hr_1754, h⟩ := ob h
  refine vp_callSi (va_Run.run (va_runS (As := [.int x0]) (rest := []) ⟨hx, hb, hml, hown, hts⟩ (c_X3_mayBeNothing l dC dI cB cC cI cJ cZ cT x0 o_1754 hr_1754) (va_cwS 1 hts gX3_weight_X3_mayBeNothing rfl rfl rfl (by decide +kernel) ⟨Nat.le_of_ble_eq_true rfl, Nat.le_of_ble_eq_true rfl⟩) ⟨blT, fun U hU hW => ⟨rfl, trivial⟩⟩ rfl rfl hl.1 rfl (lv_room (Nat.le_of_ble_eq_true rfl)) dX3_weight_1 ⟨Nat.le_of_ble_eq_true rfl, Nat.le_of_ble_eq_true rfl⟩)) (fun r_1754 e_1754 => ?_)
  subst e_1754
  refine lv_if_eq (tgt := 19) hx hb dX3_weight_4 (by decide) (fun c_1756 => ?_) (fun c_1756 => ?_)
  · replace h := op c_1756 h
    refine lv_iload_n hx hb dX3_weight_19 rfl (lv_at hl 0 rfl) ?_
    by_cases c_1757 : x0 = 6
    · replace h := op c_1757 h
      refine lv_tableIn (off := 32) (tgt := 52) hx hb dX3_weight_20 (by rw [c_1757]; decide) (by rw [c_1757]; decide) (by rw [c_1757]; rfl) (by decide) ?_
      refine lv_lload_n hx hb dX3_weight_52 rfl (lv_at hl 1 rfl) ?_
      refine lv_lconst (v := 0) hx hb dX3_weight_53 (by decide) ?_
      refine W.lcmp hx hb dX3_weight_54 ?_
      refine lv_if_ge (tgt := 66) hx hb dX3_weight_55 (by decide) (fun c_1758 => ?_) (fun c_1758 => ?_)
      · replace h := op c_1758 h
        refine lv_lload_n hx hb dX3_weight_66 rfl (lv_at hl 1 rfl) ?_
        rw [hQQ]
        exact W.lret hx hb hr (fun t ht hW => ⟨_, rfl, (Option.some.inj h).symm, ht⟩) (fun q hq => absurd hq List.not_mem_nil) dX3_weight_67
      · replace h := on c_1758 h
        refine lv_lload_n hx hb dX3_weight_58 rfl (lv_at hl 1 rfl) ?_
        refine lv_ldc2 (v := 2147483647) hx hb hown (hts _ (List.mem_of_getElem? (i := 2) rfl)) dX3_weight_59 ?_
        refine lv_lxor hx hb dX3_weight_62 ?_
        refine lv_goto (tgt := 67) hx hb dX3_weight_63 (by decide) ?_
        rw [hQQ]
        exact W.lret hx hb hr (fun t ht hW => ⟨_, rfl, (Option.some.inj h).symm, ht⟩) (fun q hq => absurd hq List.not_mem_nil) dX3_weight_67
    replace h := on c_1757 h
    by_cases c_1759 : x0 = 7
    · replace h := op c_1759 h
      refine lv_tableIn (off := 48) (tgt := 68) hx hb dX3_weight_20 (by rw [c_1759]; decide) (by rw [c_1759]; decide) (by rw [c_1759]; rfl) (by decide) ?_
      refine lv_lload_n hx hb dX3_weight_68 rfl (lv_at hl 1 rfl) ?_
      refine lv_lconst (v := 0) hx hb dX3_weight_69 (by decide) ?_
      refine W.lcmp hx hb dX3_weight_70 ?_
      refine lv_if_ge (tgt := 82) hx hb dX3_weight_71 (by decide) (fun c_1760 => ?_) (fun c_1760 => ?_)
      · replace h := op c_1760 h
        refine lv_lload_n hx hb dX3_weight_82 rfl (lv_at hl 1 rfl) ?_
        rw [hQQ]
        exact W.lret hx hb hr (fun t ht hW => ⟨_, rfl, (Option.some.inj h).symm, ht⟩) (fun q hq => absurd hq List.not_mem_nil) dX3_weight_83
      · replace h := on c_1760 h
        refine lv_lload_n hx hb dX3_weight_74 rfl (lv_at hl 1 rfl) ?_
        refine lv_ldc2 (v := 9223372036854775807) hx hb hown (hts _ (List.mem_of_getElem? (i := 3) rfl)) dX3_weight_75 ?_
        refine lv_lxor hx hb dX3_weight_78 ?_
        refine lv_goto (tgt := 83) hx hb dX3_weight_79 (by decide) ?_
        rw [hQQ]
        exact W.lret hx hb hr (fun t ht hW => ⟨_, rfl, (Option.some.inj h).symm, ht⟩) (fun q hq => absurd hq List.not_mem_nil) dX3_weight_83
    replace h := on c_1759 h
    by_cases c_1761 : x0 = 8
    · replace h := op c_1761 h
      refine lv_tableIn (off := 80) (tgt := 100) hx hb dX3_weight_20 (by rw [c_1761]; decide) (by rw [c_1761]; decide) (by rw [c_1761]; rfl) (by decide) ?_
      refine lv_lload_n hx hb dX3_weight_100 rfl (lv_at hl 1 rfl) ?_
      rw [hQQ]
      exact W.lret hx hb hr (fun t ht hW => ⟨_, rfl, (Option.some.inj h).symm, ht⟩) (fun q hq => absurd hq List.not_mem_nil) dX3_weight_101
    replace h := on c_1761 h
    by_cases c_1762 : x0 = 9
    · replace h := op c_1762 h
      refine lv_tableIn (off := 64) (tgt := 84) hx hb dX3_weight_20 (by rw [c_1762]; decide) (by rw [c_1762]; decide) (by rw [c_1762]; rfl) (by decide) ?_
      refine lv_lload_n hx hb dX3_weight_84 rfl (lv_at hl 1 rfl) ?_
      refine lv_ldc2 (v := 26) hx hb hown (hts _ (List.mem_of_getElem? (i := 4) rfl)) dX3_weight_85 ?_
      refine lv_lrem hx hb dX3_weight_88 (by decide) ?_
      refine lv_ldc2 (v := 3) hx hb hown (hts _ (List.mem_of_getElem? (i := 5) rfl)) dX3_weight_89 ?_
      refine lv_lmul hx hb dX3_weight_92 ?_
      refine lv_lload_n hx hb dX3_weight_93 rfl (lv_at hl 1 rfl) ?_
      refine lv_ldc2 (v := 26) hx hb hown (hts _ (List.mem_of_getElem? (i := 4) rfl)) dX3_weight_94 ?_
      refine lv_ldiv hx hb dX3_weight_97 (by decide) ?_
      refine lv_ladd hx hb dX3_weight_98 ?_
      rw [hQQ]
      exact W.lret hx hb hr (fun t ht hW => ⟨_, rfl, (Option.some.inj h).symm, ht⟩) (fun q hq => absurd hq List.not_mem_nil) dX3_weight_99
    replace h := on c_1762 h
    have ct_1757 : (x0).toInt < 6 ∨ 9 < (x0).toInt := by
      have q_1757 := i32_ne c_1757
      have q_1759 := i32_ne c_1759
      have q_1761 := i32_ne c_1761
      have q_1762 := i32_ne c_1762
      have z_1757 : ((6 : Int32)).toInt = 6 ∧ ((7 : Int32)).toInt = 7 ∧ ((8 : Int32)).toInt = 8 ∧ ((9 : Int32)).toInt = 9 := by decide
      omega
    refine lv_tableOut (tgt := 100) hx hb dX3_weight_20 ct_1757 (by decide) ?_
    refine lv_lload_n hx hb dX3_weight_100 rfl (lv_at hl 1 rfl) ?_
    rw [hQQ]
    exact W.lret hx hb hr (fun t ht hW => ⟨_, rfl, (Option.some.inj h).symm, ht⟩) (fun q hq => absurd hq List.not_mem_nil) dX3_weight_101
  · replace h := on c_1756 h
    refine lv_lload_n hx hb dX3_weight_7 rfl (lv_at hl 1 rfl) ?_
    refine lv_ldc2 (v := -9223372036854775808) hx hb hown (hts _ (List.mem_of_getElem? (i := 1) rfl)) dX3_weight_8 ?_
    refine W.lcmp hx hb dX3_weight_11 ?_
    refine lv_if_ne (tgt := 19) hx hb dX3_weight_12 (by decide) (fun c_1763 => ?_) (fun c_1763 => ?_)
    · replace h := on c_1763 h
      refine lv_iload_n hx hb dX3_weight_19 rfl (lv_at hl 0 rfl) ?_
      by_cases c_1764 : x0 = 6
      · replace h := op c_1764 h
        refine lv_tableIn (off := 32) (tgt := 52) hx hb dX3_weight_20 (by rw [c_1764]; decide) (by rw [c_1764]; decide) (by rw [c_1764]; rfl) (by decide) ?_
        refine lv_lload_n hx hb dX3_weight_52 rfl (lv_at hl 1 rfl) ?_
        refine lv_lconst (v := 0) hx hb dX3_weight_53 (by decide) ?_
        refine W.lcmp hx hb dX3_weight_54 ?_
        refine lv_if_ge (tgt := 66) hx hb dX3_weight_55 (by decide) (fun c_1765 => ?_) (fun c_1765 => ?_)
        · replace h := op c_1765 h
          refine lv_lload_n hx hb dX3_weight_66 rfl (lv_at hl 1 rfl) ?_
          rw [hQQ]
          exact W.lret hx hb hr (fun t ht hW => ⟨_, rfl, (Option.some.inj h).symm, ht⟩) (fun q hq => absurd hq List.not_mem_nil) dX3_weight_67
        · replace h := on c_1765 h
          refine lv_lload_n hx hb dX3_weight_58 rfl (lv_at hl 1 rfl) ?_
          refine lv_ldc2 (v := 2147483647) hx hb hown (hts _ (List.mem_of_getElem? (i := 2) rfl)) dX3_weight_59 ?_
          refine lv_lxor hx hb dX3_weight_62 ?_
          refine lv_goto (tgt := 67) hx hb dX3_weight_63 (by decide) ?_
          rw [hQQ]
          exact W.lret hx hb hr (fun t ht hW => ⟨_, rfl, (Option.some.inj h).symm, ht⟩) (fun q hq => absurd hq List.not_mem_nil) dX3_weight_67
      replace h := on c_1764 h
      by_cases c_1766 : x0 = 7
      · replace h := op c_1766 h
        refine lv_tableIn (off := 48) (tgt := 68) hx hb dX3_weight_20 (by rw [c_1766]; decide) (by rw [c_1766]; decide) (by rw [c_1766]; rfl) (by decide) ?_
        refine lv_lload_n hx hb dX3_weight_68 rfl (lv_at hl 1 rfl) ?_
        refine lv_lconst (v := 0) hx hb dX3_weight_69 (by decide) ?_
        refine W.lcmp hx hb dX3_weight_70 ?_
        refine lv_if_ge (tgt := 82) hx hb dX3_weight_71 (by decide) (fun c_1767 => ?_) (fun c_1767 => ?_)
        · replace h := op c_1767 h
          refine lv_lload_n hx hb dX3_weight_82 rfl (lv_at hl 1 rfl) ?_
          rw [hQQ]
          exact W.lret hx hb hr (fun t ht hW => ⟨_, rfl, (Option.some.inj h).symm, ht⟩) (fun q hq => absurd hq List.not_mem_nil) dX3_weight_83
        · replace h := on c_1767 h
          refine lv_lload_n hx hb dX3_weight_74 rfl (lv_at hl 1 rfl) ?_
          refine lv_ldc2 (v := 9223372036854775807) hx hb hown (hts _ (List.mem_of_getElem? (i := 3) rfl)) dX3_weight_75 ?_
          refine lv_lxor hx hb dX3_weight_78 ?_
          refine lv_goto (tgt := 83) hx hb dX3_weight_79 (by decide) ?_
          rw [hQQ]
          exact W.lret hx hb hr (fun t ht hW => ⟨_, rfl, (Option.some.inj h).symm, ht⟩) (fun q hq => absurd hq List.not_mem_nil) dX3_weight_83
      replace h := on c_1766 h
      by_cases c_1768 : x0 = 8
      · replace h := op c_1768 h
        refine lv_tableIn (off := 80) (tgt := 100) hx hb dX3_weight_20 (by rw [c_1768]; decide) (by rw [c_1768]; decide) (by rw [c_1768]; rfl) (by decide) ?_
        refine lv_lload_n hx hb dX3_weight_100 rfl (lv_at hl 1 rfl) ?_
        rw [hQQ]
        exact W.lret hx hb hr (fun t ht hW => ⟨_, rfl, (Option.some.inj h).symm, ht⟩) (fun q hq => absurd hq List.not_mem_nil) dX3_weight_101
      replace h := on c_1768 h
      by_cases c_1769 : x0 = 9
      · replace h := op c_1769 h
        refine lv_tableIn (off := 64) (tgt := 84) hx hb dX3_weight_20 (by rw [c_1769]; decide) (by rw [c_1769]; decide) (by rw [c_1769]; rfl) (by decide) ?_
        refine lv_lload_n hx hb dX3_weight_84 rfl (lv_at hl 1 rfl) ?_
        refine lv_ldc2 (v := 26) hx hb hown (hts _ (List.mem_of_getElem? (i := 4) rfl)) dX3_weight_85 ?_
        refine lv_lrem hx hb dX3_weight_88 (by decide) ?_
        refine lv_ldc2 (v := 3) hx hb hown (hts _ (List.mem_of_getElem? (i := 5) rfl)) dX3_weight_89 ?_
        refine lv_lmul hx hb dX3_weight_92 ?_
        refine lv_lload_n hx hb dX3_weight_93 rfl (lv_at hl 1 rfl) ?_
        refine lv_ldc2 (v := 26) hx hb hown (hts _ (List.mem_of_getElem? (i := 4) rfl)) dX3_weight_94 ?_
        refine lv_ldiv hx hb dX3_weight_97 (by decide) ?_
        refine lv_ladd hx hb dX3_weight_98 ?_
        rw [hQQ]
        exact W.lret hx hb hr (fun t ht hW => ⟨_, rfl, (Option.some.inj h).symm, ht⟩) (fun q hq => absurd hq List.not_mem_nil) dX3_weight_99
      replace h := on c_1769 h
      have ct_1764 : (x0).toInt < 6 ∨ 9 < (x0).toInt := by
        have q_1764 := i32_ne c_1764
        have q_1766 := i32_ne c_1766
        have q_1768 := i32_ne c_1768
        have q_1769 := i32_ne c_1769
        have z_1764 : ((6 : Int32)).toInt = 6 ∧ ((7 : Int32)).toInt = 7 ∧ ((8 : Int32)).toInt = 8 ∧ ((9 : Int32)).toInt = 9 := by decide
        omega
      refine lv_tableOut (tgt := 100) hx hb dX3_weight_20 ct_1764 (by decide) ?_
      refine lv_lload_n hx hb dX3_weight_100 rfl (lv_at hl 1 rfl) ?_
      rw [hQQ]
      exact W.lret hx hb hr (fun t ht hW => ⟨_, rfl, (Option.some.inj h).symm, ht⟩) (fun q hq => absurd hq List.not_mem_nil) dX3_weight_101
    · replace h := op c_1763 h
      refine lv_ldc2 (v := -9223372036854775808) hx hb hown (hts _ (List.mem_of_getElem? (i := 1) rfl)) dX3_weight_15 ?_
      rw [hQQ]
      exact W.lret hx hb hr (fun t ht hW => ⟨_, rfl, (Option.some.inj h).symm, ht⟩) (fun q hq => absurd hq List.not_mem_nil) dX3_weight_18
def f_X3_group (x0 : Int32) (x1 : Int64) : Option Int32 :=
  ((f_X3_mayBeNothing x0).bind (fun o_1770 => (if (b2i o_1770) = 0 then (if x0 < (1 : Int32) then (some x0) else (if (8 : Int32) < x0 then (some x0) else (some (4 : Int32)))) else (if (lg_cmp x1 (-9223372036854775808 : Int64)) = 0 then (some (14 : Int32)) else (if x0 < (1 : Int32) then (some x0) else (if (8 : Int32) < x0 then (some x0) else (some (4 : Int32))))))))
abbrev rm_X3_group : Room := { frames := 1, cells := 0, slots := 0, locals := 20 }
set_option maxHeartbeats 4000000 in
set_option maxRecDepth 100000 in
theorem c_X3_group (l : Launch) (dC : Nat → ClassId) (dI : Nat → Nat → Nat) (cB cC cI cJ cZ cT : ClassId) (x0 : Int32) (x1 : Int64) (o : Int32) (hf : f_X3_group x0 x1 = some o) : Met l yX3_group wsX3_group rm_X3_group (va_Pc [.int x0, .long x1] (fun _ => True)) (vp_Si (fun r => o = r)) 0 0 (fun _ => False) := by
  refine Met.ofW (cc := cX3_group) (maxL := 3) (ret := (some .int)) (by decide +kernel) rfl ?_
  intro p e s m args below meth c s₁ B hml hv
  obtain ⟨hav, -⟩ := hv
  have hx := B.exec
  have hb := B.bytes
  have hr := B.returns
  have hts := atoms_spec (ws := wsX3_group) B.pre
  have hown : s.vm.findClass RX3 = some m.cls := findClass_of_methodNamed B.named
  have hlocks := B.notSynchronized
  refine wstart (rm := rm_X3_group) hav (Nat.le_of_ble_eq_true rfl) (fun QQ ls hQQ hl => ?_)
  have hl : lv_has ls 3 [(0, .int x0), (1, .long x1)] := hl
  have h := hf
  unfold f_X3_group at h
  refine lv_iload_n hx hb dX3_group_0 rfl (lv_at hl 0 rfl) ?_
  obtain ⟨o_1770, hr_1770, h⟩ := ob h
  refine vp_callSi (va_Run.run (va_runS (As := [.int x0]) (rest := []) ⟨hx, hb, hml, hown, hts⟩ (c_X3_mayBeNothing l dC dI cB cC cI cJ cZ cT x0 o_1770 hr_1770) (va_cwS 1 hts gX3_group_X3_mayBeNothing rfl rfl rfl (by decide +kernel) ⟨Nat.le_of_ble_eq_true rfl, Nat.le_of_ble_eq_true rfl⟩) ⟨blT, fun U hU hW => ⟨rfl, trivial⟩⟩ rfl rfl hl.1 rfl (lv_room (Nat.le_of_ble_eq_true rfl)) dX3_group_1 ⟨Nat.le_of_ble_eq_true rfl, Nat.le_of_ble_eq_true rfl⟩)) (fun r_1770 e_1770 => ?_)
  subst e_1770
  refine lv_if_eq (tgt := 18) hx hb dX3_group_4 (by decide) (fun c_1772 => ?_) (fun c_1772 => ?_)
  · replace h := op c_1772 h
    refine lv_iload_n hx hb dX3_group_18 rfl (lv_at hl 0 rfl) ?_
    refine lv_iconst (v := 1) hx hb dX3_group_19 (by decide) ?_
    refine lv_icmp_lt (tgt := 33) hx hb dX3_group_20 (by decide) (fun c_1773 => ?_) (fun c_1773 => ?_)
    · replace h := op c_1773 h
      refine lv_iload_n hx hb dX3_group_33 rfl (lv_at hl 0 rfl) ?_
      rw [hQQ]
      exact W.iret hx hb hr (fun t ht hW => ⟨_, rfl, (Option.some.inj h).symm, ht⟩) (fun q hq => absurd hq List.not_mem_nil) dX3_group_34
    · replace h := on c_1773 h
      refine lv_iload_n hx hb dX3_group_23 rfl (lv_at hl 0 rfl) ?_
      refine lv_bipush (v := 8) hx hb dX3_group_24 (by decide) ?_
      refine lv_icmp_gt (tgt := 33) hx hb dX3_group_26 (by decide) (fun c_1774 => ?_) (fun c_1774 => ?_)
      · replace h := op c_1774 h
        refine lv_iload_n hx hb dX3_group_33 rfl (lv_at hl 0 rfl) ?_
        rw [hQQ]
        exact W.iret hx hb hr (fun t ht hW => ⟨_, rfl, (Option.some.inj h).symm, ht⟩) (fun q hq => absurd hq List.not_mem_nil) dX3_group_34
      · replace h := on c_1774 h
        refine lv_iconst (v := 4) hx hb dX3_group_29 (by decide) ?_
        refine lv_goto (tgt := 34) hx hb dX3_group_30 (by decide) ?_
        rw [hQQ]
        exact W.iret hx hb hr (fun t ht hW => ⟨_, rfl, (Option.some.inj h).symm, ht⟩) (fun q hq => absurd hq List.not_mem_nil) dX3_group_34
  · replace h := on c_1772 h
    refine lv_lload_n hx hb dX3_group_7 rfl (lv_at hl 1 rfl) ?_
    refine lv_ldc2 (v := -9223372036854775808) hx hb hown (hts _ (List.mem_of_getElem? (i := 1) rfl)) dX3_group_8 ?_
    refine W.lcmp hx hb dX3_group_11 ?_
    refine lv_if_ne (tgt := 18) hx hb dX3_group_12 (by decide) (fun c_1775 => ?_) (fun c_1775 => ?_)
    · replace h := on c_1775 h
      refine lv_iload_n hx hb dX3_group_18 rfl (lv_at hl 0 rfl) ?_
      refine lv_iconst (v := 1) hx hb dX3_group_19 (by decide) ?_
      refine lv_icmp_lt (tgt := 33) hx hb dX3_group_20 (by decide) (fun c_1776 => ?_) (fun c_1776 => ?_)
      · replace h := op c_1776 h
        refine lv_iload_n hx hb dX3_group_33 rfl (lv_at hl 0 rfl) ?_
        rw [hQQ]
        exact W.iret hx hb hr (fun t ht hW => ⟨_, rfl, (Option.some.inj h).symm, ht⟩) (fun q hq => absurd hq List.not_mem_nil) dX3_group_34
      · replace h := on c_1776 h
        refine lv_iload_n hx hb dX3_group_23 rfl (lv_at hl 0 rfl) ?_
        refine lv_bipush (v := 8) hx hb dX3_group_24 (by decide) ?_
        refine lv_icmp_gt (tgt := 33) hx hb dX3_group_26 (by decide) (fun c_1777 => ?_) (fun c_1777 => ?_)
        · replace h := op c_1777 h
          refine lv_iload_n hx hb dX3_group_33 rfl (lv_at hl 0 rfl) ?_
          rw [hQQ]
          exact W.iret hx hb hr (fun t ht hW => ⟨_, rfl, (Option.some.inj h).symm, ht⟩) (fun q hq => absurd hq List.not_mem_nil) dX3_group_34
        · replace h := on c_1777 h
          refine lv_iconst (v := 4) hx hb dX3_group_29 (by decide) ?_
          refine lv_goto (tgt := 34) hx hb dX3_group_30 (by decide) ?_
          rw [hQQ]
          exact W.iret hx hb hr (fun t ht hW => ⟨_, rfl, (Option.some.inj h).symm, ht⟩) (fun q hq => absurd hq List.not_mem_nil) dX3_group_34
    · replace h := op c_1775 h
      refine lv_bipush (v := 14) hx hb dX3_group_15 (by decide) ?_
      rw [hQQ]
      exact W.iret hx hb hr (fun t ht hW => ⟨_, rfl, (Option.some.inj h).symm, ht⟩) (fun q hq => absurd hq List.not_mem_nil) dX3_group_17
def f_X3_sameWorth (x0 : Int32) (x1 : Int64) (x3 : Int32) (x4 : Int64) : Option Bool :=
  ((f_X3_group x0 x1).bind (fun o_1778 => ((f_X3_group x3 x4).bind (fun o_1780 => (if o_1778 = o_1780 then (if o_1778 = (4 : Int32) then ((f_X3_widened x0 (7 : Int32) x1).bind (fun o_1785 => ((f_X3_widened x3 (7 : Int32) x4).bind (fun o_1787 => (if (lg_cmp o_1785 o_1787) = 0 then (some true) else (some false)))))) else (if (lg_cmp x1 x4) = 0 then (some true) else (some false))) else (some false))))))
abbrev rm_X3_sameWorth : Room := { frames := 5, cells := 0, slots := 0, locals := 124 }
set_option maxHeartbeats 4000000 in
set_option maxRecDepth 100000 in
theorem c_X3_sameWorth (l : Launch) (dC : Nat → ClassId) (dI : Nat → Nat → Nat) (cB cC cI cJ cZ cT : ClassId) (x0 : Int32) (x1 : Int64) (x3 : Int32) (x4 : Int64) (o : Bool) (hf : f_X3_sameWorth x0 x1 x3 x4 = some o) : Met l yX3_sameWorth wsX3_sameWorth rm_X3_sameWorth (va_Pc [.int x0, .long x1, .int x3, .long x4] (fun _ => True)) (vp_Si (fun r => b2i o = r)) 0 0 (fun _ => False) := by
  refine Met.ofW (cc := cX3_sameWorth) (maxL := 7) (ret := (some .boolean)) (by decide +kernel) rfl ?_
  intro p e s m args below meth c s₁ B hml hv
  obtain ⟨hav, -⟩ := hv
  have hx := B.exec
  have hb := B.bytes
  have hr := B.returns
  have hts := atoms_spec (ws := wsX3_sameWorth) B.pre
  have hown : s.vm.findClass RX3 = some m.cls := findClass_of_methodNamed B.named
  have hlocks := B.notSynchronized
  refine wstart (rm := rm_X3_sameWorth) hav (Nat.le_of_ble_eq_true rfl) (fun QQ ls hQQ hl => ?_)
  have hl : lv_has ls 7 [(0, .int x0), (1, .long x1), (3, .int x3), (4, .long x4)] := hl
  have h := hf
  unfold f_X3_sameWorth at h
  refine lv_iload_n hx hb dX3_sameWorth_0 rfl (lv_at hl 0 rfl) ?_
  refine lv_lload_n hx hb dX3_sameWorth_1 rfl (lv_at hl 1 rfl) ?_
  obtain ⟨o_1778, hr_1778, h⟩ := ob h
  refine vp_callSi (va_Run.run (va_runS (As := [.int x0, .long x1]) (rest := []) ⟨hx, hb, hml, hown, hts⟩ (c_X3_group l dC dI cB cC cI cJ cZ cT x0 x1 o_1778 hr_1778) (va_cwS 2 hts gX3_sameWorth_X3_group rfl rfl rfl (by decide +kernel) ⟨Nat.le_of_ble_eq_true rfl, Nat.le_of_ble_eq_true rfl⟩) ⟨blT, fun U hU hW => ⟨rfl, trivial⟩⟩ rfl rfl hl.1 rfl (lv_room (Nat.le_of_ble_eq_true rfl)) dX3_sameWorth_2 ⟨Nat.le_of_ble_eq_true rfl, Nat.le_of_ble_eq_true rfl⟩)) (fun r_1778 e_1778 => ?_)
  subst e_1778
  refine lv_istore (lv' := [(6, .int o_1778), (0, .int x0), (1, .long x1), (3, .int x3), (4, .long x4)]) hx hb dX3_sameWorth_5 hl (by decide) rfl (fun ls hl => ?_)
  refine lv_iload hx hb dX3_sameWorth_7 (lv_at hl 0 rfl) ?_
  refine lv_iload_n hx hb dX3_sameWorth_9 rfl (lv_at hl 3 rfl) ?_
  refine lv_lload hx hb dX3_sameWorth_10 (lv_at hl 4 rfl) ?_
  obtain ⟨o_1780, hr_1780, h⟩ := ob h
  refine vp_callSi (va_Run.run (va_runS (As := [.int x3, .long x4]) (rest := [.int o_1778]) ⟨hx, hb, hml, hown, hts⟩ (c_X3_group l dC dI cB cC cI cJ cZ cT x3 x4 o_1780 hr_1780) (va_cwS 2 hts gX3_sameWorth_X3_group rfl rfl rfl (by decide +kernel) ⟨Nat.le_of_ble_eq_true rfl, Nat.le_of_ble_eq_true rfl⟩) ⟨blT, fun U hU hW => ⟨rfl, trivial⟩⟩ rfl rfl hl.1 rfl (lv_room (Nat.le_of_ble_eq_true rfl)) dX3_sameWorth_12 ⟨Nat.le_of_ble_eq_true rfl, Nat.le_of_ble_eq_true rfl⟩)) (fun r_1780 e_1780 => ?_)
  subst e_1780
  refine lv_icmp_eq (tgt := 20) hx hb dX3_sameWorth_15 (by decide) (fun c_1782 => ?_) (fun c_1782 => ?_)
  · replace h := op c_1782 h
    refine lv_iload hx hb dX3_sameWorth_20 (lv_at hl 0 rfl) ?_
    refine lv_iconst (v := 4) hx hb dX3_sameWorth_22 (by decide) ?_
    refine lv_icmp_ne (tgt := 51) hx hb dX3_sameWorth_23 (by decide) (fun c_1783 => ?_) (fun c_1783 => ?_)
    · replace h := on c_1783 h
      refine lv_lload_n hx hb dX3_sameWorth_51 rfl (lv_at hl 2 rfl) ?_
      refine lv_lload hx hb dX3_sameWorth_52 (lv_at hl 4 rfl) ?_
      refine W.lcmp hx hb dX3_sameWorth_54 ?_
      refine lv_if_ne (tgt := 62) hx hb dX3_sameWorth_55 (by decide) (fun c_1784 => ?_) (fun c_1784 => ?_)
      · replace h := on c_1784 h
        refine lv_iconst (v := 0) hx hb dX3_sameWorth_62 (by decide) ?_
        rw [hQQ]
        exact W.zret hx hb hr rfl (fun t ht hW => ⟨_, rfl, (congrArg b2i (Option.some.inj h).symm), ht⟩) (fun q hq => absurd hq List.not_mem_nil) dX3_sameWorth_63
      · replace h := op c_1784 h
        refine lv_iconst (v := 1) hx hb dX3_sameWorth_58 (by decide) ?_
        refine lv_goto (tgt := 63) hx hb dX3_sameWorth_59 (by decide) ?_
        rw [hQQ]
        exact W.zret hx hb hr rfl (fun t ht hW => ⟨_, rfl, (congrArg b2i (Option.some.inj h).symm), ht⟩) (fun q hq => absurd hq List.not_mem_nil) dX3_sameWorth_63
    · replace h := op c_1783 h
      refine lv_iload_n hx hb dX3_sameWorth_26 rfl (lv_at hl 1 rfl) ?_
      refine lv_bipush (v := 7) hx hb dX3_sameWorth_27 (by decide) ?_
      refine lv_lload_n hx hb dX3_sameWorth_29 rfl (lv_at hl 2 rfl) ?_
      obtain ⟨o_1785, hr_1785, h⟩ := ob h
      refine vp_callSl (va_Run.run (va_runS (As := [.int x0, .int (7 : Int32), .long x1]) (rest := []) ⟨hx, hb, hml, hown, hts⟩ (c_X3_widened l dC dI cB cC cI cJ cZ cT x0 (7 : Int32) x1 o_1785 hr_1785) (va_cwS 3 hts gX3_sameWorth_X3_widened rfl rfl rfl (by decide +kernel) ⟨Nat.le_of_ble_eq_true rfl, Nat.le_of_ble_eq_true rfl⟩) ⟨blT, fun U hU hW => ⟨rfl, trivial⟩⟩ rfl rfl hl.1 rfl (lv_room (Nat.le_of_ble_eq_true rfl)) dX3_sameWorth_30 ⟨Nat.le_of_ble_eq_true rfl, Nat.le_of_ble_eq_true rfl⟩)) (fun r_1785 e_1785 => ?_)
      subst e_1785
      refine lv_iload_n hx hb dX3_sameWorth_33 rfl (lv_at hl 3 rfl) ?_
      refine lv_bipush (v := 7) hx hb dX3_sameWorth_34 (by decide) ?_
      refine lv_lload hx hb dX3_sameWorth_36 (lv_at hl 4 rfl) ?_
      obtain ⟨o_1787, hr_1787, h⟩ := ob h
      refine vp_callSl (va_Run.run (va_runS (As := [.int x3, .int (7 : Int32), .long x4]) (rest := [.long o_1785]) ⟨hx, hb, hml, hown, hts⟩ (c_X3_widened l dC dI cB cC cI cJ cZ cT x3 (7 : Int32) x4 o_1787 hr_1787) (va_cwS 3 hts gX3_sameWorth_X3_widened rfl rfl rfl (by decide +kernel) ⟨Nat.le_of_ble_eq_true rfl, Nat.le_of_ble_eq_true rfl⟩) ⟨blT, fun U hU hW => ⟨rfl, trivial⟩⟩ rfl rfl hl.1 rfl (lv_room (Nat.le_of_ble_eq_true rfl)) dX3_sameWorth_38 ⟨Nat.le_of_ble_eq_true rfl, Nat.le_of_ble_eq_true rfl⟩)) (fun r_1787 e_1787 => ?_)
      subst e_1787
      refine W.lcmp hx hb dX3_sameWorth_41 ?_
      refine lv_if_ne (tgt := 49) hx hb dX3_sameWorth_42 (by decide) (fun c_1789 => ?_) (fun c_1789 => ?_)
      · replace h := on c_1789 h
        refine lv_iconst (v := 0) hx hb dX3_sameWorth_49 (by decide) ?_
        rw [hQQ]
        exact W.zret hx hb hr rfl (fun t ht hW => ⟨_, rfl, (congrArg b2i (Option.some.inj h).symm), ht⟩) (fun q hq => absurd hq List.not_mem_nil) dX3_sameWorth_50
      · replace h := op c_1789 h
        refine lv_iconst (v := 1) hx hb dX3_sameWorth_45 (by decide) ?_
        refine lv_goto (tgt := 50) hx hb dX3_sameWorth_46 (by decide) ?_
        rw [hQQ]
        exact W.zret hx hb hr rfl (fun t ht hW => ⟨_, rfl, (congrArg b2i (Option.some.inj h).symm), ht⟩) (fun q hq => absurd hq List.not_mem_nil) dX3_sameWorth_50
  · replace h := on c_1782 h
    refine lv_iconst (v := 0) hx hb dX3_sameWorth_18 (by decide) ?_
    rw [hQQ]
    exact W.zret hx hb hr rfl (fun t ht hW => ⟨_, rfl, (congrArg b2i (Option.some.inj h).symm), ht⟩) (fun q hq => absurd hq List.not_mem_nil) dX3_sameWorth_19
