def f_X10_isLesser (x1 : Int32) (x2 : Int64) (x4 : Int64) : Option Bool :=
  (if (lg_cmp x2 x4) = 0 then (some false) else (if x1 < (8 : Int32) then (if x1 = (6 : Int32) then ((f_X10_worth x1 x2).bind (fun o_665 => ((f_X10_worth x1 x4).bind (fun o_667 => (if 0 ≤ (Op.cmpValue (FP.dcmp o_665 o_667) .g) then (some false) else (some true)))))) else (if x1 = (7 : Int32) then ((f_X10_worth x1 x2).bind (fun o_676 => ((f_X10_worth x1 x4).bind (fun o_678 => (if 0 ≤ (Op.cmpValue (FP.dcmp o_676 o_678) .g) then (some false) else (some true)))))) else (if x1 = (9 : Int32) then (if (lg_cmp (x2 - x2 / (26 : Int64) * (26 : Int64)) (x4 - x4 / (26 : Int64) * (26 : Int64))) = 0 then (if 0 ≤ (lg_cmp x2 x4) then (some false) else (some true)) else (if 0 ≤ (lg_cmp (x2 - x2 / (26 : Int64) * (26 : Int64)) (x4 - x4 / (26 : Int64) * (26 : Int64))) then (some false) else (some true))) else (if 0 ≤ (lg_cmp x2 x4) then (some false) else (some true))))) else (if (lg_cmp x2 (-9223372036854775808 : Int64)) = 0 then (if (lg_cmp x2 (-9223372036854775808 : Int64)) = 0 then (some true) else (some false)) else (if (lg_cmp x4 (-9223372036854775808 : Int64)) = 0 then (if (lg_cmp x2 (-9223372036854775808 : Int64)) = 0 then (some true) else (some false)) else (if x1 = (6 : Int32) then ((f_X10_worth x1 x2).bind (fun o_685 => ((f_X10_worth x1 x4).bind (fun o_687 => (if 0 ≤ (Op.cmpValue (FP.dcmp o_685 o_687) .g) then (some false) else (some true)))))) else (if x1 = (7 : Int32) then ((f_X10_worth x1 x2).bind (fun o_696 => ((f_X10_worth x1 x4).bind (fun o_698 => (if 0 ≤ (Op.cmpValue (FP.dcmp o_696 o_698) .g) then (some false) else (some true)))))) else (if x1 = (9 : Int32) then (if (lg_cmp (x2 - x2 / (26 : Int64) * (26 : Int64)) (x4 - x4 / (26 : Int64) * (26 : Int64))) = 0 then (if 0 ≤ (lg_cmp x2 x4) then (some false) else (some true)) else (if 0 ≤ (lg_cmp (x2 - x2 / (26 : Int64) * (26 : Int64)) (x4 - x4 / (26 : Int64) * (26 : Int64))) then (some false) else (some true))) else (if 0 ≤ (lg_cmp x2 x4) then (some false) else (some true)))))))))
abbrev rm_X10_isLesser : Room := { frames := 2, cells := 0, slots := 0, locals := 45 }
set_option maxHeartbeats 4000000 in
set_option maxRecDepth 100000 in
theorem c_X10_isLesser (l : Launch) (dC : Nat → ClassId) (dI : Nat → Nat → Nat) (cB cC cI cJ cZ cT : ClassId) (h0 : Nat) (x1 : Int32) (x2 : Int64) (x4 : Int64) (o : Bool) (hf : f_X10_isLesser x1 x2 x4 = some o) : Met l yX10_isLesser wsX10_isLesser rm_X10_isLesser (va_Pc [.ref h0, .int x1, .long x2, .long x4] (fun _ => True)) (vp_Si (fun r => b2i o = r)) 0 0 (fun _ => False) := by
  refine Met.ofW (cc := cX10_isLesser) (maxL := 6) (ret := (some .boolean)) (by decide +kernel) rfl ?_
  intro p e s m args below meth c s₁ B hml hv
  obtain ⟨hav, -⟩ := hv
  have hx := B.exec
  have hb := B.bytes
  have hr := B.returns
  have hts := atoms_spec (ws := wsX10_isLesser) B.pre
  have hown : s.vm.findClass RX10 = some m.cls := findClass_of_methodNamed B.named
  have hlocks := B.notSynchronized
  refine wstart (rm := rm_X10_isLesser) hav (Nat.le_of_ble_eq_true rfl) (fun QQ ls hQQ hl => ?_)
  have hl : lv_has ls 6 [(0, .ref h0), (1, .int x1), (2, .long x2), (4, .long x4)] := hl
  have h := hf
  unfold f_X10_isLesser at h
  refine lv_lload_n hx hb dX10_isLesser_0 rfl (lv_at hl 2 rfl) ?_
  refine lv_lload hx hb dX10_isLesser_1 (lv_at hl 3 rfl) ?_
  refine W.lcmp hx hb dX10_isLesser_3 ?_
  refine lv_if_ne (tgt := 9) hx hb dX10_isLesser_4 (by decide) (fun c_662 => ?_) (fun c_662 => ?_)
  · replace h := on c_662 h
    refine lv_iload_n hx hb dX10_isLesser_9 rfl (lv_at hl 1 rfl) ?_
    refine lv_bipush (v := 8) hx hb dX10_isLesser_10 (by decide) ?_
    refine lv_icmp_lt (tgt := 46) hx hb dX10_isLesser_12 (by decide) (fun c_663 => ?_) (fun c_663 => ?_)
    · replace h := op c_663 h
      refine lv_iload_n hx hb dX10_isLesser_46 rfl (lv_at hl 1 rfl) ?_
      refine lv_bipush (v := 6) hx hb dX10_isLesser_47 (by decide) ?_
      refine lv_icmp_eq (tgt := 58) hx hb dX10_isLesser_49 (by decide) (fun c_664 => ?_) (fun c_664 => ?_)
      · replace h := op c_664 h
        refine lv_iload_n hx hb dX10_isLesser_58 rfl (lv_at hl 1 rfl) ?_
        refine lv_lload_n hx hb dX10_isLesser_59 rfl (lv_at hl 2 rfl) ?_
        obtain ⟨o_665, hr_665, h⟩ := ob h
        refine vp_callSd (va_Run.run (va_runS (As := [.int x1, .long x2]) (rest := []) ⟨hx, hb, hml, hown, hts⟩ (c_X10_worth l dC dI cB cC cI cJ cZ cT x1 x2 o_665 hr_665) (va_cwS 2 hts gX10_isLesser_X10_worth rfl rfl rfl (by decide +kernel) ⟨Nat.le_of_ble_eq_true rfl, Nat.le_of_ble_eq_true rfl⟩) ⟨blT, fun U hU hW => ⟨rfl, trivial⟩⟩ rfl rfl hl.1 rfl (lv_room (Nat.le_of_ble_eq_true rfl)) dX10_isLesser_60 ⟨Nat.le_of_ble_eq_true rfl, Nat.le_of_ble_eq_true rfl⟩)) (fun r_665 e_665 => ?_)
        subst e_665
        refine lv_iload_n hx hb dX10_isLesser_63 rfl (lv_at hl 1 rfl) ?_
        refine lv_lload hx hb dX10_isLesser_64 (lv_at hl 3 rfl) ?_
        obtain ⟨o_667, hr_667, h⟩ := ob h
        refine vp_callSd (va_Run.run (va_runS (As := [.int x1, .long x4]) (rest := [.double o_665]) ⟨hx, hb, hml, hown, hts⟩ (c_X10_worth l dC dI cB cC cI cJ cZ cT x1 x4 o_667 hr_667) (va_cwS 2 hts gX10_isLesser_X10_worth rfl rfl rfl (by decide +kernel) ⟨Nat.le_of_ble_eq_true rfl, Nat.le_of_ble_eq_true rfl⟩) ⟨blT, fun U hU hW => ⟨rfl, trivial⟩⟩ rfl rfl hl.1 rfl (lv_room (Nat.le_of_ble_eq_true rfl)) dX10_isLesser_66 ⟨Nat.le_of_ble_eq_true rfl, Nat.le_of_ble_eq_true rfl⟩)) (fun r_667 e_667 => ?_)
        subst e_667
        refine lv_dcmp hx hb dX10_isLesser_69 ?_
        refine lv_if_ge (tgt := 77) hx hb dX10_isLesser_70 (by decide) (fun c_669 => ?_) (fun c_669 => ?_)
        · replace h := op c_669 h
          refine lv_iconst (v := 0) hx hb dX10_isLesser_77 (by decide) ?_
          rw [hQQ]
          exact W.zret hx hb hr rfl (fun t ht hW => ⟨_, rfl, (congrArg b2i (Option.some.inj h).symm), ht⟩) (fun q hq => absurd hq List.not_mem_nil) dX10_isLesser_78
        · replace h := on c_669 h
          refine lv_iconst (v := 1) hx hb dX10_isLesser_73 (by decide) ?_
          refine lv_goto (tgt := 78) hx hb dX10_isLesser_74 (by decide) ?_
          rw [hQQ]
          exact W.zret hx hb hr rfl (fun t ht hW => ⟨_, rfl, (congrArg b2i (Option.some.inj h).symm), ht⟩) (fun q hq => absurd hq List.not_mem_nil) dX10_isLesser_78
      · replace h := on c_664 h
        refine lv_iload_n hx hb dX10_isLesser_52 rfl (lv_at hl 1 rfl) ?_
        refine lv_bipush (v := 7) hx hb dX10_isLesser_53 (by decide) ?_
        refine lv_icmp_ne (tgt := 79) hx hb dX10_isLesser_55 (by decide) (fun c_670 => ?_) (fun c_670 => ?_)
        · replace h := on c_670 h
          refine lv_iload_n hx hb dX10_isLesser_79 rfl (lv_at hl 1 rfl) ?_
          refine lv_bipush (v := 9) hx hb dX10_isLesser_80 (by decide) ?_
          refine lv_icmp_ne (tgt := 138) hx hb dX10_isLesser_82 (by decide) (fun c_671 => ?_) (fun c_671 => ?_)
          · replace h := on c_671 h
            refine lv_lload_n hx hb dX10_isLesser_138 rfl (lv_at hl 2 rfl) ?_
            refine lv_lload hx hb dX10_isLesser_139 (lv_at hl 3 rfl) ?_
            refine W.lcmp hx hb dX10_isLesser_141 ?_
            refine lv_if_ge (tgt := 149) hx hb dX10_isLesser_142 (by decide) (fun c_672 => ?_) (fun c_672 => ?_)
            · replace h := op c_672 h
              refine lv_iconst (v := 0) hx hb dX10_isLesser_149 (by decide) ?_
              rw [hQQ]
              exact W.zret hx hb hr rfl (fun t ht hW => ⟨_, rfl, (congrArg b2i (Option.some.inj h).symm), ht⟩) (fun q hq => absurd hq List.not_mem_nil) dX10_isLesser_150
            · replace h := on c_672 h
              refine lv_iconst (v := 1) hx hb dX10_isLesser_145 (by decide) ?_
              refine lv_goto (tgt := 150) hx hb dX10_isLesser_146 (by decide) ?_
              rw [hQQ]
              exact W.zret hx hb hr rfl (fun t ht hW => ⟨_, rfl, (congrArg b2i (Option.some.inj h).symm), ht⟩) (fun q hq => absurd hq List.not_mem_nil) dX10_isLesser_150
          · replace h := op c_671 h
            refine lv_lload_n hx hb dX10_isLesser_85 rfl (lv_at hl 2 rfl) ?_
            refine lv_ldc2 (v := 26) hx hb hown (hts _ (List.mem_of_getElem? (i := 2) rfl)) dX10_isLesser_86 ?_
            refine lv_lrem hx hb dX10_isLesser_89 (by decide) ?_
            refine lv_lload hx hb dX10_isLesser_90 (lv_at hl 3 rfl) ?_
            refine lv_ldc2 (v := 26) hx hb hown (hts _ (List.mem_of_getElem? (i := 2) rfl)) dX10_isLesser_92 ?_
            refine lv_lrem hx hb dX10_isLesser_95 (by decide) ?_
            refine W.lcmp hx hb dX10_isLesser_96 ?_
            refine lv_if_eq (tgt := 123) hx hb dX10_isLesser_97 (by decide) (fun c_673 => ?_) (fun c_673 => ?_)
            · replace h := op c_673 h
              refine lv_lload_n hx hb dX10_isLesser_123 rfl (lv_at hl 2 rfl) ?_
              refine lv_lload hx hb dX10_isLesser_124 (lv_at hl 3 rfl) ?_
              refine W.lcmp hx hb dX10_isLesser_126 ?_
              refine lv_if_ge (tgt := 134) hx hb dX10_isLesser_127 (by decide) (fun c_674 => ?_) (fun c_674 => ?_)
              · replace h := op c_674 h
                refine lv_iconst (v := 0) hx hb dX10_isLesser_134 (by decide) ?_
                refine lv_goto (tgt := 150) hx hb dX10_isLesser_135 (by decide) ?_
                rw [hQQ]
                exact W.zret hx hb hr rfl (fun t ht hW => ⟨_, rfl, (congrArg b2i (Option.some.inj h).symm), ht⟩) (fun q hq => absurd hq List.not_mem_nil) dX10_isLesser_150
              · replace h := on c_674 h
                refine lv_iconst (v := 1) hx hb dX10_isLesser_130 (by decide) ?_
                refine lv_goto (tgt := 150) hx hb dX10_isLesser_131 (by decide) ?_
                rw [hQQ]
                exact W.zret hx hb hr rfl (fun t ht hW => ⟨_, rfl, (congrArg b2i (Option.some.inj h).symm), ht⟩) (fun q hq => absurd hq List.not_mem_nil) dX10_isLesser_150
            · replace h := on c_673 h
              refine lv_lload_n hx hb dX10_isLesser_100 rfl (lv_at hl 2 rfl) ?_
              refine lv_ldc2 (v := 26) hx hb hown (hts _ (List.mem_of_getElem? (i := 2) rfl)) dX10_isLesser_101 ?_
              refine lv_lrem hx hb dX10_isLesser_104 (by decide) ?_
              refine lv_lload hx hb dX10_isLesser_105 (lv_at hl 3 rfl) ?_
              refine lv_ldc2 (v := 26) hx hb hown (hts _ (List.mem_of_getElem? (i := 2) rfl)) dX10_isLesser_107 ?_
              refine lv_lrem hx hb dX10_isLesser_110 (by decide) ?_
              refine W.lcmp hx hb dX10_isLesser_111 ?_
              refine lv_if_ge (tgt := 119) hx hb dX10_isLesser_112 (by decide) (fun c_675 => ?_) (fun c_675 => ?_)
              · replace h := op c_675 h
                refine lv_iconst (v := 0) hx hb dX10_isLesser_119 (by decide) ?_
                refine lv_goto (tgt := 150) hx hb dX10_isLesser_120 (by decide) ?_
                rw [hQQ]
                exact W.zret hx hb hr rfl (fun t ht hW => ⟨_, rfl, (congrArg b2i (Option.some.inj h).symm), ht⟩) (fun q hq => absurd hq List.not_mem_nil) dX10_isLesser_150
              · replace h := on c_675 h
                refine lv_iconst (v := 1) hx hb dX10_isLesser_115 (by decide) ?_
                refine lv_goto (tgt := 150) hx hb dX10_isLesser_116 (by decide) ?_
                rw [hQQ]
                exact W.zret hx hb hr rfl (fun t ht hW => ⟨_, rfl, (congrArg b2i (Option.some.inj h).symm), ht⟩) (fun q hq => absurd hq List.not_mem_nil) dX10_isLesser_150
        · replace h := op c_670 h
          refine lv_iload_n hx hb dX10_isLesser_58 rfl (lv_at hl 1 rfl) ?_
          refine lv_lload_n hx hb dX10_isLesser_59 rfl (lv_at hl 2 rfl) ?_
          obtain ⟨o_676, hr_676, h⟩ := ob h
          refine vp_callSd (va_Run.run (va_runS (As := [.int x1, .long x2]) (rest := []) ⟨hx, hb, hml, hown, hts⟩ (c_X10_worth l dC dI cB cC cI cJ cZ cT x1 x2 o_676 hr_676) (va_cwS 2 hts gX10_isLesser_X10_worth rfl rfl rfl (by decide +kernel) ⟨Nat.le_of_ble_eq_true rfl, Nat.le_of_ble_eq_true rfl⟩) ⟨blT, fun U hU hW => ⟨rfl, trivial⟩⟩ rfl rfl hl.1 rfl (lv_room (Nat.le_of_ble_eq_true rfl)) dX10_isLesser_60 ⟨Nat.le_of_ble_eq_true rfl, Nat.le_of_ble_eq_true rfl⟩)) (fun r_676 e_676 => ?_)
          subst e_676
          refine lv_iload_n hx hb dX10_isLesser_63 rfl (lv_at hl 1 rfl) ?_
          refine lv_lload hx hb dX10_isLesser_64 (lv_at hl 3 rfl) ?_
          obtain ⟨o_678, hr_678, h⟩ := ob h
          refine vp_callSd (va_Run.run (va_runS (As := [.int x1, .long x4]) (rest := [.double o_676]) ⟨hx, hb, hml, hown, hts⟩ (c_X10_worth l dC dI cB cC cI cJ cZ cT x1 x4 o_678 hr_678) (va_cwS 2 hts gX10_isLesser_X10_worth rfl rfl rfl (by decide +kernel) ⟨Nat.le_of_ble_eq_true rfl, Nat.le_of_ble_eq_true rfl⟩) ⟨blT, fun U hU hW => ⟨rfl, trivial⟩⟩ rfl rfl hl.1 rfl (lv_room (Nat.le_of_ble_eq_true rfl)) dX10_isLesser_66 ⟨Nat.le_of_ble_eq_true rfl, Nat.le_of_ble_eq_true rfl⟩)) (fun r_678 e_678 => ?_)
          subst e_678
          refine lv_dcmp hx hb dX10_isLesser_69 ?_
          refine lv_if_ge (tgt := 77) hx hb dX10_isLesser_70 (by decide) (fun c_680 => ?_) (fun c_680 => ?_)
          · replace h := op c_680 h
            refine lv_iconst (v := 0) hx hb dX10_isLesser_77 (by decide) ?_
            rw [hQQ]
            exact W.zret hx hb hr rfl (fun t ht hW => ⟨_, rfl, (congrArg b2i (Option.some.inj h).symm), ht⟩) (fun q hq => absurd hq List.not_mem_nil) dX10_isLesser_78
          · replace h := on c_680 h
            refine lv_iconst (v := 1) hx hb dX10_isLesser_73 (by decide) ?_
            refine lv_goto (tgt := 78) hx hb dX10_isLesser_74 (by decide) ?_
            rw [hQQ]
            exact W.zret hx hb hr rfl (fun t ht hW => ⟨_, rfl, (congrArg b2i (Option.some.inj h).symm), ht⟩) (fun q hq => absurd hq List.not_mem_nil) dX10_isLesser_78
    · replace h := on c_663 h
      refine lv_lload_n hx hb dX10_isLesser_15 rfl (lv_at hl 2 rfl) ?_
      refine lv_ldc2 (v := -9223372036854775808) hx hb hown (hts _ (List.mem_of_getElem? (i := 1) rfl)) dX10_isLesser_16 ?_
      refine W.lcmp hx hb dX10_isLesser_19 ?_
      refine lv_if_eq (tgt := 32) hx hb dX10_isLesser_20 (by decide) (fun c_681 => ?_) (fun c_681 => ?_)
      · replace h := op c_681 h
        refine lv_lload_n hx hb dX10_isLesser_32 rfl (lv_at hl 2 rfl) ?_
        refine lv_ldc2 (v := -9223372036854775808) hx hb hown (hts _ (List.mem_of_getElem? (i := 1) rfl)) dX10_isLesser_33 ?_
        refine W.lcmp hx hb dX10_isLesser_36 ?_
        refine lv_if_ne (tgt := 44) hx hb dX10_isLesser_37 (by decide) (fun c_682 => ?_) (fun c_682 => ?_)
        · replace h := on c_682 h
          refine lv_iconst (v := 0) hx hb dX10_isLesser_44 (by decide) ?_
          rw [hQQ]
          exact W.zret hx hb hr rfl (fun t ht hW => ⟨_, rfl, (congrArg b2i (Option.some.inj h).symm), ht⟩) (fun q hq => absurd hq List.not_mem_nil) dX10_isLesser_45
        · replace h := op c_682 h
          refine lv_iconst (v := 1) hx hb dX10_isLesser_40 (by decide) ?_
          refine lv_goto (tgt := 45) hx hb dX10_isLesser_41 (by decide) ?_
          rw [hQQ]
          exact W.zret hx hb hr rfl (fun t ht hW => ⟨_, rfl, (congrArg b2i (Option.some.inj h).symm), ht⟩) (fun q hq => absurd hq List.not_mem_nil) dX10_isLesser_45
      · replace h := on c_681 h
        refine lv_lload hx hb dX10_isLesser_23 (lv_at hl 3 rfl) ?_
        refine lv_ldc2 (v := -9223372036854775808) hx hb hown (hts _ (List.mem_of_getElem? (i := 1) rfl)) dX10_isLesser_25 ?_
        refine W.lcmp hx hb dX10_isLesser_28 ?_
        refine lv_if_ne (tgt := 46) hx hb dX10_isLesser_29 (by decide) (fun c_683 => ?_) (fun c_683 => ?_)
        · replace h := on c_683 h
          refine lv_iload_n hx hb dX10_isLesser_46 rfl (lv_at hl 1 rfl) ?_
          refine lv_bipush (v := 6) hx hb dX10_isLesser_47 (by decide) ?_
          refine lv_icmp_eq (tgt := 58) hx hb dX10_isLesser_49 (by decide) (fun c_684 => ?_) (fun c_684 => ?_)
          · replace h := op c_684 h
            refine lv_iload_n hx hb dX10_isLesser_58 rfl (lv_at hl 1 rfl) ?_
            refine lv_lload_n hx hb dX10_isLesser_59 rfl (lv_at hl 2 rfl) ?_
            obtain ⟨o_685, hr_685, h⟩ := ob h
            refine vp_callSd (va_Run.run (va_runS (As := [.int x1, .long x2]) (rest := []) ⟨hx, hb, hml, hown, hts⟩ (c_X10_worth l dC dI cB cC cI cJ cZ cT x1 x2 o_685 hr_685) (va_cwS 2 hts gX10_isLesser_X10_worth rfl rfl rfl (by decide +kernel) ⟨Nat.le_of_ble_eq_true rfl, Nat.le_of_ble_eq_true rfl⟩) ⟨blT, fun U hU hW => ⟨rfl, trivial⟩⟩ rfl rfl hl.1 rfl (lv_room (Nat.le_of_ble_eq_true rfl)) dX10_isLesser_60 ⟨Nat.le_of_ble_eq_true rfl, Nat.le_of_ble_eq_true rfl⟩)) (fun r_685 e_685 => ?_)
            subst e_685
            refine lv_iload_n hx hb dX10_isLesser_63 rfl (lv_at hl 1 rfl) ?_
            refine lv_lload hx hb dX10_isLesser_64 (lv_at hl 3 rfl) ?_
            obtain ⟨o_687, hr_687, h⟩ := ob h
            refine vp_callSd (va_Run.run (va_runS (As := [.int x1, .long x4]) (rest := [.double o_685]) ⟨hx, hb, hml, hown, hts⟩ (c_X10_worth l dC dI cB cC cI cJ cZ cT x1 x4 o_687 hr_687) (va_cwS 2 hts gX10_isLesser_X10_worth rfl rfl rfl (by decide +kernel) ⟨Nat.le_of_ble_eq_true rfl, Nat.le_of_ble_eq_true rfl⟩) ⟨blT, fun U hU hW => ⟨rfl, trivial⟩⟩ rfl rfl hl.1 rfl (lv_room (Nat.le_of_ble_eq_true rfl)) dX10_isLesser_66 ⟨Nat.le_of_ble_eq_true rfl, Nat.le_of_ble_eq_true rfl⟩)) (fun r_687 e_687 => ?_)
            subst e_687
            refine lv_dcmp hx hb dX10_isLesser_69 ?_
            refine lv_if_ge (tgt := 77) hx hb dX10_isLesser_70 (by decide) (fun c_689 => ?_) (fun c_689 => ?_)
            · replace h := op c_689 h
              refine lv_iconst (v := 0) hx hb dX10_isLesser_77 (by decide) ?_
              rw [hQQ]
              exact W.zret hx hb hr rfl (fun t ht hW => ⟨_, rfl, (congrArg b2i (Option.some.inj h).symm), ht⟩) (fun q hq => absurd hq List.not_mem_nil) dX10_isLesser_78
            · replace h := on c_689 h
              refine lv_iconst (v := 1) hx hb dX10_isLesser_73 (by decide) ?_
              refine lv_goto (tgt := 78) hx hb dX10_isLesser_74 (by decide) ?_
              rw [hQQ]
              exact W.zret hx hb hr rfl (fun t ht hW => ⟨_, rfl, (congrArg b2i (Option.some.inj h).symm), ht⟩) (fun q hq => absurd hq List.not_mem_nil) dX10_isLesser_78
          · replace h := on c_684 h
            refine lv_iload_n hx hb dX10_isLesser_52 rfl (lv_at hl 1 rfl) ?_
            refine lv_bipush (v := 7) hx hb dX10_isLesser_53 (by decide) ?_
            refine lv_icmp_ne (tgt := 79) hx hb dX10_isLesser_55 (by decide) (fun c_690 => ?_) (fun c_690 => ?_)
            · replace h := on c_690 h
              refine lv_iload_n hx hb dX10_isLesser_79 rfl (lv_at hl 1 rfl) ?_
              refine lv_bipush (v := 9) hx hb dX10_isLesser_80 (by decide) ?_
              refine lv_icmp_ne (tgt := 138) hx hb dX10_isLesser_82 (by decide) (fun c_691 => ?_) (fun c_691 => ?_)
              · replace h := on c_691 h
                refine lv_lload_n hx hb dX10_isLesser_138 rfl (lv_at hl 2 rfl) ?_
                refine lv_lload hx hb dX10_isLesser_139 (lv_at hl 3 rfl) ?_
                refine W.lcmp hx hb dX10_isLesser_141 ?_
                refine lv_if_ge (tgt := 149) hx hb dX10_isLesser_142 (by decide) (fun c_692 => ?_) (fun c_692 => ?_)
                · replace h := op c_692 h
                  refine lv_iconst (v := 0) hx hb dX10_isLesser_149 (by decide) ?_
                  rw [hQQ]
                  exact W.zret hx hb hr rfl (fun t ht hW => ⟨_, rfl, (congrArg b2i (Option.some.inj h).symm), ht⟩) (fun q hq => absurd hq List.not_mem_nil) dX10_isLesser_150
                · replace h := on c_692 h
                  refine lv_iconst (v := 1) hx hb dX10_isLesser_145 (by decide) ?_
                  refine lv_goto (tgt := 150) hx hb dX10_isLesser_146 (by decide) ?_
                  rw [hQQ]
                  exact W.zret hx hb hr rfl (fun t ht hW => ⟨_, rfl, (congrArg b2i (Option.some.inj h).symm), ht⟩) (fun q hq => absurd hq List.not_mem_nil) dX10_isLesser_150
              · replace h := op c_691 h
                refine lv_lload_n hx hb dX10_isLesser_85 rfl (lv_at hl 2 rfl) ?_
                refine lv_ldc2 (v := 26) hx hb hown (hts _ (List.mem_of_getElem? (i := 2) rfl)) dX10_isLesser_86 ?_
                refine lv_lrem hx hb dX10_isLesser_89 (by decide) ?_
                refine lv_lload hx hb dX10_isLesser_90 (lv_at hl 3 rfl) ?_
                refine lv_ldc2 (v := 26) hx hb hown (hts _ (List.mem_of_getElem? (i := 2) rfl)) dX10_isLesser_92 ?_
                refine lv_lrem hx hb dX10_isLesser_95 (by decide) ?_
                refine W.lcmp hx hb dX10_isLesser_96 ?_
                refine lv_if_eq (tgt := 123) hx hb dX10_isLesser_97 (by decide) (fun c_693 => ?_) (fun c_693 => ?_)
                · replace h := op c_693 h
                  refine lv_lload_n hx hb dX10_isLesser_123 rfl (lv_at hl 2 rfl) ?_
                  refine lv_lload hx hb dX10_isLesser_124 (lv_at hl 3 rfl) ?_
                  refine W.lcmp hx hb dX10_isLesser_126 ?_
                  refine lv_if_ge (tgt := 134) hx hb dX10_isLesser_127 (by decide) (fun c_694 => ?_) (fun c_694 => ?_)
                  · replace h := op c_694 h
                    refine lv_iconst (v := 0) hx hb dX10_isLesser_134 (by decide) ?_
                    refine lv_goto (tgt := 150) hx hb dX10_isLesser_135 (by decide) ?_
                    rw [hQQ]
                    exact W.zret hx hb hr rfl (fun t ht hW => ⟨_, rfl, (congrArg b2i (Option.some.inj h).symm), ht⟩) (fun q hq => absurd hq List.not_mem_nil) dX10_isLesser_150
                  · replace h := on c_694 h
                    refine lv_iconst (v := 1) hx hb dX10_isLesser_130 (by decide) ?_
                    refine lv_goto (tgt := 150) hx hb dX10_isLesser_131 (by decide) ?_
                    rw [hQQ]
                    exact W.zret hx hb hr rfl (fun t ht hW => ⟨_, rfl, (congrArg b2i (Option.some.inj h).symm), ht⟩) (fun q hq => absurd hq List.not_mem_nil) dX10_isLesser_150
                · replace h := on c_693 h
                  refine lv_lload_n hx hb dX10_isLesser_100 rfl (lv_at hl 2 rfl) ?_
                  refine lv_ldc2 (v := 26) hx hb hown (hts _ (List.mem_of_getElem? (i := 2) rfl)) dX10_isLesser_101 ?_
                  refine lv_lrem hx hb dX10_isLesser_104 (by decide) ?_
                  refine lv_lload hx hb dX10_isLesser_105 (lv_at hl 3 rfl) ?_
                  refine lv_ldc2 (v := 26) hx hb hown (hts _ (List.mem_of_getElem? (i := 2) rfl)) dX10_isLesser_107 ?_
                  refine lv_lrem hx hb dX10_isLesser_110 (by decide) ?_
                  refine W.lcmp hx hb dX10_isLesser_111 ?_
                  refine lv_if_ge (tgt := 119) hx hb dX10_isLesser_112 (by decide) (fun c_695 => ?_) (fun c_695 => ?_)
                  · replace h := op c_695 h
                    refine lv_iconst (v := 0) hx hb dX10_isLesser_119 (by decide) ?_
                    refine lv_goto (tgt := 150) hx hb dX10_isLesser_120 (by decide) ?_
                    rw [hQQ]
                    exact W.zret hx hb hr rfl (fun t ht hW => ⟨_, rfl, (congrArg b2i (Option.some.inj h).symm), ht⟩) (fun q hq => absurd hq List.not_mem_nil) dX10_isLesser_150
                  · replace h := on c_695 h
                    refine lv_iconst (v := 1) hx hb dX10_isLesser_115 (by decide) ?_
                    refine lv_goto (tgt := 150) hx hb dX10_isLesser_116 (by decide) ?_
                    rw [hQQ]
                    exact W.zret hx hb hr rfl (fun t ht hW => ⟨_, rfl, (congrArg b2i (Option.some.inj h).symm), ht⟩) (fun q hq => absurd hq List.not_mem_nil) dX10_isLesser_150
            · replace h := op c_690 h
              refine lv_iload_n hx hb dX10_isLesser_58 rfl (lv_at hl 1 rfl) ?_
              refine lv_lload_n hx hb dX10_isLesser_59 rfl (lv_at hl 2 rfl) ?_
              obtain ⟨o_696, hr_696, h⟩ := ob h
              refine vp_callSd (va_Run.run (va_runS (As := [.int x1, .long x2]) (rest := []) ⟨hx, hb, hml, hown, hts⟩ (c_X10_worth l dC dI cB cC cI cJ cZ cT x1 x2 o_696 hr_696) (va_cwS 2 hts gX10_isLesser_X10_worth rfl rfl rfl (by decide +kernel) ⟨Nat.le_of_ble_eq_true rfl, Nat.le_of_ble_eq_true rfl⟩) ⟨blT, fun U hU hW => ⟨rfl, trivial⟩⟩ rfl rfl hl.1 rfl (lv_room (Nat.le_of_ble_eq_true rfl)) dX10_isLesser_60 ⟨Nat.le_of_ble_eq_true rfl, Nat.le_of_ble_eq_true rfl⟩)) (fun r_696 e_696 => ?_)
              subst e_696
              refine lv_iload_n hx hb dX10_isLesser_63 rfl (lv_at hl 1 rfl) ?_
              refine lv_lload hx hb dX10_isLesser_64 (lv_at hl 3 rfl) ?_
              obtain ⟨o_698, hr_698, h⟩ := ob h
              refine vp_callSd (va_Run.run (va_runS (As := [.int x1, .long x4]) (rest := [.double o_696]) ⟨hx, hb, hml, hown, hts⟩ (c_X10_worth l dC dI cB cC cI cJ cZ cT x1 x4 o_698 hr_698) (va_cwS 2 hts gX10_isLesser_X10_worth rfl rfl rfl (by decide +kernel) ⟨Nat.le_of_ble_eq_true rfl, Nat.le_of_ble_eq_true rfl⟩) ⟨blT, fun U hU hW => ⟨rfl, trivial⟩⟩ rfl rfl hl.1 rfl (lv_room (Nat.le_of_ble_eq_true rfl)) dX10_isLesser_66 ⟨Nat.le_of_ble_eq_true rfl, Nat.le_of_ble_eq_true rfl⟩)) (fun r_698 e_698 => ?_)
              subst e_698
              refine lv_dcmp hx hb dX10_isLesser_69 ?_
              refine lv_if_ge (tgt := 77) hx hb dX10_isLesser_70 (by decide) (fun c_700 => ?_) (fun c_700 => ?_)
              · replace h := op c_700 h
                refine lv_iconst (v := 0) hx hb dX10_isLesser_77 (by decide) ?_
                rw [hQQ]
                exact W.zret hx hb hr rfl (fun t ht hW => ⟨_, rfl, (congrArg b2i (Option.some.inj h).symm), ht⟩) (fun q hq => absurd hq List.not_mem_nil) dX10_isLesser_78
              · replace h := on c_700 h
                refine lv_iconst (v := 1) hx hb dX10_isLesser_73 (by decide) ?_
                refine lv_goto (tgt := 78) hx hb dX10_isLesser_74 (by decide) ?_
                rw [hQQ]
                exact W.zret hx hb hr rfl (fun t ht hW => ⟨_, rfl, (congrArg b2i (Option.some.inj h).symm), ht⟩) (fun q hq => absurd hq List.not_mem_nil) dX10_isLesser_78
        · replace h := op c_683 h
          refine lv_lload_n hx hb dX10_isLesser_32 rfl (lv_at hl 2 rfl) ?_
          refine lv_ldc2 (v := -9223372036854775808) hx hb hown (hts _ (List.mem_of_getElem? (i := 1) rfl)) dX10_isLesser_33 ?_
          refine W.lcmp hx hb dX10_isLesser_36 ?_
          refine lv_if_ne (tgt := 44) hx hb dX10_isLesser_37 (by decide) (fun c_701 => ?_) (fun c_701 => ?_)
          · replace h := on c_701 h
            refine lv_iconst (v := 0) hx hb dX10_isLesser_44 (by decide) ?_
            rw [hQQ]
            exact W.zret hx hb hr rfl (fun t ht hW => ⟨_, rfl, (congrArg b2i (Option.some.inj h).symm), ht⟩) (fun q hq => absurd hq List.not_mem_nil) dX10_isLesser_45
          · replace h := op c_701 h
            refine lv_iconst (v := 1) hx hb dX10_isLesser_40 (by decide) ?_
            refine lv_goto (tgt := 45) hx hb dX10_isLesser_41 (by decide) ?_
            rw [hQQ]
            exact W.zret hx hb hr rfl (fun t ht hW => ⟨_, rfl, (congrArg b2i (Option.some.inj h).symm), ht⟩) (fun q hq => absurd hq List.not_mem_nil) dX10_isLesser_45
  · replace h := op c_662 h
    refine lv_iconst (v := 0) hx hb dX10_isLesser_7 (by decide) ?_
    rw [hQQ]
    exact W.zret hx hb hr rfl (fun t ht hW => ⟨_, rfl, (congrArg b2i (Option.some.inj h).symm), ht⟩) (fun q hq => absurd hq List.not_mem_nil) dX10_isLesser_8
def L_X10_isFirst_2 (v_now : (Nat → Int64)) (x1 : Int32) (x2 : Int32) : Nat → Int32 → Option (Unit ⊕ Bool)
  | 0, _ => none
  | n+1, x3_2 => (if x2 ≤ x3_2 then (some (.inl ())) else ((f_X10_cell v_now x1 x3_2).bind (fun o_703 => ((f_X10_cell v_now x1 x2).bind (fun o_705 => (if (lg_cmp o_703 o_705) = 0 then (some (.inr false)) else (L_X10_isFirst_2 v_now x1 x2 n (x3_2 + 1))))))))
def f_X10_isFirst (v_now : Nat → Int64) (x1 : Int32) (x2 : Int32) : Option Bool :=
  ((L_X10_isFirst_2 v_now x1 x2 fu (0 : Int32)).bind (sm (fun u_708 => (some true))))
abbrev rm_X10_isFirst : Room := { frames := 2, cells := 0, slots := 0, locals := 43 }
set_option maxHeartbeats 4000000 in
set_option maxRecDepth 100000 in
theorem c_X10_isFirst (l : Launch) (dC : Nat → ClassId) (dI : Nat → Nat → Nat) (cB cC cI cJ cZ cT : ClassId) (h0 q_now q_text q_row q_read q_ranks q_distinct q_proper q_line q_order q_then q_bestOrder q_lineThen q_undos q_was q_kept q_isKept : Nat) (v_typed : Int32) (v_rowMany : Int32) (v_thrown : Int32) (v_length : Int32) (v_at : Int32) (v_wrong : Int32) (v_properMany : Int32) (v_orderMany : Int32) (v_undoMany : Int32) (v_drawn : Int32) (v_now : Nat → Int64) (x1 : Int32) (x2 : Int32) (o : Bool) (hf : f_X10_isFirst v_now x1 x2 = some o) : Met l yX10_isFirst wsX10_isFirst rm_X10_isFirst (va_Pc [.ref h0, .int x1, .int x2] (fun U => va_P (dC, dI) vwCl [(h0, .inr (8, [.ref q_now, .ref q_text, .int v_typed, .ref q_row, .int v_rowMany, .int v_thrown, .int v_length, .int v_at, .int v_wrong, .ref q_read, .ref q_ranks, .ref q_distinct, .ref q_proper, .int v_properMany, .ref q_line, .ref q_order, .int v_orderMany, .ref q_then, .ref q_bestOrder, .ref q_lineThen, .ref q_undos, .ref q_was, .int v_undoMany, .int v_drawn, .ref q_kept, .ref q_isKept])), (q_now, .inl (cJ, 120, .inr (.inl v_now)))] U.heap ∧ va_K (dC, dI) vwCl (tyA cB cC cI cJ cZ cT) U)) (vp_Si (fun r => b2i o = r)) 0 0 (fun _ => False) := by
  refine Met.ofW (cc := cX10_isFirst) (maxL := 4) (ret := (some .boolean)) (by decide +kernel) rfl ?_
  intro p e s m args below meth c s₁ B hml hv
  obtain ⟨hav, hP, hK⟩ := hv
  have hx := B.exec
  have hb := B.bytes
  have hr := B.returns
  have hts := atoms_spec (ws := wsX10_isFirst) B.pre
  have hown : s.vm.findClass RX10 = some m.cls := findClass_of_methodNamed B.named
  have hlocks := B.notSynchronized
  refine wstart (rm := rm_X10_isFirst) hav (Nat.le_of_ble_eq_true rfl) (fun QQ ls hQQ hl => ?_)
  have hl : lv_has ls 4 [(0, .ref h0), (1, .int x1), (2, .int x2)] := hl
  have h := hf
  unfold f_X10_isFirst at h
  refine lv_iconst (v := 0) hx hb dX10_isFirst_0 (by decide) ?_
  refine lv_istore_n (lv' := [(3, .int (0 : Int32)), (0, .ref h0), (1, .int x1), (2, .int x2)]) hx hb dX10_isFirst_1 rfl hl (by decide) rfl (fun ls hl => ?_)
  have LP_708 : ∀ (n : Nat) (x3_2 : Int32) (w : (Unit ⊕ Bool)) (ls : Array Slot), L_X10_isFirst_2 v_now x1 x2 n x3_2 = some w → lv_has ls 4 [(0, .ref h0), (1, .int x1), (2, .int x2), (3, .int x3_2)] → (∀ u : Unit, w = .inl u → ∀ (ls : Array Slot), lv_has ls 4 [] → W p l e rm_X10_isFirst s m args below meth c s.heap [] 0 0 QQ (F0 m 31 ls [])) → (∀ r : Bool, w = .inr r → some r = some o) → W p l e rm_X10_isFirst s m args below meth c s.heap [] 0 0 QQ (F0 m 2 ls []) := by
    intro n
    induction n with
    | zero => intro x3_2 w ls h; exact absurd (show none = some w from h) nofun
    | succ n ih =>
      intro x3_2 w ls h hl K KR
      rw [L_X10_isFirst_2] at h
      refine lv_iload_n hx hb dX10_isFirst_2 rfl (lv_at hl 3 rfl) ?_
      refine lv_iload_n hx hb dX10_isFirst_3 rfl (lv_at hl 2 rfl) ?_
      refine lv_icmp_ge (tgt := 31) hx hb dX10_isFirst_4 (by decide) (fun c_702 => ?_) (fun c_702 => ?_)
      · replace h := op c_702 h
        have ho := Option.some.inj h
        subst ho
        exact K _ rfl ls (lv_sub hl [] rfl)
      · replace h := on c_702 h
        refine lv_aload_n hx hb dX10_isFirst_7 rfl (lv_at hl 0 rfl) ?_
        refine lv_iload_n hx hb dX10_isFirst_8 rfl (lv_at hl 1 rfl) ?_
        refine lv_iload_n hx hb dX10_isFirst_9 rfl (lv_at hl 3 rfl) ?_
        obtain ⟨o_703, hr_703, h⟩ := ob h
        refine vp_callSl (va_Run.run (va_runV (As := [.int x1, .int x3_2]) (rest := []) ⟨hx, hb, hml, hown, hts⟩ (c_X10_cell l dC dI cB cC cI cJ cZ cT h0 q_now q_text q_row q_read q_ranks q_distinct q_proper q_line q_order q_then q_bestOrder q_lineThen q_undos q_was q_kept q_isKept v_typed v_rowMany v_thrown v_length v_at v_wrong v_properMany v_orderMany v_undoMany v_drawn v_now x1 x3_2 o_703 hr_703) (cwV 2 hts gX10_isFirst_X10_cell rfl rfl rfl (by decide +kernel) ⟨Nat.le_of_ble_eq_true rfl, Nat.le_of_ble_eq_true rfl⟩) ⟨blR, va_recv hK hP (ci := 8) (q0 := 0) rfl rfl, fun U hU hW => ⟨rfl, by rw [hU]; exact hP.sub [0, 1] rfl, va_K.moved hW.alike hK⟩⟩ rfl rfl hl.1 rfl (lv_room (Nat.le_of_ble_eq_true rfl)) dX10_isFirst_10 ⟨Nat.le_of_ble_eq_true rfl, Nat.le_of_ble_eq_true rfl⟩)) (fun r_703 e_703 => ?_)
        subst e_703
        refine lv_aload_n hx hb dX10_isFirst_13 rfl (lv_at hl 0 rfl) ?_
        refine lv_iload_n hx hb dX10_isFirst_14 rfl (lv_at hl 1 rfl) ?_
        refine lv_iload_n hx hb dX10_isFirst_15 rfl (lv_at hl 2 rfl) ?_
        obtain ⟨o_705, hr_705, h⟩ := ob h
        refine vp_callSl (va_Run.run (va_runV (As := [.int x1, .int x2]) (rest := [.long o_703]) ⟨hx, hb, hml, hown, hts⟩ (c_X10_cell l dC dI cB cC cI cJ cZ cT h0 q_now q_text q_row q_read q_ranks q_distinct q_proper q_line q_order q_then q_bestOrder q_lineThen q_undos q_was q_kept q_isKept v_typed v_rowMany v_thrown v_length v_at v_wrong v_properMany v_orderMany v_undoMany v_drawn v_now x1 x2 o_705 hr_705) (cwV 2 hts gX10_isFirst_X10_cell rfl rfl rfl (by decide +kernel) ⟨Nat.le_of_ble_eq_true rfl, Nat.le_of_ble_eq_true rfl⟩) ⟨blR, va_recv hK hP (ci := 8) (q0 := 0) rfl rfl, fun U hU hW => ⟨rfl, by rw [hU]; exact hP.sub [0, 1] rfl, va_K.moved hW.alike hK⟩⟩ rfl rfl hl.1 rfl (lv_room (Nat.le_of_ble_eq_true rfl)) dX10_isFirst_16 ⟨Nat.le_of_ble_eq_true rfl, Nat.le_of_ble_eq_true rfl⟩)) (fun r_705 e_705 => ?_)
        subst e_705
        refine W.lcmp hx hb dX10_isFirst_19 ?_
        refine lv_if_ne (tgt := 25) hx hb dX10_isFirst_20 (by decide) (fun c_707 => ?_) (fun c_707 => ?_)
        · replace h := on c_707 h
          refine lv_iinc (v := (x3_2 + 1)) (lv' := [(3, .int (x3_2 + 1)), (0, .ref h0), (1, .int x1), (2, .int x2)]) hx hb dX10_isFirst_25 hl (k := 3) rfl (by rfl) (by decide) rfl (fun ls hl => ?_)
          refine lv_goto (tgt := 2) hx hb dX10_isFirst_28 (by decide) ?_
          exact ih (x3_2 + 1) w ls h (lv_sub hl [1, 2, 3, 0] rfl) K KR
        · replace h := op c_707 h
          refine lv_iconst (v := 0) hx hb dX10_isFirst_23 (by decide) ?_
          replace h := KR _ (Option.some.inj h).symm
          rw [hQQ]
          exact W.zret hx hb hr rfl (fun t ht hW => ⟨_, rfl, (congrArg b2i (Option.some.inj h).symm), ht⟩) (fun q hq => absurd hq List.not_mem_nil) dX10_isFirst_24
  obtain ⟨w_708, hw_708, h⟩ := ob h
  refine LP_708 fu (0 : Int32) w_708 ls hw_708 (lv_sub hl [1, 2, 3, 0] rfl) (fun u_708 e_708 ls hl => ?_) (fun r_708 e_708 => by subst e_708; exact h)
  subst e_708
  replace h := sm_l h
  refine lv_iconst (v := 1) hx hb dX10_isFirst_31 (by decide) ?_
  rw [hQQ]
  exact W.zret hx hb hr rfl (fun t ht hW => ⟨_, rfl, (congrArg b2i (Option.some.inj h).symm), ht⟩) (fun q hq => absurd hq List.not_mem_nil) dX10_isFirst_32
def L_X10_rankOf_5 (v_now : (Nat → Int64)) (x1 : Int32) (x2 : Int32) : Nat → Int32 → Int32 → Option Int32
  | 0, _, _ => none
  | n+1, x3_5, x4_5 => ((f_X10_rows v_now).bind (fun o_709 => (if o_709 ≤ x4_5 then (some x3_5) else ((f_X10_isFirst v_now x1 x4_5).bind (fun o_712 => (if (b2i o_712) = 0 then (L_X10_rankOf_5 v_now x1 x2 n x3_5 (x4_5 + 1)) else ((f_X10_kindOf v_now x1).bind (fun o_715 => ((f_X10_cell v_now x1 x4_5).bind (fun o_717 => ((f_X10_cell v_now x1 x2).bind (fun o_719 => ((f_X10_isLesser o_715 o_717 o_719).bind (fun o_721 => (if (b2i o_721) = 0 then (L_X10_rankOf_5 v_now x1 x2 n x3_5 (x4_5 + 1)) else (L_X10_rankOf_5 v_now x1 x2 n (x3_5 + 1) (x4_5 + 1)))))))))))))))))
def f_X10_rankOf (v_now : Nat → Int64) (x1 : Int32) (x2 : Int32) : Option Int32 :=
  ((L_X10_rankOf_5 v_now x1 x2 fu (0 : Int32) (0 : Int32)).bind (fun w_724 => (some w_724)))
abbrev rm_X10_rankOf : Room := { frames := 3, cells := 0, slots := 0, locals := 70 }
set_option maxHeartbeats 4000000 in
set_option maxRecDepth 100000 in
theorem c_X10_rankOf (l : Launch) (dC : Nat → ClassId) (dI : Nat → Nat → Nat) (cB cC cI cJ cZ cT : ClassId) (h0 q_now q_text q_row q_read q_ranks q_distinct q_proper q_line q_order q_then q_bestOrder q_lineThen q_undos q_was q_kept q_isKept : Nat) (v_typed : Int32) (v_rowMany : Int32) (v_thrown : Int32) (v_length : Int32) (v_at : Int32) (v_wrong : Int32) (v_properMany : Int32) (v_orderMany : Int32) (v_undoMany : Int32) (v_drawn : Int32) (v_now : Nat → Int64) (x1 : Int32) (x2 : Int32) (o : Int32) (hf : f_X10_rankOf v_now x1 x2 = some o) : Met l yX10_rankOf wsX10_rankOf rm_X10_rankOf (va_Pc [.ref h0, .int x1, .int x2] (fun U => va_P (dC, dI) vwCl [(h0, .inr (8, [.ref q_now, .ref q_text, .int v_typed, .ref q_row, .int v_rowMany, .int v_thrown, .int v_length, .int v_at, .int v_wrong, .ref q_read, .ref q_ranks, .ref q_distinct, .ref q_proper, .int v_properMany, .ref q_line, .ref q_order, .int v_orderMany, .ref q_then, .ref q_bestOrder, .ref q_lineThen, .ref q_undos, .ref q_was, .int v_undoMany, .int v_drawn, .ref q_kept, .ref q_isKept])), (q_now, .inl (cJ, 120, .inr (.inl v_now)))] U.heap ∧ va_K (dC, dI) vwCl (tyA cB cC cI cJ cZ cT) U)) (vp_Si (fun r => o = r)) 0 0 (fun _ => False) := by
  refine Met.ofW (cc := cX10_rankOf) (maxL := 5) (ret := (some .int)) (by decide +kernel) rfl ?_
  intro p e s m args below meth c s₁ B hml hv
  obtain ⟨hav, hP, hK⟩ := hv
  have hx := B.exec
  have hb := B.bytes
  have hr := B.returns
  have hts := atoms_spec (ws := wsX10_rankOf) B.pre
  have hown : s.vm.findClass RX10 = some m.cls := findClass_of_methodNamed B.named
  have hlocks := B.notSynchronized
  refine wstart (rm := rm_X10_rankOf) hav (Nat.le_of_ble_eq_true rfl) (fun QQ ls hQQ hl => ?_)
  have hl : lv_has ls 5 [(0, .ref h0), (1, .int x1), (2, .int x2)] := hl
  have h := hf
  unfold f_X10_rankOf at h
  refine lv_iconst (v := 0) hx hb dX10_rankOf_0 (by decide) ?_
  refine lv_istore_n (lv' := [(3, .int (0 : Int32)), (0, .ref h0), (1, .int x1), (2, .int x2)]) hx hb dX10_rankOf_1 rfl hl (by decide) rfl (fun ls hl => ?_)
  refine lv_iconst (v := 0) hx hb dX10_rankOf_2 (by decide) ?_
  refine lv_istore (lv' := [(4, .int (0 : Int32)), (3, .int (0 : Int32)), (0, .ref h0), (1, .int x1), (2, .int x2)]) hx hb dX10_rankOf_3 hl (by decide) rfl (fun ls hl => ?_)
  have LP_724 : ∀ (n : Nat) (x3_5 : Int32) (x4_5 : Int32) (w : Int32) (ls : Array Slot), L_X10_rankOf_5 v_now x1 x2 n x3_5 x4_5 = some w → lv_has ls 5 [(0, .ref h0), (1, .int x1), (2, .int x2), (3, .int x3_5), (4, .int x4_5)] → (∀ (ls : Array Slot), lv_has ls 5 [(3, .int w)] → W p l e rm_X10_rankOf s m args below meth c s.heap [] 0 0 QQ (F0 m 58 ls [])) → W p l e rm_X10_rankOf s m args below meth c s.heap [] 0 0 QQ (F0 m 5 ls []) := by
    intro n
    induction n with
    | zero => intro x3_5 x4_5 w ls h; exact absurd (show none = some w from h) nofun
    | succ n ih =>
      intro x3_5 x4_5 w ls h hl K
      rw [L_X10_rankOf_5] at h
      refine lv_iload hx hb dX10_rankOf_5 (lv_at hl 4 rfl) ?_
      refine lv_aload_n hx hb dX10_rankOf_7 rfl (lv_at hl 0 rfl) ?_
      obtain ⟨o_709, hr_709, h⟩ := ob h
      refine vp_callSi (va_Run.run (va_runV (As := []) (rest := [.int x4_5]) ⟨hx, hb, hml, hown, hts⟩ (c_X10_rows l dC dI cB cC cI cJ cZ cT h0 q_now q_text q_row q_read q_ranks q_distinct q_proper q_line q_order q_then q_bestOrder q_lineThen q_undos q_was q_kept q_isKept v_typed v_rowMany v_thrown v_length v_at v_wrong v_properMany v_orderMany v_undoMany v_drawn v_now o_709 hr_709) (cwV 0 hts gX10_rankOf_X10_rows rfl rfl rfl (by decide +kernel) ⟨Nat.le_of_ble_eq_true rfl, Nat.le_of_ble_eq_true rfl⟩) ⟨blR, va_recv hK hP (ci := 8) (q0 := 0) rfl rfl, fun U hU hW => ⟨rfl, by rw [hU]; exact hP.sub [0, 1] rfl, va_K.moved hW.alike hK⟩⟩ rfl rfl hl.1 rfl (lv_room (Nat.le_of_ble_eq_true rfl)) dX10_rankOf_8 ⟨Nat.le_of_ble_eq_true rfl, Nat.le_of_ble_eq_true rfl⟩)) (fun r_709 e_709 => ?_)
      subst e_709
      refine lv_icmp_ge (tgt := 58) hx hb dX10_rankOf_11 (by decide) (fun c_711 => ?_) (fun c_711 => ?_)
      · replace h := op c_711 h
        have ho := Option.some.inj h
        subst ho
        exact K ls (lv_sub hl [3] rfl)
      · replace h := on c_711 h
        refine lv_aload_n hx hb dX10_rankOf_14 rfl (lv_at hl 0 rfl) ?_
        refine lv_iload_n hx hb dX10_rankOf_15 rfl (lv_at hl 1 rfl) ?_
        refine lv_iload hx hb dX10_rankOf_16 (lv_at hl 4 rfl) ?_
        obtain ⟨o_712, hr_712, h⟩ := ob h
        refine vp_callSi (va_Run.run (va_runV (As := [.int x1, .int x4_5]) (rest := []) ⟨hx, hb, hml, hown, hts⟩ (c_X10_isFirst l dC dI cB cC cI cJ cZ cT h0 q_now q_text q_row q_read q_ranks q_distinct q_proper q_line q_order q_then q_bestOrder q_lineThen q_undos q_was q_kept q_isKept v_typed v_rowMany v_thrown v_length v_at v_wrong v_properMany v_orderMany v_undoMany v_drawn v_now x1 x4_5 o_712 hr_712) (cwV 2 hts gX10_rankOf_X10_isFirst rfl rfl rfl (by decide +kernel) ⟨Nat.le_of_ble_eq_true rfl, Nat.le_of_ble_eq_true rfl⟩) ⟨blR, va_recv hK hP (ci := 8) (q0 := 0) rfl rfl, fun U hU hW => ⟨rfl, by rw [hU]; exact hP.sub [0, 1] rfl, va_K.moved hW.alike hK⟩⟩ rfl rfl hl.1 rfl (lv_room (Nat.le_of_ble_eq_true rfl)) dX10_rankOf_18 ⟨Nat.le_of_ble_eq_true rfl, Nat.le_of_ble_eq_true rfl⟩)) (fun r_712 e_712 => ?_)
        subst e_712
        refine lv_if_eq (tgt := 52) hx hb dX10_rankOf_21 (by decide) (fun c_714 => ?_) (fun c_714 => ?_)
        · replace h := op c_714 h
          refine lv_iinc (v := (x4_5 + 1)) (lv' := [(4, .int (x4_5 + 1)), (0, .ref h0), (1, .int x1), (2, .int x2), (3, .int x3_5)]) hx hb dX10_rankOf_52 hl (k := 4) rfl (by rfl) (by decide) rfl (fun ls hl => ?_)
          refine lv_goto (tgt := 5) hx hb dX10_rankOf_55 (by decide) ?_
          exact ih x3_5 (x4_5 + 1) w ls h (lv_sub hl [1, 2, 3, 4, 0] rfl) K
        · replace h := on c_714 h
          refine lv_aload_n hx hb dX10_rankOf_24 rfl (lv_at hl 0 rfl) ?_
          refine lv_aload_n hx hb dX10_rankOf_25 rfl (lv_at hl 0 rfl) ?_
          refine lv_iload_n hx hb dX10_rankOf_26 rfl (lv_at hl 1 rfl) ?_
          obtain ⟨o_715, hr_715, h⟩ := ob h
          refine vp_callSi (va_Run.run (va_runV (As := [.int x1]) (rest := [.ref h0]) ⟨hx, hb, hml, hown, hts⟩ (c_X10_kindOf l dC dI cB cC cI cJ cZ cT h0 q_now q_text q_row q_read q_ranks q_distinct q_proper q_line q_order q_then q_bestOrder q_lineThen q_undos q_was q_kept q_isKept v_typed v_rowMany v_thrown v_length v_at v_wrong v_properMany v_orderMany v_undoMany v_drawn v_now x1 o_715 hr_715) (cwV 1 hts gX10_rankOf_X10_kindOf rfl rfl rfl (by decide +kernel) ⟨Nat.le_of_ble_eq_true rfl, Nat.le_of_ble_eq_true rfl⟩) ⟨blR, va_recv hK hP (ci := 8) (q0 := 0) rfl rfl, fun U hU hW => ⟨rfl, by rw [hU]; exact hP.sub [0, 1] rfl, va_K.moved hW.alike hK⟩⟩ rfl rfl hl.1 rfl (lv_room (Nat.le_of_ble_eq_true rfl)) dX10_rankOf_27 ⟨Nat.le_of_ble_eq_true rfl, Nat.le_of_ble_eq_true rfl⟩)) (fun r_715 e_715 => ?_)
          subst e_715
          refine lv_aload_n hx hb dX10_rankOf_30 rfl (lv_at hl 0 rfl) ?_
          refine lv_iload_n hx hb dX10_rankOf_31 rfl (lv_at hl 1 rfl) ?_
          refine lv_iload hx hb dX10_rankOf_32 (lv_at hl 4 rfl) ?_
          obtain ⟨o_717, hr_717, h⟩ := ob h
          refine vp_callSl (va_Run.run (va_runV (As := [.int x1, .int x4_5]) (rest := [.int o_715, .ref h0]) ⟨hx, hb, hml, hown, hts⟩ (c_X10_cell l dC dI cB cC cI cJ cZ cT h0 q_now q_text q_row q_read q_ranks q_distinct q_proper q_line q_order q_then q_bestOrder q_lineThen q_undos q_was q_kept q_isKept v_typed v_rowMany v_thrown v_length v_at v_wrong v_properMany v_orderMany v_undoMany v_drawn v_now x1 x4_5 o_717 hr_717) (cwV 2 hts gX10_rankOf_X10_cell rfl rfl rfl (by decide +kernel) ⟨Nat.le_of_ble_eq_true rfl, Nat.le_of_ble_eq_true rfl⟩) ⟨blR, va_recv hK hP (ci := 8) (q0 := 0) rfl rfl, fun U hU hW => ⟨rfl, by rw [hU]; exact hP.sub [0, 1] rfl, va_K.moved hW.alike hK⟩⟩ rfl rfl hl.1 rfl (lv_room (Nat.le_of_ble_eq_true rfl)) dX10_rankOf_34 ⟨Nat.le_of_ble_eq_true rfl, Nat.le_of_ble_eq_true rfl⟩)) (fun r_717 e_717 => ?_)
          subst e_717
          refine lv_aload_n hx hb dX10_rankOf_37 rfl (lv_at hl 0 rfl) ?_
          refine lv_iload_n hx hb dX10_rankOf_38 rfl (lv_at hl 1 rfl) ?_
          refine lv_iload_n hx hb dX10_rankOf_39 rfl (lv_at hl 2 rfl) ?_
          obtain ⟨o_719, hr_719, h⟩ := ob h
          refine vp_callSl (va_Run.run (va_runV (As := [.int x1, .int x2]) (rest := [.long o_717, .int o_715, .ref h0]) ⟨hx, hb, hml, hown, hts⟩ (c_X10_cell l dC dI cB cC cI cJ cZ cT h0 q_now q_text q_row q_read q_ranks q_distinct q_proper q_line q_order q_then q_bestOrder q_lineThen q_undos q_was q_kept q_isKept v_typed v_rowMany v_thrown v_length v_at v_wrong v_properMany v_orderMany v_undoMany v_drawn v_now x1 x2 o_719 hr_719) (cwV 2 hts gX10_rankOf_X10_cell rfl rfl rfl (by decide +kernel) ⟨Nat.le_of_ble_eq_true rfl, Nat.le_of_ble_eq_true rfl⟩) ⟨blR, va_recv hK hP (ci := 8) (q0 := 0) rfl rfl, fun U hU hW => ⟨rfl, by rw [hU]; exact hP.sub [0, 1] rfl, va_K.moved hW.alike hK⟩⟩ rfl rfl hl.1 rfl (lv_room (Nat.le_of_ble_eq_true rfl)) dX10_rankOf_40 ⟨Nat.le_of_ble_eq_true rfl, Nat.le_of_ble_eq_true rfl⟩)) (fun r_719 e_719 => ?_)
          subst e_719
          obtain ⟨o_721, hr_721, h⟩ := ob h
          refine vp_callSi (va_Run.run (va_runV (As := [.int o_715, .long o_717, .long o_719]) (rest := []) ⟨hx, hb, hml, hown, hts⟩ (c_X10_isLesser l dC dI cB cC cI cJ cZ cT h0 o_715 o_717 o_719 o_721 hr_721) (cwV 3 hts gX10_rankOf_X10_isLesser rfl rfl rfl (by decide +kernel) ⟨Nat.le_of_ble_eq_true rfl, Nat.le_of_ble_eq_true rfl⟩) ⟨blT, va_recv hK hP (ci := 8) (q0 := 0) rfl rfl, fun U hU hW => ⟨rfl, trivial⟩⟩ rfl rfl hl.1 rfl (lv_room (Nat.le_of_ble_eq_true rfl)) dX10_rankOf_43 ⟨Nat.le_of_ble_eq_true rfl, Nat.le_of_ble_eq_true rfl⟩)) (fun r_721 e_721 => ?_)
          subst e_721
          refine lv_if_eq (tgt := 52) hx hb dX10_rankOf_46 (by decide) (fun c_723 => ?_) (fun c_723 => ?_)
          · replace h := op c_723 h
            refine lv_iinc (v := (x4_5 + 1)) (lv' := [(4, .int (x4_5 + 1)), (0, .ref h0), (1, .int x1), (2, .int x2), (3, .int x3_5)]) hx hb dX10_rankOf_52 hl (k := 4) rfl (by rfl) (by decide) rfl (fun ls hl => ?_)
            refine lv_goto (tgt := 5) hx hb dX10_rankOf_55 (by decide) ?_
            exact ih x3_5 (x4_5 + 1) w ls h (lv_sub hl [1, 2, 3, 4, 0] rfl) K
          · replace h := on c_723 h
            refine lv_iinc (v := (x3_5 + 1)) (lv' := [(3, .int (x3_5 + 1)), (0, .ref h0), (1, .int x1), (2, .int x2), (4, .int x4_5)]) hx hb dX10_rankOf_49 hl (k := 3) rfl (by rfl) (by decide) rfl (fun ls hl => ?_)
            refine lv_iinc (v := (x4_5 + 1)) (lv' := [(4, .int (x4_5 + 1)), (3, .int (x3_5 + 1)), (0, .ref h0), (1, .int x1), (2, .int x2)]) hx hb dX10_rankOf_52 hl (k := 4) rfl (by rfl) (by decide) rfl (fun ls hl => ?_)
            refine lv_goto (tgt := 5) hx hb dX10_rankOf_55 (by decide) ?_
            exact ih (x3_5 + 1) (x4_5 + 1) w ls h (lv_sub hl [2, 3, 4, 1, 0] rfl) K
  obtain ⟨w_724, hw_724, h⟩ := ob h
  refine LP_724 fu (0 : Int32) (0 : Int32) w_724 ls hw_724 (lv_sub hl [2, 3, 4, 1, 0] rfl) (fun ls hl => ?_)
  refine lv_iload_n hx hb dX10_rankOf_58 rfl (lv_at hl 0 rfl) ?_
  rw [hQQ]
  exact W.iret hx hb hr (fun t ht hW => ⟨_, rfl, (Option.some.inj h).symm, ht⟩) (fun q hq => absurd hq List.not_mem_nil) dX10_rankOf_59
def L_X10_layRanks_55 (v_now : (Nat → Int64)) (x1_7 : Int32) : Nat → Int32 → (Nat → Int32) → (Nat → Int32) → Option ((Nat → Int32) × (Nat → Int32))
  | 0, _, _, _ => none
  | n+1, x2_55, v_ranks_55, v_distinct_55 => ((f_X10_rows v_now).bind (fun o_733 => (if o_733 ≤ x2_55 then (some (v_ranks_55, v_distinct_55)) else ((f_X10_rankOf v_now x1_7 x2_55).bind (fun o_736 => (if (((16 : Int32) * x1_7) + x2_55) < 0 ∨ 96 ≤ ((((16 : Int32) * x1_7) + x2_55)).toNatClampNeg then none else (if x1_7 < 0 ∨ 6 ≤ (x1_7).toNatClampNeg then none else ((f_X10_isFirst v_now x1_7 x2_55).bind (fun o_740 => (if (b2i o_740) = 0 then (if x1_7 < 0 ∨ 6 ≤ (x1_7).toNatClampNeg then none else (L_X10_layRanks_55 v_now x1_7 n (x2_55 + 1) (upd v_ranks_55 ((((16 : Int32) * x1_7) + x2_55)).toNatClampNeg o_736) (upd v_distinct_55 (x1_7).toNatClampNeg ((v_distinct_55 (x1_7).toNatClampNeg) + (0 : Int32))))) else (if x1_7 < 0 ∨ 6 ≤ (x1_7).toNatClampNeg then none else (L_X10_layRanks_55 v_now x1_7 n (x2_55 + 1) (upd v_ranks_55 ((((16 : Int32) * x1_7) + x2_55)).toNatClampNeg o_736) (upd v_distinct_55 (x1_7).toNatClampNeg ((v_distinct_55 (x1_7).toNatClampNeg) + (1 : Int32)))))))))))))))
def L_X10_layRanks_7 (v_now : (Nat → Int64)) : Nat → Int32 → Int32 → (Nat → Int32) → (Nat → Int32) → (Nat → Int32) → Option (Int32 × (Nat → Int32) × (Nat → Int32) × (Nat → Int32))
  | 0, _, _, _, _, _ => none
  | n+1, x1_7, v_properMany_7, v_ranks_7, v_distinct_7, v_proper_7 => ((f_X10_columns v_now).bind (fun o_725 => (if o_725 ≤ x1_7 then (some (v_properMany_7, v_ranks_7, v_distinct_7, v_proper_7)) else ((f_X10_isProper v_now x1_7).bind (fun o_728 => (if (b2i o_728) = 0 then (L_X10_layRanks_7 v_now n (x1_7 + 1) v_properMany_7 v_ranks_7 v_distinct_7 v_proper_7) else (if v_properMany_7 < 0 ∨ 6 ≤ (v_properMany_7).toNatClampNeg then none else (if x1_7 < 0 ∨ 6 ≤ (x1_7).toNatClampNeg then none else ((L_X10_layRanks_55 v_now x1_7 fu (0 : Int32) v_ranks_7 (upd v_distinct_7 (x1_7).toNatClampNeg (0 : Int32))).bind (fun w_745 => (L_X10_layRanks_7 v_now n (x1_7 + 1) (v_properMany_7 + (1 : Int32)) w_745.1 w_745.2 (upd v_proper_7 (v_properMany_7).toNatClampNeg x1_7))))))))))))
def f_X10_layRanks (v_now : Nat → Int64) (v_ranks : Nat → Int32) (v_distinct : Nat → Int32) (v_proper : Nat → Int32) : Option (Int32 × (Nat → Int32) × (Nat → Int32) × (Nat → Int32)) :=
  ((L_X10_layRanks_7 v_now fu (0 : Int32) (0 : Int32) v_ranks v_distinct v_proper).bind (fun w_746 => (some (w_746.1, w_746.2.1, w_746.2.2.1, w_746.2.2.2))))
abbrev rm_X10_layRanks : Room := { frames := 4, cells := 0, slots := 0, locals := 94 }
set_option maxHeartbeats 4000000 in
set_option maxRecDepth 100000 in
theorem c_X10_layRanks (l : Launch) (dC : Nat → ClassId) (dI : Nat → Nat → Nat) (cB cC cI cJ cZ cT : ClassId) (h0 q_now q_text q_row q_read q_ranks q_distinct q_proper q_line q_order q_then q_bestOrder q_lineThen q_undos q_was q_kept q_isKept : Nat) (sz : Nat) (v_typed : Int32) (v_rowMany : Int32) (v_thrown : Int32) (v_length : Int32) (v_at : Int32) (v_wrong : Int32) (v_properMany : Int32) (v_orderMany : Int32) (v_undoMany : Int32) (v_drawn : Int32) (v_now : Nat → Int64) (v_ranks : Nat → Int32) (v_distinct : Nat → Int32) (v_proper : Nat → Int32) (o : (Int32 × (Nat → Int32) × (Nat → Int32) × (Nat → Int32))) (hf : f_X10_layRanks v_now v_ranks v_distinct v_proper = some o) : Met l yX10_layRanks wsX10_layRanks rm_X10_layRanks (va_Pc [.ref h0] (fun U => U.heap.size = sz ∧ va_P (dC, dI) vwCl [(h0, .inr (8, [.ref q_now, .ref q_text, .int v_typed, .ref q_row, .int v_rowMany, .int v_thrown, .int v_length, .int v_at, .int v_wrong, .ref q_read, .ref q_ranks, .ref q_distinct, .ref q_proper, .int v_properMany, .ref q_line, .ref q_order, .int v_orderMany, .ref q_then, .ref q_bestOrder, .ref q_lineThen, .ref q_undos, .ref q_was, .int v_undoMany, .int v_drawn, .ref q_kept, .ref q_isKept])), (q_now, .inl (cJ, 120, .inr (.inl v_now))), (q_ranks, .inl (cI, 96, .inl v_ranks)), (q_distinct, .inl (cI, 6, .inl v_distinct)), (q_proper, .inl (cI, 6, .inl v_proper))] U.heap ∧ va_K (dC, dI) vwCl (tyA cB cC cI cJ cZ cT) U ∧ va_D (fun _ => True) [(h0, .inr (8, [.ref q_now, .ref q_text, .int v_typed, .ref q_row, .int v_rowMany, .int v_thrown, .int v_length, .int v_at, .int v_wrong, .ref q_read, .ref q_ranks, .ref q_distinct, .ref q_proper, .int v_properMany, .ref q_line, .ref q_order, .int v_orderMany, .ref q_then, .ref q_bestOrder, .ref q_lineThen, .ref q_undos, .ref q_was, .int v_undoMany, .int v_drawn, .ref q_kept, .ref q_isKept])), (q_now, .inl (cJ, 120, .inr (.inl v_now))), (q_ranks, .inl (cI, 96, .inl v_ranks)), (q_distinct, .inl (cI, 6, .inl v_distinct)), (q_proper, .inl (cI, 6, .inl v_proper))])) (va_Qv (fun _ : Unit => True) (fun _ t => va_P (dC, dI) vwCl [(h0, .inr (8, [.ref q_now, .ref q_text, .int v_typed, .ref q_row, .int v_rowMany, .int v_thrown, .int v_length, .int v_at, .int v_wrong, .ref q_read, .ref q_ranks, .ref q_distinct, .ref q_proper, .int o.1, .ref q_line, .ref q_order, .int v_orderMany, .ref q_then, .ref q_bestOrder, .ref q_lineThen, .ref q_undos, .ref q_was, .int v_undoMany, .int v_drawn, .ref q_kept, .ref q_isKept])), (q_now, .inl (cJ, 120, .inr (.inl v_now))), (q_ranks, .inl (cI, 96, .inl o.2.1)), (q_distinct, .inl (cI, 6, .inl o.2.2.1)), (q_proper, .inl (cI, 6, .inl o.2.2.2))] t.heap ∧ va_K (dC, dI) vwCl (tyA cB cC cI cJ cZ cT) t ∧ va_D (va_A [(h0, .inr (8, [.ref q_now, .ref q_text, .int v_typed, .ref q_row, .int v_rowMany, .int v_thrown, .int v_length, .int v_at, .int v_wrong, .ref q_read, .ref q_ranks, .ref q_distinct, .ref q_proper, .int v_properMany, .ref q_line, .ref q_order, .int v_orderMany, .ref q_then, .ref q_bestOrder, .ref q_lineThen, .ref q_undos, .ref q_was, .int v_undoMany, .int v_drawn, .ref q_kept, .ref q_isKept])), (q_now, .inl (cJ, 120, .inr (.inl v_now))), (q_ranks, .inl (cI, 96, .inl v_ranks)), (q_distinct, .inl (cI, 6, .inl v_distinct)), (q_proper, .inl (cI, 6, .inl v_proper))] sz) [(h0, .inr (8, [.ref q_now, .ref q_text, .int v_typed, .ref q_row, .int v_rowMany, .int v_thrown, .int v_length, .int v_at, .int v_wrong, .ref q_read, .ref q_ranks, .ref q_distinct, .ref q_proper, .int o.1, .ref q_line, .ref q_order, .int v_orderMany, .ref q_then, .ref q_bestOrder, .ref q_lineThen, .ref q_undos, .ref q_was, .int v_undoMany, .int v_drawn, .ref q_kept, .ref q_isKept])), (q_now, .inl (cJ, 120, .inr (.inl v_now))), (q_ranks, .inl (cI, 96, .inl o.2.1)), (q_distinct, .inl (cI, 6, .inl o.2.2.1)), (q_proper, .inl (cI, 6, .inl o.2.2.2))]) (va_A [(h0, .inr (8, [.ref q_now, .ref q_text, .int v_typed, .ref q_row, .int v_rowMany, .int v_thrown, .int v_length, .int v_at, .int v_wrong, .ref q_read, .ref q_ranks, .ref q_distinct, .ref q_proper, .int v_properMany, .ref q_line, .ref q_order, .int v_orderMany, .ref q_then, .ref q_bestOrder, .ref q_lineThen, .ref q_undos, .ref q_was, .int v_undoMany, .int v_drawn, .ref q_kept, .ref q_isKept])), (q_now, .inl (cJ, 120, .inr (.inl v_now))), (q_ranks, .inl (cI, 96, .inl v_ranks)), (q_distinct, .inl (cI, 6, .inl v_distinct)), (q_proper, .inl (cI, 6, .inl v_proper))] sz)) 0 0 (va_A [(h0, .inr (8, [.ref q_now, .ref q_text, .int v_typed, .ref q_row, .int v_rowMany, .int v_thrown, .int v_length, .int v_at, .int v_wrong, .ref q_read, .ref q_ranks, .ref q_distinct, .ref q_proper, .int v_properMany, .ref q_line, .ref q_order, .int v_orderMany, .ref q_then, .ref q_bestOrder, .ref q_lineThen, .ref q_undos, .ref q_was, .int v_undoMany, .int v_drawn, .ref q_kept, .ref q_isKept])), (q_now, .inl (cJ, 120, .inr (.inl v_now))), (q_ranks, .inl (cI, 96, .inl v_ranks)), (q_distinct, .inl (cI, 6, .inl v_distinct)), (q_proper, .inl (cI, 6, .inl v_proper))] sz) := by
  refine Met.ofW (cc := cX10_layRanks) (maxL := 3) (ret := none) (by decide +kernel) rfl ?_
  intro p e s m args below meth c s₁ B hml hv
  obtain ⟨hav, hsz, hP, hK, hD0⟩ := hv
  have hx := B.exec
  have hb := B.bytes
  have hr := B.returns
  have hts := atoms_spec (ws := wsX10_layRanks) B.pre
  have hown : s.vm.findClass RX10 = some m.cls := findClass_of_methodNamed B.named
  have hlocks := B.notSynchronized
  subst hsz
  have hD := hD0.self (sz := s.heap.size)
  generalize hAe : va_A [(h0, .inr (8, [.ref q_now, .ref q_text, .int v_typed, .ref q_row, .int v_rowMany, .int v_thrown, .int v_length, .int v_at, .int v_wrong, .ref q_read, .ref q_ranks, .ref q_distinct, .ref q_proper, .int v_properMany, .ref q_line, .ref q_order, .int v_orderMany, .ref q_then, .ref q_bestOrder, .ref q_lineThen, .ref q_undos, .ref q_was, .int v_undoMany, .int v_drawn, .ref q_kept, .ref q_isKept])), (q_now, .inl (cJ, 120, .inr (.inl v_now))), (q_ranks, .inl (cI, 96, .inl v_ranks)), (q_distinct, .inl (cI, 6, .inl v_distinct)), (q_proper, .inl (cI, 6, .inl v_proper))] s.heap.size = A at hD ⊢
  have hA : ∀ q : Nat, s.heap.size ≤ q → A q := fun q h => by rw [← hAe]; exact Or.inr h
  have hS : va_S A s.heap s.heap [] := va_S.rf
  refine wstart (rm := rm_X10_layRanks) hav (Nat.le_of_ble_eq_true rfl) (fun QQ ls hQQ hl => ?_)
  have hl : lv_has ls 3 [(0, .ref h0)] := hl
  have hi_X10 : ∀ w ∈ u_ws RX10 TX10 26, w ∈ wsX10_layRanks := by decide +kernel
  have h := hf
  unfold f_X10_layRanks at h
  refine lv_aload_n hx hb dX10_layRanks_0 rfl (lv_at hl 0 rfl) ?_
  refine lv_iconst (v := 0) hx hb dX10_layRanks_1 (by decide) ?_
  refine va_put (D := (dC, dI)) (ci := 8) (v := .int (0 : Int32)) (ty := .int) (C := RX10) (T := TX10) (N := 26) hx hb hts hi_X10 tyX10 tyX10_ok nmX10 hown hK hP hD hS 0 rfl rfl 13 (by decide) (hts _ (List.mem_of_getElem? (i := 1) rfl)) (fun _ h9 => h9) rfl (by decide +kernel) rfl rfl (Nat.le_of_ble_eq_true rfl) dX10_layRanks_2 (fun H locs hP hD hS => ?_)
  replace hP : va_P (dC, dI) vwCl [(h0, .inr (8, [.ref q_now, .ref q_text, .int v_typed, .ref q_row, .int v_rowMany, .int v_thrown, .int v_length, .int v_at, .int v_wrong, .ref q_read, .ref q_ranks, .ref q_distinct, .ref q_proper, .int (0 : Int32), .ref q_line, .ref q_order, .int v_orderMany, .ref q_then, .ref q_bestOrder, .ref q_lineThen, .ref q_undos, .ref q_was, .int v_undoMany, .int v_drawn, .ref q_kept, .ref q_isKept])), (q_now, .inl (cJ, 120, .inr (.inl v_now))), (q_ranks, .inl (cI, 96, .inl v_ranks)), (q_distinct, .inl (cI, 6, .inl v_distinct)), (q_proper, .inl (cI, 6, .inl v_proper))] H := hP
  replace hD : va_D A [(h0, .inr (8, [.ref q_now, .ref q_text, .int v_typed, .ref q_row, .int v_rowMany, .int v_thrown, .int v_length, .int v_at, .int v_wrong, .ref q_read, .ref q_ranks, .ref q_distinct, .ref q_proper, .int (0 : Int32), .ref q_line, .ref q_order, .int v_orderMany, .ref q_then, .ref q_bestOrder, .ref q_lineThen, .ref q_undos, .ref q_was, .int v_undoMany, .int v_drawn, .ref q_kept, .ref q_isKept])), (q_now, .inl (cJ, 120, .inr (.inl v_now))), (q_ranks, .inl (cI, 96, .inl v_ranks)), (q_distinct, .inl (cI, 6, .inl v_distinct)), (q_proper, .inl (cI, 6, .inl v_proper))] := hD
  refine lv_iconst (v := 0) hx hb dX10_layRanks_5 (by decide) ?_
  refine lv_istore_n (lv' := [(1, .int (0 : Int32)), (0, .ref h0)]) hx hb dX10_layRanks_6 rfl hl (by decide) rfl (fun ls hl => ?_)
  have LP_746 : ∀ (n : Nat) (x1_7 : Int32) (v_properMany_7 : Int32) (v_ranks_7 : (Nat → Int32)) (v_distinct_7 : (Nat → Int32)) (v_proper_7 : (Nat → Int32)) (w : (Int32 × (Nat → Int32) × (Nat → Int32) × (Nat → Int32))) (H : Heap) (locs : List Loc) (ls : Array Slot), L_X10_layRanks_7 v_now n x1_7 v_properMany_7 v_ranks_7 v_distinct_7 v_proper_7 = some w → va_P (dC, dI) vwCl [(h0, .inr (8, [.ref q_now, .ref q_text, .int v_typed, .ref q_row, .int v_rowMany, .int v_thrown, .int v_length, .int v_at, .int v_wrong, .ref q_read, .ref q_ranks, .ref q_distinct, .ref q_proper, .int v_properMany_7, .ref q_line, .ref q_order, .int v_orderMany, .ref q_then, .ref q_bestOrder, .ref q_lineThen, .ref q_undos, .ref q_was, .int v_undoMany, .int v_drawn, .ref q_kept, .ref q_isKept])), (q_now, .inl (cJ, 120, .inr (.inl v_now))), (q_ranks, .inl (cI, 96, .inl v_ranks_7)), (q_distinct, .inl (cI, 6, .inl v_distinct_7)), (q_proper, .inl (cI, 6, .inl v_proper_7))] H → va_D A [(h0, .inr (8, [.ref q_now, .ref q_text, .int v_typed, .ref q_row, .int v_rowMany, .int v_thrown, .int v_length, .int v_at, .int v_wrong, .ref q_read, .ref q_ranks, .ref q_distinct, .ref q_proper, .int v_properMany_7, .ref q_line, .ref q_order, .int v_orderMany, .ref q_then, .ref q_bestOrder, .ref q_lineThen, .ref q_undos, .ref q_was, .int v_undoMany, .int v_drawn, .ref q_kept, .ref q_isKept])), (q_now, .inl (cJ, 120, .inr (.inl v_now))), (q_ranks, .inl (cI, 96, .inl v_ranks_7)), (q_distinct, .inl (cI, 6, .inl v_distinct_7)), (q_proper, .inl (cI, 6, .inl v_proper_7))] → va_S A s.heap H locs → lv_has ls 3 [(0, .ref h0), (1, .int x1_7)] → (∀ (H : Heap) (locs : List Loc) (ls : Array Slot), va_P (dC, dI) vwCl [(h0, .inr (8, [.ref q_now, .ref q_text, .int v_typed, .ref q_row, .int v_rowMany, .int v_thrown, .int v_length, .int v_at, .int v_wrong, .ref q_read, .ref q_ranks, .ref q_distinct, .ref q_proper, .int w.1, .ref q_line, .ref q_order, .int v_orderMany, .ref q_then, .ref q_bestOrder, .ref q_lineThen, .ref q_undos, .ref q_was, .int v_undoMany, .int v_drawn, .ref q_kept, .ref q_isKept])), (q_now, .inl (cJ, 120, .inr (.inl v_now))), (q_ranks, .inl (cI, 96, .inl w.2.1)), (q_distinct, .inl (cI, 6, .inl w.2.2.1)), (q_proper, .inl (cI, 6, .inl w.2.2.2))] H → va_D A [(h0, .inr (8, [.ref q_now, .ref q_text, .int v_typed, .ref q_row, .int v_rowMany, .int v_thrown, .int v_length, .int v_at, .int v_wrong, .ref q_read, .ref q_ranks, .ref q_distinct, .ref q_proper, .int w.1, .ref q_line, .ref q_order, .int v_orderMany, .ref q_then, .ref q_bestOrder, .ref q_lineThen, .ref q_undos, .ref q_was, .int v_undoMany, .int v_drawn, .ref q_kept, .ref q_isKept])), (q_now, .inl (cJ, 120, .inr (.inl v_now))), (q_ranks, .inl (cI, 96, .inl w.2.1)), (q_distinct, .inl (cI, 6, .inl w.2.2.1)), (q_proper, .inl (cI, 6, .inl w.2.2.2))] → va_S A s.heap H locs → lv_has ls 3 [] → W p l e rm_X10_layRanks s m args below meth c H locs 0 0 QQ (F0 m 115 ls [])) → W p l e rm_X10_layRanks s m args below meth c H locs 0 0 QQ (F0 m 7 ls []) := by
    intro n
    induction n with
    | zero => intro x1_7 v_properMany_7 v_ranks_7 v_distinct_7 v_proper_7 w H locs ls h; exact absurd (show none = some w from h) nofun
    | succ n ih =>
      intro x1_7 v_properMany_7 v_ranks_7 v_distinct_7 v_proper_7 w H locs ls h hP hD hS hl K
      rw [L_X10_layRanks_7] at h
      refine lv_iload_n hx hb dX10_layRanks_7 rfl (lv_at hl 1 rfl) ?_
      refine lv_aload_n hx hb dX10_layRanks_8 rfl (lv_at hl 0 rfl) ?_
      obtain ⟨o_725, hr_725, h⟩ := ob h
      refine vp_callSi (va_Run.run (va_runV (As := []) (rest := [.int x1_7]) ⟨hx, hb, hml, hown, hts⟩ (c_X10_columns l dC dI cB cC cI cJ cZ cT h0 q_now q_text q_row q_read q_ranks q_distinct q_proper q_line q_order q_then q_bestOrder q_lineThen q_undos q_was q_kept q_isKept v_typed v_rowMany v_thrown v_length v_at v_wrong v_properMany_7 v_orderMany v_undoMany v_drawn v_now o_725 hr_725) (cwV 0 hts gX10_layRanks_X10_columns rfl rfl rfl (by decide +kernel) ⟨Nat.le_of_ble_eq_true rfl, Nat.le_of_ble_eq_true rfl⟩) ⟨blR, va_recv hK hP (ci := 8) (q0 := 0) rfl rfl, fun U hU hW => ⟨rfl, by rw [hU]; exact hP.sub [0, 1] rfl, va_K.moved hW.alike hK⟩⟩ rfl rfl hl.1 rfl (lv_room (Nat.le_of_ble_eq_true rfl)) dX10_layRanks_9 ⟨Nat.le_of_ble_eq_true rfl, Nat.le_of_ble_eq_true rfl⟩)) (fun r_725 e_725 => ?_)
      subst e_725
      refine lv_icmp_ge (tgt := 115) hx hb dX10_layRanks_12 (by decide) (fun c_727 => ?_) (fun c_727 => ?_)
      · replace h := op c_727 h
        have ho := Option.some.inj h
        subst ho
        exact K H _ ls hP hD hS (lv_sub hl [] rfl)
      · replace h := on c_727 h
        refine lv_aload_n hx hb dX10_layRanks_15 rfl (lv_at hl 0 rfl) ?_
        refine lv_iload_n hx hb dX10_layRanks_16 rfl (lv_at hl 1 rfl) ?_
        obtain ⟨o_728, hr_728, h⟩ := ob h
        refine vp_callSi (va_Run.run (va_runV (As := [.int x1_7]) (rest := []) ⟨hx, hb, hml, hown, hts⟩ (c_X10_isProper l dC dI cB cC cI cJ cZ cT h0 q_now q_text q_row q_read q_ranks q_distinct q_proper q_line q_order q_then q_bestOrder q_lineThen q_undos q_was q_kept q_isKept v_typed v_rowMany v_thrown v_length v_at v_wrong v_properMany_7 v_orderMany v_undoMany v_drawn v_now x1_7 o_728 hr_728) (cwV 1 hts gX10_layRanks_X10_isProper rfl rfl rfl (by decide +kernel) ⟨Nat.le_of_ble_eq_true rfl, Nat.le_of_ble_eq_true rfl⟩) ⟨blR, va_recv hK hP (ci := 8) (q0 := 0) rfl rfl, fun U hU hW => ⟨rfl, by rw [hU]; exact hP.sub [0, 1] rfl, va_K.moved hW.alike hK⟩⟩ rfl rfl hl.1 rfl (lv_room (Nat.le_of_ble_eq_true rfl)) dX10_layRanks_17 ⟨Nat.le_of_ble_eq_true rfl, Nat.le_of_ble_eq_true rfl⟩)) (fun r_728 e_728 => ?_)
        subst e_728
        refine lv_if_ne (tgt := 26) hx hb dX10_layRanks_20 (by decide) (fun c_730 => ?_) (fun c_730 => ?_)
        · replace h := on c_730 h
          refine lv_aload_n hx hb dX10_layRanks_26 rfl (lv_at hl 0 rfl) ?_
          refine va_get (D := (dC, dI)) (ci := 8) (v := .ref q_proper) (C := RX10) (T := TX10) (N := 26) hx hb hts hi_X10 hown hK hP 0 rfl rfl 12 (by decide) (hts _ (List.mem_of_getElem? (i := 2) rfl)) (fun _ h9 => h9) rfl dX10_layRanks_27 ?_
          refine lv_aload_n hx hb dX10_layRanks_30 rfl (lv_at hl 0 rfl) ?_
          refine va_get (D := (dC, dI)) (ci := 8) (v := .int v_properMany_7) (C := RX10) (T := TX10) (N := 26) hx hb hts hi_X10 hown hK hP 0 rfl rfl 13 (by decide) (hts _ (List.mem_of_getElem? (i := 1) rfl)) (fun _ h9 => h9) rfl dX10_layRanks_31 ?_
          refine lv_iload_n hx hb dX10_layRanks_34 rfl (lv_at hl 1 rfl) ?_
          obtain ⟨hi_731, h⟩ := og h
          refine va_iast hx hb hK hP hD hS 4 0 rfl rfl hi_731 dX10_layRanks_35 (fun H locs hP hD hS => ?_)
          replace hP : va_P (dC, dI) vwCl [(h0, .inr (8, [.ref q_now, .ref q_text, .int v_typed, .ref q_row, .int v_rowMany, .int v_thrown, .int v_length, .int v_at, .int v_wrong, .ref q_read, .ref q_ranks, .ref q_distinct, .ref q_proper, .int v_properMany_7, .ref q_line, .ref q_order, .int v_orderMany, .ref q_then, .ref q_bestOrder, .ref q_lineThen, .ref q_undos, .ref q_was, .int v_undoMany, .int v_drawn, .ref q_kept, .ref q_isKept])), (q_now, .inl (cJ, 120, .inr (.inl v_now))), (q_ranks, .inl (cI, 96, .inl v_ranks_7)), (q_distinct, .inl (cI, 6, .inl v_distinct_7)), (q_proper, .inl (cI, 6, .inl (upd v_proper_7 (v_properMany_7).toNatClampNeg x1_7)))] H := hP
          replace hD : va_D A [(h0, .inr (8, [.ref q_now, .ref q_text, .int v_typed, .ref q_row, .int v_rowMany, .int v_thrown, .int v_length, .int v_at, .int v_wrong, .ref q_read, .ref q_ranks, .ref q_distinct, .ref q_proper, .int v_properMany_7, .ref q_line, .ref q_order, .int v_orderMany, .ref q_then, .ref q_bestOrder, .ref q_lineThen, .ref q_undos, .ref q_was, .int v_undoMany, .int v_drawn, .ref q_kept, .ref q_isKept])), (q_now, .inl (cJ, 120, .inr (.inl v_now))), (q_ranks, .inl (cI, 96, .inl v_ranks_7)), (q_distinct, .inl (cI, 6, .inl v_distinct_7)), (q_proper, .inl (cI, 6, .inl (upd v_proper_7 (v_properMany_7).toNatClampNeg x1_7)))] := hD
          refine lv_aload_n hx hb dX10_layRanks_36 rfl (lv_at hl 0 rfl) ?_
          refine lv_dup hx hb dX10_layRanks_37 rfl ?_
          refine va_get (D := (dC, dI)) (ci := 8) (v := .int v_properMany_7) (C := RX10) (T := TX10) (N := 26) hx hb hts hi_X10 hown hK hP 0 rfl rfl 13 (by decide) (hts _ (List.mem_of_getElem? (i := 1) rfl)) (fun _ h9 => h9) rfl dX10_layRanks_38 ?_
          refine lv_iconst (v := 1) hx hb dX10_layRanks_41 (by decide) ?_
          refine lv_iadd hx hb dX10_layRanks_42 ?_
          refine va_put (D := (dC, dI)) (ci := 8) (v := .int (v_properMany_7 + (1 : Int32))) (ty := .int) (C := RX10) (T := TX10) (N := 26) hx hb hts hi_X10 tyX10 tyX10_ok nmX10 hown hK hP hD hS 0 rfl rfl 13 (by decide) (hts _ (List.mem_of_getElem? (i := 1) rfl)) (fun _ h9 => h9) rfl (by decide +kernel) rfl rfl (Nat.le_of_ble_eq_true rfl) dX10_layRanks_43 (fun H locs hP hD hS => ?_)
          replace hP : va_P (dC, dI) vwCl [(h0, .inr (8, [.ref q_now, .ref q_text, .int v_typed, .ref q_row, .int v_rowMany, .int v_thrown, .int v_length, .int v_at, .int v_wrong, .ref q_read, .ref q_ranks, .ref q_distinct, .ref q_proper, .int (v_properMany_7 + (1 : Int32)), .ref q_line, .ref q_order, .int v_orderMany, .ref q_then, .ref q_bestOrder, .ref q_lineThen, .ref q_undos, .ref q_was, .int v_undoMany, .int v_drawn, .ref q_kept, .ref q_isKept])), (q_now, .inl (cJ, 120, .inr (.inl v_now))), (q_ranks, .inl (cI, 96, .inl v_ranks_7)), (q_distinct, .inl (cI, 6, .inl v_distinct_7)), (q_proper, .inl (cI, 6, .inl (upd v_proper_7 (v_properMany_7).toNatClampNeg x1_7)))] H := hP
          replace hD : va_D A [(h0, .inr (8, [.ref q_now, .ref q_text, .int v_typed, .ref q_row, .int v_rowMany, .int v_thrown, .int v_length, .int v_at, .int v_wrong, .ref q_read, .ref q_ranks, .ref q_distinct, .ref q_proper, .int (v_properMany_7 + (1 : Int32)), .ref q_line, .ref q_order, .int v_orderMany, .ref q_then, .ref q_bestOrder, .ref q_lineThen, .ref q_undos, .ref q_was, .int v_undoMany, .int v_drawn, .ref q_kept, .ref q_isKept])), (q_now, .inl (cJ, 120, .inr (.inl v_now))), (q_ranks, .inl (cI, 96, .inl v_ranks_7)), (q_distinct, .inl (cI, 6, .inl v_distinct_7)), (q_proper, .inl (cI, 6, .inl (upd v_proper_7 (v_properMany_7).toNatClampNeg x1_7)))] := hD
          refine lv_aload_n hx hb dX10_layRanks_46 rfl (lv_at hl 0 rfl) ?_
          refine va_get (D := (dC, dI)) (ci := 8) (v := .ref q_distinct) (C := RX10) (T := TX10) (N := 26) hx hb hts hi_X10 hown hK hP 0 rfl rfl 11 (by decide) (hts _ (List.mem_of_getElem? (i := 3) rfl)) (fun _ h9 => h9) rfl dX10_layRanks_47 ?_
          refine lv_iload_n hx hb dX10_layRanks_50 rfl (lv_at hl 1 rfl) ?_
          refine lv_iconst (v := 0) hx hb dX10_layRanks_51 (by decide) ?_
          obtain ⟨hi_732, h⟩ := og h
          refine va_iast hx hb hK hP hD hS 3 0 rfl rfl hi_732 dX10_layRanks_52 (fun H locs hP hD hS => ?_)
          replace hP : va_P (dC, dI) vwCl [(h0, .inr (8, [.ref q_now, .ref q_text, .int v_typed, .ref q_row, .int v_rowMany, .int v_thrown, .int v_length, .int v_at, .int v_wrong, .ref q_read, .ref q_ranks, .ref q_distinct, .ref q_proper, .int (v_properMany_7 + (1 : Int32)), .ref q_line, .ref q_order, .int v_orderMany, .ref q_then, .ref q_bestOrder, .ref q_lineThen, .ref q_undos, .ref q_was, .int v_undoMany, .int v_drawn, .ref q_kept, .ref q_isKept])), (q_now, .inl (cJ, 120, .inr (.inl v_now))), (q_ranks, .inl (cI, 96, .inl v_ranks_7)), (q_distinct, .inl (cI, 6, .inl (upd v_distinct_7 (x1_7).toNatClampNeg (0 : Int32)))), (q_proper, .inl (cI, 6, .inl (upd v_proper_7 (v_properMany_7).toNatClampNeg x1_7)))] H := hP
          replace hD : va_D A [(h0, .inr (8, [.ref q_now, .ref q_text, .int v_typed, .ref q_row, .int v_rowMany, .int v_thrown, .int v_length, .int v_at, .int v_wrong, .ref q_read, .ref q_ranks, .ref q_distinct, .ref q_proper, .int (v_properMany_7 + (1 : Int32)), .ref q_line, .ref q_order, .int v_orderMany, .ref q_then, .ref q_bestOrder, .ref q_lineThen, .ref q_undos, .ref q_was, .int v_undoMany, .int v_drawn, .ref q_kept, .ref q_isKept])), (q_now, .inl (cJ, 120, .inr (.inl v_now))), (q_ranks, .inl (cI, 96, .inl v_ranks_7)), (q_distinct, .inl (cI, 6, .inl (upd v_distinct_7 (x1_7).toNatClampNeg (0 : Int32)))), (q_proper, .inl (cI, 6, .inl (upd v_proper_7 (v_properMany_7).toNatClampNeg x1_7)))] := hD
          refine lv_iconst (v := 0) hx hb dX10_layRanks_53 (by decide) ?_
          refine lv_istore_n (lv' := [(2, .int (0 : Int32)), (0, .ref h0), (1, .int x1_7)]) hx hb dX10_layRanks_54 rfl hl (by decide) rfl (fun ls hl => ?_)
          have LP_745 : ∀ (n : Nat) (x2_55 : Int32) (v_ranks_55 : (Nat → Int32)) (v_distinct_55 : (Nat → Int32)) (w : ((Nat → Int32) × (Nat → Int32))) (H : Heap) (locs : List Loc) (ls : Array Slot), L_X10_layRanks_55 v_now x1_7 n x2_55 v_ranks_55 v_distinct_55 = some w → va_P (dC, dI) vwCl [(h0, .inr (8, [.ref q_now, .ref q_text, .int v_typed, .ref q_row, .int v_rowMany, .int v_thrown, .int v_length, .int v_at, .int v_wrong, .ref q_read, .ref q_ranks, .ref q_distinct, .ref q_proper, .int (v_properMany_7 + (1 : Int32)), .ref q_line, .ref q_order, .int v_orderMany, .ref q_then, .ref q_bestOrder, .ref q_lineThen, .ref q_undos, .ref q_was, .int v_undoMany, .int v_drawn, .ref q_kept, .ref q_isKept])), (q_now, .inl (cJ, 120, .inr (.inl v_now))), (q_ranks, .inl (cI, 96, .inl v_ranks_55)), (q_distinct, .inl (cI, 6, .inl v_distinct_55)), (q_proper, .inl (cI, 6, .inl (upd v_proper_7 (v_properMany_7).toNatClampNeg x1_7)))] H → va_D A [(h0, .inr (8, [.ref q_now, .ref q_text, .int v_typed, .ref q_row, .int v_rowMany, .int v_thrown, .int v_length, .int v_at, .int v_wrong, .ref q_read, .ref q_ranks, .ref q_distinct, .ref q_proper, .int (v_properMany_7 + (1 : Int32)), .ref q_line, .ref q_order, .int v_orderMany, .ref q_then, .ref q_bestOrder, .ref q_lineThen, .ref q_undos, .ref q_was, .int v_undoMany, .int v_drawn, .ref q_kept, .ref q_isKept])), (q_now, .inl (cJ, 120, .inr (.inl v_now))), (q_ranks, .inl (cI, 96, .inl v_ranks_55)), (q_distinct, .inl (cI, 6, .inl v_distinct_55)), (q_proper, .inl (cI, 6, .inl (upd v_proper_7 (v_properMany_7).toNatClampNeg x1_7)))] → va_S A s.heap H locs → lv_has ls 3 [(0, .ref h0), (1, .int x1_7), (2, .int x2_55)] → (∀ (H : Heap) (locs : List Loc) (ls : Array Slot), va_P (dC, dI) vwCl [(h0, .inr (8, [.ref q_now, .ref q_text, .int v_typed, .ref q_row, .int v_rowMany, .int v_thrown, .int v_length, .int v_at, .int v_wrong, .ref q_read, .ref q_ranks, .ref q_distinct, .ref q_proper, .int (v_properMany_7 + (1 : Int32)), .ref q_line, .ref q_order, .int v_orderMany, .ref q_then, .ref q_bestOrder, .ref q_lineThen, .ref q_undos, .ref q_was, .int v_undoMany, .int v_drawn, .ref q_kept, .ref q_isKept])), (q_now, .inl (cJ, 120, .inr (.inl v_now))), (q_ranks, .inl (cI, 96, .inl w.1)), (q_distinct, .inl (cI, 6, .inl w.2)), (q_proper, .inl (cI, 6, .inl (upd v_proper_7 (v_properMany_7).toNatClampNeg x1_7)))] H → va_D A [(h0, .inr (8, [.ref q_now, .ref q_text, .int v_typed, .ref q_row, .int v_rowMany, .int v_thrown, .int v_length, .int v_at, .int v_wrong, .ref q_read, .ref q_ranks, .ref q_distinct, .ref q_proper, .int (v_properMany_7 + (1 : Int32)), .ref q_line, .ref q_order, .int v_orderMany, .ref q_then, .ref q_bestOrder, .ref q_lineThen, .ref q_undos, .ref q_was, .int v_undoMany, .int v_drawn, .ref q_kept, .ref q_isKept])), (q_now, .inl (cJ, 120, .inr (.inl v_now))), (q_ranks, .inl (cI, 96, .inl w.1)), (q_distinct, .inl (cI, 6, .inl w.2)), (q_proper, .inl (cI, 6, .inl (upd v_proper_7 (v_properMany_7).toNatClampNeg x1_7)))] → va_S A s.heap H locs → lv_has ls 3 [(0, .ref h0), (1, .int x1_7)] → W p l e rm_X10_layRanks s m args below meth c H locs 0 0 QQ (F0 m 109 ls [])) → W p l e rm_X10_layRanks s m args below meth c H locs 0 0 QQ (F0 m 55 ls []) := by
            intro n
            induction n with
            | zero => intro x2_55 v_ranks_55 v_distinct_55 w H locs ls h; exact absurd (show none = some w from h) nofun
            | succ n ih =>
              intro x2_55 v_ranks_55 v_distinct_55 w H locs ls h hP hD hS hl K
              rw [L_X10_layRanks_55] at h
              refine lv_iload_n hx hb dX10_layRanks_55 rfl (lv_at hl 2 rfl) ?_
              refine lv_aload_n hx hb dX10_layRanks_56 rfl (lv_at hl 0 rfl) ?_
              obtain ⟨o_733, hr_733, h⟩ := ob h
              refine vp_callSi (va_Run.run (va_runV (As := []) (rest := [.int x2_55]) ⟨hx, hb, hml, hown, hts⟩ (c_X10_rows l dC dI cB cC cI cJ cZ cT h0 q_now q_text q_row q_read q_ranks q_distinct q_proper q_line q_order q_then q_bestOrder q_lineThen q_undos q_was q_kept q_isKept v_typed v_rowMany v_thrown v_length v_at v_wrong (v_properMany_7 + (1 : Int32)) v_orderMany v_undoMany v_drawn v_now o_733 hr_733) (cwV 0 hts gX10_layRanks_X10_rows rfl rfl rfl (by decide +kernel) ⟨Nat.le_of_ble_eq_true rfl, Nat.le_of_ble_eq_true rfl⟩) ⟨blR, va_recv hK hP (ci := 8) (q0 := 0) rfl rfl, fun U hU hW => ⟨rfl, by rw [hU]; exact hP.sub [0, 1] rfl, va_K.moved hW.alike hK⟩⟩ rfl rfl hl.1 rfl (lv_room (Nat.le_of_ble_eq_true rfl)) dX10_layRanks_57 ⟨Nat.le_of_ble_eq_true rfl, Nat.le_of_ble_eq_true rfl⟩)) (fun r_733 e_733 => ?_)
              subst e_733
              refine lv_icmp_ge (tgt := 109) hx hb dX10_layRanks_60 (by decide) (fun c_735 => ?_) (fun c_735 => ?_)
              · replace h := op c_735 h
                have ho := Option.some.inj h
                subst ho
                exact K H _ ls hP hD hS (lv_sub hl [0, 1] rfl)
              · replace h := on c_735 h
                refine lv_aload_n hx hb dX10_layRanks_63 rfl (lv_at hl 0 rfl) ?_
                refine va_get (D := (dC, dI)) (ci := 8) (v := .ref q_ranks) (C := RX10) (T := TX10) (N := 26) hx hb hts hi_X10 hown hK hP 0 rfl rfl 10 (by decide) (hts _ (List.mem_of_getElem? (i := 4) rfl)) (fun _ h9 => h9) rfl dX10_layRanks_64 ?_
                refine lv_bipush (v := 16) hx hb dX10_layRanks_67 (by decide) ?_
                refine lv_iload_n hx hb dX10_layRanks_69 rfl (lv_at hl 1 rfl) ?_
                refine lv_imul hx hb dX10_layRanks_70 ?_
                refine lv_iload_n hx hb dX10_layRanks_71 rfl (lv_at hl 2 rfl) ?_
                refine lv_iadd hx hb dX10_layRanks_72 ?_
                refine lv_aload_n hx hb dX10_layRanks_73 rfl (lv_at hl 0 rfl) ?_
                refine lv_iload_n hx hb dX10_layRanks_74 rfl (lv_at hl 1 rfl) ?_
                refine lv_iload_n hx hb dX10_layRanks_75 rfl (lv_at hl 2 rfl) ?_
                obtain ⟨o_736, hr_736, h⟩ := ob h
                refine vp_callSi (va_Run.run (va_runV (As := [.int x1_7, .int x2_55]) (rest := [.int (((16 : Int32) * x1_7) + x2_55), .ref q_ranks]) ⟨hx, hb, hml, hown, hts⟩ (c_X10_rankOf l dC dI cB cC cI cJ cZ cT h0 q_now q_text q_row q_read q_ranks q_distinct q_proper q_line q_order q_then q_bestOrder q_lineThen q_undos q_was q_kept q_isKept v_typed v_rowMany v_thrown v_length v_at v_wrong (v_properMany_7 + (1 : Int32)) v_orderMany v_undoMany v_drawn v_now x1_7 x2_55 o_736 hr_736) (cwV 2 hts gX10_layRanks_X10_rankOf rfl rfl rfl (by decide +kernel) ⟨Nat.le_of_ble_eq_true rfl, Nat.le_of_ble_eq_true rfl⟩) ⟨blR, va_recv hK hP (ci := 8) (q0 := 0) rfl rfl, fun U hU hW => ⟨rfl, by rw [hU]; exact hP.sub [0, 1] rfl, va_K.moved hW.alike hK⟩⟩ rfl rfl hl.1 rfl (lv_room (Nat.le_of_ble_eq_true rfl)) dX10_layRanks_76 ⟨Nat.le_of_ble_eq_true rfl, Nat.le_of_ble_eq_true rfl⟩)) (fun r_736 e_736 => ?_)
                subst e_736
                obtain ⟨hi_738, h⟩ := og h
                refine va_iast hx hb hK hP hD hS 2 0 rfl rfl hi_738 dX10_layRanks_79 (fun H locs hP hD hS => ?_)
                replace hP : va_P (dC, dI) vwCl [(h0, .inr (8, [.ref q_now, .ref q_text, .int v_typed, .ref q_row, .int v_rowMany, .int v_thrown, .int v_length, .int v_at, .int v_wrong, .ref q_read, .ref q_ranks, .ref q_distinct, .ref q_proper, .int (v_properMany_7 + (1 : Int32)), .ref q_line, .ref q_order, .int v_orderMany, .ref q_then, .ref q_bestOrder, .ref q_lineThen, .ref q_undos, .ref q_was, .int v_undoMany, .int v_drawn, .ref q_kept, .ref q_isKept])), (q_now, .inl (cJ, 120, .inr (.inl v_now))), (q_ranks, .inl (cI, 96, .inl (upd v_ranks_55 ((((16 : Int32) * x1_7) + x2_55)).toNatClampNeg o_736))), (q_distinct, .inl (cI, 6, .inl v_distinct_55)), (q_proper, .inl (cI, 6, .inl (upd v_proper_7 (v_properMany_7).toNatClampNeg x1_7)))] H := hP
                replace hD : va_D A [(h0, .inr (8, [.ref q_now, .ref q_text, .int v_typed, .ref q_row, .int v_rowMany, .int v_thrown, .int v_length, .int v_at, .int v_wrong, .ref q_read, .ref q_ranks, .ref q_distinct, .ref q_proper, .int (v_properMany_7 + (1 : Int32)), .ref q_line, .ref q_order, .int v_orderMany, .ref q_then, .ref q_bestOrder, .ref q_lineThen, .ref q_undos, .ref q_was, .int v_undoMany, .int v_drawn, .ref q_kept, .ref q_isKept])), (q_now, .inl (cJ, 120, .inr (.inl v_now))), (q_ranks, .inl (cI, 96, .inl (upd v_ranks_55 ((((16 : Int32) * x1_7) + x2_55)).toNatClampNeg o_736))), (q_distinct, .inl (cI, 6, .inl v_distinct_55)), (q_proper, .inl (cI, 6, .inl (upd v_proper_7 (v_properMany_7).toNatClampNeg x1_7)))] := hD
                refine lv_aload_n hx hb dX10_layRanks_80 rfl (lv_at hl 0 rfl) ?_
                refine va_get (D := (dC, dI)) (ci := 8) (v := .ref q_distinct) (C := RX10) (T := TX10) (N := 26) hx hb hts hi_X10 hown hK hP 0 rfl rfl 11 (by decide) (hts _ (List.mem_of_getElem? (i := 3) rfl)) (fun _ h9 => h9) rfl dX10_layRanks_81 ?_
                refine lv_iload_n hx hb dX10_layRanks_84 rfl (lv_at hl 1 rfl) ?_
                refine lv_dup2_11 hx hb dX10_layRanks_85 rfl rfl ?_
                obtain ⟨hi_739, h⟩ := og h
                refine va_iald hx hb hK hP 3 0 rfl rfl hi_739 dX10_layRanks_86 ?_
                refine lv_aload_n hx hb dX10_layRanks_87 rfl (lv_at hl 0 rfl) ?_
                refine lv_iload_n hx hb dX10_layRanks_88 rfl (lv_at hl 1 rfl) ?_
                refine lv_iload_n hx hb dX10_layRanks_89 rfl (lv_at hl 2 rfl) ?_
                obtain ⟨o_740, hr_740, h⟩ := ob h
                refine vp_callSi (va_Run.run (va_runV (As := [.int x1_7, .int x2_55]) (rest := [.int (v_distinct_55 (x1_7).toNatClampNeg), .int x1_7, .ref q_distinct]) ⟨hx, hb, hml, hown, hts⟩ (c_X10_isFirst l dC dI cB cC cI cJ cZ cT h0 q_now q_text q_row q_read q_ranks q_distinct q_proper q_line q_order q_then q_bestOrder q_lineThen q_undos q_was q_kept q_isKept v_typed v_rowMany v_thrown v_length v_at v_wrong (v_properMany_7 + (1 : Int32)) v_orderMany v_undoMany v_drawn v_now x1_7 x2_55 o_740 hr_740) (cwV 2 hts gX10_layRanks_X10_isFirst rfl rfl rfl (by decide +kernel) ⟨Nat.le_of_ble_eq_true rfl, Nat.le_of_ble_eq_true rfl⟩) ⟨blR, va_recv hK hP (ci := 8) (q0 := 0) rfl rfl, fun U hU hW => ⟨rfl, by rw [hU]; exact hP.sub [0, 1] rfl, va_K.moved hW.alike hK⟩⟩ rfl rfl hl.1 rfl (lv_room (Nat.le_of_ble_eq_true rfl)) dX10_layRanks_90 ⟨Nat.le_of_ble_eq_true rfl, Nat.le_of_ble_eq_true rfl⟩)) (fun r_740 e_740 => ?_)
                subst e_740
                refine lv_if_eq (tgt := 100) hx hb dX10_layRanks_93 (by decide) (fun c_742 => ?_) (fun c_742 => ?_)
                · replace h := op c_742 h
                  refine lv_iconst (v := 0) hx hb dX10_layRanks_100 (by decide) ?_
                  refine lv_iadd hx hb dX10_layRanks_101 ?_
                  obtain ⟨hi_743, h⟩ := og h
                  refine va_iast hx hb hK hP hD hS 3 0 rfl rfl hi_743 dX10_layRanks_102 (fun H locs hP hD hS => ?_)
                  replace hP : va_P (dC, dI) vwCl [(h0, .inr (8, [.ref q_now, .ref q_text, .int v_typed, .ref q_row, .int v_rowMany, .int v_thrown, .int v_length, .int v_at, .int v_wrong, .ref q_read, .ref q_ranks, .ref q_distinct, .ref q_proper, .int (v_properMany_7 + (1 : Int32)), .ref q_line, .ref q_order, .int v_orderMany, .ref q_then, .ref q_bestOrder, .ref q_lineThen, .ref q_undos, .ref q_was, .int v_undoMany, .int v_drawn, .ref q_kept, .ref q_isKept])), (q_now, .inl (cJ, 120, .inr (.inl v_now))), (q_ranks, .inl (cI, 96, .inl (upd v_ranks_55 ((((16 : Int32) * x1_7) + x2_55)).toNatClampNeg o_736))), (q_distinct, .inl (cI, 6, .inl (upd v_distinct_55 (x1_7).toNatClampNeg ((v_distinct_55 (x1_7).toNatClampNeg) + (0 : Int32))))), (q_proper, .inl (cI, 6, .inl (upd v_proper_7 (v_properMany_7).toNatClampNeg x1_7)))] H := hP
                  replace hD : va_D A [(h0, .inr (8, [.ref q_now, .ref q_text, .int v_typed, .ref q_row, .int v_rowMany, .int v_thrown, .int v_length, .int v_at, .int v_wrong, .ref q_read, .ref q_ranks, .ref q_distinct, .ref q_proper, .int (v_properMany_7 + (1 : Int32)), .ref q_line, .ref q_order, .int v_orderMany, .ref q_then, .ref q_bestOrder, .ref q_lineThen, .ref q_undos, .ref q_was, .int v_undoMany, .int v_drawn, .ref q_kept, .ref q_isKept])), (q_now, .inl (cJ, 120, .inr (.inl v_now))), (q_ranks, .inl (cI, 96, .inl (upd v_ranks_55 ((((16 : Int32) * x1_7) + x2_55)).toNatClampNeg o_736))), (q_distinct, .inl (cI, 6, .inl (upd v_distinct_55 (x1_7).toNatClampNeg ((v_distinct_55 (x1_7).toNatClampNeg) + (0 : Int32))))), (q_proper, .inl (cI, 6, .inl (upd v_proper_7 (v_properMany_7).toNatClampNeg x1_7)))] := hD
                  refine lv_iinc (v := (x2_55 + 1)) (lv' := [(2, .int (x2_55 + 1)), (0, .ref h0), (1, .int x1_7)]) hx hb dX10_layRanks_103 hl (k := 2) rfl (by rfl) (by decide) rfl (fun ls hl => ?_)
                  refine lv_goto (tgt := 55) hx hb dX10_layRanks_106 (by decide) ?_
                  exact ih (x2_55 + 1) (upd v_ranks_55 ((((16 : Int32) * x1_7) + x2_55)).toNatClampNeg o_736) (upd v_distinct_55 (x1_7).toNatClampNeg ((v_distinct_55 (x1_7).toNatClampNeg) + (0 : Int32))) w H _ ls h hP hD hS (lv_sub hl [1, 2, 0] rfl) K
                · replace h := on c_742 h
                  refine lv_iconst (v := 1) hx hb dX10_layRanks_96 (by decide) ?_
                  refine lv_goto (tgt := 101) hx hb dX10_layRanks_97 (by decide) ?_
                  refine lv_iadd hx hb dX10_layRanks_101 ?_
                  obtain ⟨hi_744, h⟩ := og h
                  refine va_iast hx hb hK hP hD hS 3 0 rfl rfl hi_744 dX10_layRanks_102 (fun H locs hP hD hS => ?_)
                  replace hP : va_P (dC, dI) vwCl [(h0, .inr (8, [.ref q_now, .ref q_text, .int v_typed, .ref q_row, .int v_rowMany, .int v_thrown, .int v_length, .int v_at, .int v_wrong, .ref q_read, .ref q_ranks, .ref q_distinct, .ref q_proper, .int (v_properMany_7 + (1 : Int32)), .ref q_line, .ref q_order, .int v_orderMany, .ref q_then, .ref q_bestOrder, .ref q_lineThen, .ref q_undos, .ref q_was, .int v_undoMany, .int v_drawn, .ref q_kept, .ref q_isKept])), (q_now, .inl (cJ, 120, .inr (.inl v_now))), (q_ranks, .inl (cI, 96, .inl (upd v_ranks_55 ((((16 : Int32) * x1_7) + x2_55)).toNatClampNeg o_736))), (q_distinct, .inl (cI, 6, .inl (upd v_distinct_55 (x1_7).toNatClampNeg ((v_distinct_55 (x1_7).toNatClampNeg) + (1 : Int32))))), (q_proper, .inl (cI, 6, .inl (upd v_proper_7 (v_properMany_7).toNatClampNeg x1_7)))] H := hP
                  replace hD : va_D A [(h0, .inr (8, [.ref q_now, .ref q_text, .int v_typed, .ref q_row, .int v_rowMany, .int v_thrown, .int v_length, .int v_at, .int v_wrong, .ref q_read, .ref q_ranks, .ref q_distinct, .ref q_proper, .int (v_properMany_7 + (1 : Int32)), .ref q_line, .ref q_order, .int v_orderMany, .ref q_then, .ref q_bestOrder, .ref q_lineThen, .ref q_undos, .ref q_was, .int v_undoMany, .int v_drawn, .ref q_kept, .ref q_isKept])), (q_now, .inl (cJ, 120, .inr (.inl v_now))), (q_ranks, .inl (cI, 96, .inl (upd v_ranks_55 ((((16 : Int32) * x1_7) + x2_55)).toNatClampNeg o_736))), (q_distinct, .inl (cI, 6, .inl (upd v_distinct_55 (x1_7).toNatClampNeg ((v_distinct_55 (x1_7).toNatClampNeg) + (1 : Int32))))), (q_proper, .inl (cI, 6, .inl (upd v_proper_7 (v_properMany_7).toNatClampNeg x1_7)))] := hD
                  refine lv_iinc (v := (x2_55 + 1)) (lv' := [(2, .int (x2_55 + 1)), (0, .ref h0), (1, .int x1_7)]) hx hb dX10_layRanks_103 hl (k := 2) rfl (by rfl) (by decide) rfl (fun ls hl => ?_)
                  refine lv_goto (tgt := 55) hx hb dX10_layRanks_106 (by decide) ?_
                  exact ih (x2_55 + 1) (upd v_ranks_55 ((((16 : Int32) * x1_7) + x2_55)).toNatClampNeg o_736) (upd v_distinct_55 (x1_7).toNatClampNeg ((v_distinct_55 (x1_7).toNatClampNeg) + (1 : Int32))) w H _ ls h hP hD hS (lv_sub hl [1, 2, 0] rfl) K
          obtain ⟨w_745, hw_745, h⟩ := ob h
          refine LP_745 fu (0 : Int32) v_ranks_7 (upd v_distinct_7 (x1_7).toNatClampNeg (0 : Int32)) w_745 H _ ls hw_745 hP hD hS (lv_sub hl [1, 2, 0] rfl) (fun H locs ls hP hD hS hl => ?_)
          refine lv_iinc (v := (x1_7 + 1)) (lv' := [(1, .int (x1_7 + 1)), (0, .ref h0)]) hx hb dX10_layRanks_109 hl (k := 1) rfl (by rfl) (by decide) rfl (fun ls hl => ?_)
          refine lv_goto (tgt := 7) hx hb dX10_layRanks_112 (by decide) ?_
          exact ih (x1_7 + 1) (v_properMany_7 + (1 : Int32)) w_745.1 w_745.2 (upd v_proper_7 (v_properMany_7).toNatClampNeg x1_7) w H _ ls h hP hD hS (lv_sub hl [1, 0] rfl) K
        · replace h := op c_730 h
          refine lv_goto (tgt := 109) hx hb dX10_layRanks_23 (by decide) ?_
          refine lv_iinc (v := (x1_7 + 1)) (lv' := [(1, .int (x1_7 + 1)), (0, .ref h0)]) hx hb dX10_layRanks_109 hl (k := 1) rfl (by rfl) (by decide) rfl (fun ls hl => ?_)
          refine lv_goto (tgt := 7) hx hb dX10_layRanks_112 (by decide) ?_
          exact ih (x1_7 + 1) v_properMany_7 v_ranks_7 v_distinct_7 v_proper_7 w H _ ls h hP hD hS (lv_sub hl [1, 0] rfl) K
  obtain ⟨w_746, hw_746, h⟩ := ob h
  refine LP_746 fu (0 : Int32) (0 : Int32) v_ranks v_distinct v_proper w_746 H _ ls hw_746 hP hD hS (lv_sub hl [1, 0] rfl) (fun H locs ls hP hD hS hl => ?_)
  rw [hQQ]
  have ho := Option.some.inj h
  subst ho
  exact W.vret hx hb hr (fun t ht hW => ⟨⟨(), rfl, trivial, by rw [ht]; exact hP, va_K.moved hW.alike hK, hD⟩, hS.F ht⟩) hS.2.2 dX10_layRanks_115
def L_X10_layLine_2 (v_now : (Nat → Int64)) : Nat → Int32 → (Nat → Int32) → Option (Nat → Int32)
  | 0, _, _ => none
  | n+1, x1_2, v_line_2 => ((f_X10_rows v_now).bind (fun o_747 => (if o_747 ≤ x1_2 then (some v_line_2) else (if x1_2 < 0 ∨ 16 ≤ (x1_2).toNatClampNeg then none else (L_X10_layLine_2 v_now n (x1_2 + 1) (upd v_line_2 (x1_2).toNatClampNeg x1_2))))))
def f_X10_layLine (v_now : Nat → Int64) (v_ranks : Nat → Int32) (v_distinct : Nat → Int32) (v_proper : Nat → Int32) (v_line : Nat → Int32) : Option (Int32 × (Nat → Int32) × (Nat → Int32) × (Nat → Int32) × (Nat → Int32)) :=
  ((L_X10_layLine_2 v_now fu (0 : Int32) v_line).bind (fun w_751 => ((f_X10_layRanks v_now v_ranks v_distinct v_proper).bind (fun o_752 => (some (o_752.1, o_752.2.1, o_752.2.2.1, o_752.2.2.2, w_751))))))
abbrev rm_X10_layLine : Room := { frames := 5, cells := 0, slots := 0, locals := 116 }
set_option maxHeartbeats 4000000 in
set_option maxRecDepth 100000 in
theorem c_X10_layLine (l : Launch) (dC : Nat → ClassId) (dI : Nat → Nat → Nat) (cB cC cI cJ cZ cT : ClassId) (h0 q_now q_text q_row q_read q_ranks q_distinct q_proper q_line q_order q_then q_bestOrder q_lineThen q_undos q_was q_kept q_isKept : Nat) (sz : Nat) (v_typed : Int32) (v_rowMany : Int32) (v_thrown : Int32) (v_length : Int32) (v_at : Int32) (v_wrong : Int32) (v_properMany : Int32) (v_orderMany : Int32) (v_undoMany : Int32) (v_drawn : Int32) (v_now : Nat → Int64) (v_ranks : Nat → Int32) (v_distinct : Nat → Int32) (v_proper : Nat → Int32) (v_line : Nat → Int32) (o : (Int32 × (Nat → Int32) × (Nat → Int32) × (Nat → Int32) × (Nat → Int32))) (hf : f_X10_layLine v_now v_ranks v_distinct v_proper v_line = some o) : Met l yX10_layLine wsX10_layLine rm_X10_layLine (va_Pc [.ref h0] (fun U => U.heap.size = sz ∧ va_P (dC, dI) vwCl [(h0, .inr (8, [.ref q_now, .ref q_text, .int v_typed, .ref q_row, .int v_rowMany, .int v_thrown, .int v_length, .int v_at, .int v_wrong, .ref q_read, .ref q_ranks, .ref q_distinct, .ref q_proper, .int v_properMany, .ref q_line, .ref q_order, .int v_orderMany, .ref q_then, .ref q_bestOrder, .ref q_lineThen, .ref q_undos, .ref q_was, .int v_undoMany, .int v_drawn, .ref q_kept, .ref q_isKept])), (q_now, .inl (cJ, 120, .inr (.inl v_now))), (q_ranks, .inl (cI, 96, .inl v_ranks)), (q_distinct, .inl (cI, 6, .inl v_distinct)), (q_proper, .inl (cI, 6, .inl v_proper)), (q_line, .inl (cI, 16, .inl v_line))] U.heap ∧ va_K (dC, dI) vwCl (tyA cB cC cI cJ cZ cT) U ∧ va_D (fun _ => True) [(h0, .inr (8, [.ref q_now, .ref q_text, .int v_typed, .ref q_row, .int v_rowMany, .int v_thrown, .int v_length, .int v_at, .int v_wrong, .ref q_read, .ref q_ranks, .ref q_distinct, .ref q_proper, .int v_properMany, .ref q_line, .ref q_order, .int v_orderMany, .ref q_then, .ref q_bestOrder, .ref q_lineThen, .ref q_undos, .ref q_was, .int v_undoMany, .int v_drawn, .ref q_kept, .ref q_isKept])), (q_now, .inl (cJ, 120, .inr (.inl v_now))), (q_ranks, .inl (cI, 96, .inl v_ranks)), (q_distinct, .inl (cI, 6, .inl v_distinct)), (q_proper, .inl (cI, 6, .inl v_proper)), (q_line, .inl (cI, 16, .inl v_line))])) (va_Qv (fun _ : Unit => True) (fun _ t => va_P (dC, dI) vwCl [(h0, .inr (8, [.ref q_now, .ref q_text, .int v_typed, .ref q_row, .int v_rowMany, .int v_thrown, .int v_length, .int v_at, .int v_wrong, .ref q_read, .ref q_ranks, .ref q_distinct, .ref q_proper, .int o.1, .ref q_line, .ref q_order, .int v_orderMany, .ref q_then, .ref q_bestOrder, .ref q_lineThen, .ref q_undos, .ref q_was, .int v_undoMany, .int v_drawn, .ref q_kept, .ref q_isKept])), (q_now, .inl (cJ, 120, .inr (.inl v_now))), (q_ranks, .inl (cI, 96, .inl o.2.1)), (q_distinct, .inl (cI, 6, .inl o.2.2.1)), (q_proper, .inl (cI, 6, .inl o.2.2.2.1)), (q_line, .inl (cI, 16, .inl o.2.2.2.2))] t.heap ∧ va_K (dC, dI) vwCl (tyA cB cC cI cJ cZ cT) t ∧ va_D (va_A [(h0, .inr (8, [.ref q_now, .ref q_text, .int v_typed, .ref q_row, .int v_rowMany, .int v_thrown, .int v_length, .int v_at, .int v_wrong, .ref q_read, .ref q_ranks, .ref q_distinct, .ref q_proper, .int v_properMany, .ref q_line, .ref q_order, .int v_orderMany, .ref q_then, .ref q_bestOrder, .ref q_lineThen, .ref q_undos, .ref q_was, .int v_undoMany, .int v_drawn, .ref q_kept, .ref q_isKept])), (q_now, .inl (cJ, 120, .inr (.inl v_now))), (q_ranks, .inl (cI, 96, .inl v_ranks)), (q_distinct, .inl (cI, 6, .inl v_distinct)), (q_proper, .inl (cI, 6, .inl v_proper)), (q_line, .inl (cI, 16, .inl v_line))] sz) [(h0, .inr (8, [.ref q_now, .ref q_text, .int v_typed, .ref q_row, .int v_rowMany, .int v_thrown, .int v_length, .int v_at, .int v_wrong, .ref q_read, .ref q_ranks, .ref q_distinct, .ref q_proper, .int o.1, .ref q_line, .ref q_order, .int v_orderMany, .ref q_then, .ref q_bestOrder, .ref q_lineThen, .ref q_undos, .ref q_was, .int v_undoMany, .int v_drawn, .ref q_kept, .ref q_isKept])), (q_now, .inl (cJ, 120, .inr (.inl v_now))), (q_ranks, .inl (cI, 96, .inl o.2.1)), (q_distinct, .inl (cI, 6, .inl o.2.2.1)), (q_proper, .inl (cI, 6, .inl o.2.2.2.1)), (q_line, .inl (cI, 16, .inl o.2.2.2.2))]) (va_A [(h0, .inr (8, [.ref q_now, .ref q_text, .int v_typed, .ref q_row, .int v_rowMany, .int v_thrown, .int v_length, .int v_at, .int v_wrong, .ref q_read, .ref q_ranks, .ref q_distinct, .ref q_proper, .int v_properMany, .ref q_line, .ref q_order, .int v_orderMany, .ref q_then, .ref q_bestOrder, .ref q_lineThen, .ref q_undos, .ref q_was, .int v_undoMany, .int v_drawn, .ref q_kept, .ref q_isKept])), (q_now, .inl (cJ, 120, .inr (.inl v_now))), (q_ranks, .inl (cI, 96, .inl v_ranks)), (q_distinct, .inl (cI, 6, .inl v_distinct)), (q_proper, .inl (cI, 6, .inl v_proper)), (q_line, .inl (cI, 16, .inl v_line))] sz)) 0 0 (va_A [(h0, .inr (8, [.ref q_now, .ref q_text, .int v_typed, .ref q_row, .int v_rowMany, .int v_thrown, .int v_length, .int v_at, .int v_wrong, .ref q_read, .ref q_ranks, .ref q_distinct, .ref q_proper, .int v_properMany, .ref q_line, .ref q_order, .int v_orderMany, .ref q_then, .ref q_bestOrder, .ref q_lineThen, .ref q_undos, .ref q_was, .int v_undoMany, .int v_drawn, .ref q_kept, .ref q_isKept])), (q_now, .inl (cJ, 120, .inr (.inl v_now))), (q_ranks, .inl (cI, 96, .inl v_ranks)), (q_distinct, .inl (cI, 6, .inl v_distinct)), (q_proper, .inl (cI, 6, .inl v_proper)), (q_line, .inl (cI, 16, .inl v_line))] sz) := by
  refine Met.ofW (cc := cX10_layLine) (maxL := 2) (ret := none) (by decide +kernel) rfl ?_
  intro p e s m args below meth c s₁ B hml hv
  obtain ⟨hav, hsz, hP, hK, hD0⟩ := hv
  have hx := B.exec
  have hb := B.bytes
  have hr := B.returns
  have hts := atoms_spec (ws := wsX10_layLine) B.pre
  have hown : s.vm.findClass RX10 = some m.cls := findClass_of_methodNamed B.named
  have hlocks := B.notSynchronized
  subst hsz
  have hD := hD0.self (sz := s.heap.size)
  generalize hAe : va_A [(h0, .inr (8, [.ref q_now, .ref q_text, .int v_typed, .ref q_row, .int v_rowMany, .int v_thrown, .int v_length, .int v_at, .int v_wrong, .ref q_read, .ref q_ranks, .ref q_distinct, .ref q_proper, .int v_properMany, .ref q_line, .ref q_order, .int v_orderMany, .ref q_then, .ref q_bestOrder, .ref q_lineThen, .ref q_undos, .ref q_was, .int v_undoMany, .int v_drawn, .ref q_kept, .ref q_isKept])), (q_now, .inl (cJ, 120, .inr (.inl v_now))), (q_ranks, .inl (cI, 96, .inl v_ranks)), (q_distinct, .inl (cI, 6, .inl v_distinct)), (q_proper, .inl (cI, 6, .inl v_proper)), (q_line, .inl (cI, 16, .inl v_line))] s.heap.size = A at hD ⊢
  have hA : ∀ q : Nat, s.heap.size ≤ q → A q := fun q h => by rw [← hAe]; exact Or.inr h
  have hS : va_S A s.heap s.heap [] := va_S.rf
  refine wstart (rm := rm_X10_layLine) hav (Nat.le_of_ble_eq_true rfl) (fun QQ ls hQQ hl => ?_)
  have hl : lv_has ls 2 [(0, .ref h0)] := hl
  have hi_X10 : ∀ w ∈ u_ws RX10 TX10 26, w ∈ wsX10_layLine := by decide +kernel
  have h := hf
  unfold f_X10_layLine at h
  refine lv_iconst (v := 0) hx hb dX10_layLine_0 (by decide) ?_
  refine lv_istore_n (lv' := [(1, .int (0 : Int32)), (0, .ref h0)]) hx hb dX10_layLine_1 rfl hl (by decide) rfl (fun ls hl => ?_)
  have LP_751 : ∀ (n : Nat) (x1_2 : Int32) (v_line_2 : (Nat → Int32)) (w : (Nat → Int32)) (H : Heap) (locs : List Loc) (ls : Array Slot), L_X10_layLine_2 v_now n x1_2 v_line_2 = some w → va_P (dC, dI) vwCl [(h0, .inr (8, [.ref q_now, .ref q_text, .int v_typed, .ref q_row, .int v_rowMany, .int v_thrown, .int v_length, .int v_at, .int v_wrong, .ref q_read, .ref q_ranks, .ref q_distinct, .ref q_proper, .int v_properMany, .ref q_line, .ref q_order, .int v_orderMany, .ref q_then, .ref q_bestOrder, .ref q_lineThen, .ref q_undos, .ref q_was, .int v_undoMany, .int v_drawn, .ref q_kept, .ref q_isKept])), (q_now, .inl (cJ, 120, .inr (.inl v_now))), (q_ranks, .inl (cI, 96, .inl v_ranks)), (q_distinct, .inl (cI, 6, .inl v_distinct)), (q_proper, .inl (cI, 6, .inl v_proper)), (q_line, .inl (cI, 16, .inl v_line_2))] H → va_D A [(h0, .inr (8, [.ref q_now, .ref q_text, .int v_typed, .ref q_row, .int v_rowMany, .int v_thrown, .int v_length, .int v_at, .int v_wrong, .ref q_read, .ref q_ranks, .ref q_distinct, .ref q_proper, .int v_properMany, .ref q_line, .ref q_order, .int v_orderMany, .ref q_then, .ref q_bestOrder, .ref q_lineThen, .ref q_undos, .ref q_was, .int v_undoMany, .int v_drawn, .ref q_kept, .ref q_isKept])), (q_now, .inl (cJ, 120, .inr (.inl v_now))), (q_ranks, .inl (cI, 96, .inl v_ranks)), (q_distinct, .inl (cI, 6, .inl v_distinct)), (q_proper, .inl (cI, 6, .inl v_proper)), (q_line, .inl (cI, 16, .inl v_line_2))] → va_S A s.heap H locs → lv_has ls 2 [(0, .ref h0), (1, .int x1_2)] → (∀ (H : Heap) (locs : List Loc) (ls : Array Slot), va_P (dC, dI) vwCl [(h0, .inr (8, [.ref q_now, .ref q_text, .int v_typed, .ref q_row, .int v_rowMany, .int v_thrown, .int v_length, .int v_at, .int v_wrong, .ref q_read, .ref q_ranks, .ref q_distinct, .ref q_proper, .int v_properMany, .ref q_line, .ref q_order, .int v_orderMany, .ref q_then, .ref q_bestOrder, .ref q_lineThen, .ref q_undos, .ref q_was, .int v_undoMany, .int v_drawn, .ref q_kept, .ref q_isKept])), (q_now, .inl (cJ, 120, .inr (.inl v_now))), (q_ranks, .inl (cI, 96, .inl v_ranks)), (q_distinct, .inl (cI, 6, .inl v_distinct)), (q_proper, .inl (cI, 6, .inl v_proper)), (q_line, .inl (cI, 16, .inl w))] H → va_D A [(h0, .inr (8, [.ref q_now, .ref q_text, .int v_typed, .ref q_row, .int v_rowMany, .int v_thrown, .int v_length, .int v_at, .int v_wrong, .ref q_read, .ref q_ranks, .ref q_distinct, .ref q_proper, .int v_properMany, .ref q_line, .ref q_order, .int v_orderMany, .ref q_then, .ref q_bestOrder, .ref q_lineThen, .ref q_undos, .ref q_was, .int v_undoMany, .int v_drawn, .ref q_kept, .ref q_isKept])), (q_now, .inl (cJ, 120, .inr (.inl v_now))), (q_ranks, .inl (cI, 96, .inl v_ranks)), (q_distinct, .inl (cI, 6, .inl v_distinct)), (q_proper, .inl (cI, 6, .inl v_proper)), (q_line, .inl (cI, 16, .inl w))] → va_S A s.heap H locs → lv_has ls 2 [(0, .ref h0)] → W p l e rm_X10_layLine s m args below meth c H locs 0 0 QQ (F0 m 23 ls [])) → W p l e rm_X10_layLine s m args below meth c H locs 0 0 QQ (F0 m 2 ls []) := by
    intro n
    induction n with
    | zero => intro x1_2 v_line_2 w H locs ls h; exact absurd (show none = some w from h) nofun
    | succ n ih =>
      intro x1_2 v_line_2 w H locs ls h hP hD hS hl K
      rw [L_X10_layLine_2] at h
      refine lv_iload_n hx hb dX10_layLine_2 rfl (lv_at hl 1 rfl) ?_
      refine lv_aload_n hx hb dX10_layLine_3 rfl (lv_at hl 0 rfl) ?_
      obtain ⟨o_747, hr_747, h⟩ := ob h
      refine vp_callSi (va_Run.run (va_runV (As := []) (rest := [.int x1_2]) ⟨hx, hb, hml, hown, hts⟩ (c_X10_rows l dC dI cB cC cI cJ cZ cT h0 q_now q_text q_row q_read q_ranks q_distinct q_proper q_line q_order q_then q_bestOrder q_lineThen q_undos q_was q_kept q_isKept v_typed v_rowMany v_thrown v_length v_at v_wrong v_properMany v_orderMany v_undoMany v_drawn v_now o_747 hr_747) (cwV 0 hts gX10_layLine_X10_rows rfl rfl rfl (by decide +kernel) ⟨Nat.le_of_ble_eq_true rfl, Nat.le_of_ble_eq_true rfl⟩) ⟨blR, va_recv hK hP (ci := 8) (q0 := 0) rfl rfl, fun U hU hW => ⟨rfl, by rw [hU]; exact hP.sub [0, 1] rfl, va_K.moved hW.alike hK⟩⟩ rfl rfl hl.1 rfl (lv_room (Nat.le_of_ble_eq_true rfl)) dX10_layLine_4 ⟨Nat.le_of_ble_eq_true rfl, Nat.le_of_ble_eq_true rfl⟩)) (fun r_747 e_747 => ?_)
      subst e_747
      refine lv_icmp_ge (tgt := 23) hx hb dX10_layLine_7 (by decide) (fun c_749 => ?_) (fun c_749 => ?_)
      · replace h := op c_749 h
        have ho := Option.some.inj h
        subst ho
        exact K H _ ls hP hD hS (lv_sub hl [0] rfl)
      · replace h := on c_749 h
        refine lv_aload_n hx hb dX10_layLine_10 rfl (lv_at hl 0 rfl) ?_
        refine va_get (D := (dC, dI)) (ci := 8) (v := .ref q_line) (C := RX10) (T := TX10) (N := 26) hx hb hts hi_X10 hown hK hP 0 rfl rfl 14 (by decide) (hts _ (List.mem_of_getElem? (i := 1) rfl)) (fun _ h9 => h9) rfl dX10_layLine_11 ?_
        refine lv_iload_n hx hb dX10_layLine_14 rfl (lv_at hl 1 rfl) ?_
        refine lv_iload_n hx hb dX10_layLine_15 rfl (lv_at hl 1 rfl) ?_
        obtain ⟨hi_750, h⟩ := og h
        refine va_iast hx hb hK hP hD hS 5 0 rfl rfl hi_750 dX10_layLine_16 (fun H locs hP hD hS => ?_)
        replace hP : va_P (dC, dI) vwCl [(h0, .inr (8, [.ref q_now, .ref q_text, .int v_typed, .ref q_row, .int v_rowMany, .int v_thrown, .int v_length, .int v_at, .int v_wrong, .ref q_read, .ref q_ranks, .ref q_distinct, .ref q_proper, .int v_properMany, .ref q_line, .ref q_order, .int v_orderMany, .ref q_then, .ref q_bestOrder, .ref q_lineThen, .ref q_undos, .ref q_was, .int v_undoMany, .int v_drawn, .ref q_kept, .ref q_isKept])), (q_now, .inl (cJ, 120, .inr (.inl v_now))), (q_ranks, .inl (cI, 96, .inl v_ranks)), (q_distinct, .inl (cI, 6, .inl v_distinct)), (q_proper, .inl (cI, 6, .inl v_proper)), (q_line, .inl (cI, 16, .inl (upd v_line_2 (x1_2).toNatClampNeg x1_2)))] H := hP
        replace hD : va_D A [(h0, .inr (8, [.ref q_now, .ref q_text, .int v_typed, .ref q_row, .int v_rowMany, .int v_thrown, .int v_length, .int v_at, .int v_wrong, .ref q_read, .ref q_ranks, .ref q_distinct, .ref q_proper, .int v_properMany, .ref q_line, .ref q_order, .int v_orderMany, .ref q_then, .ref q_bestOrder, .ref q_lineThen, .ref q_undos, .ref q_was, .int v_undoMany, .int v_drawn, .ref q_kept, .ref q_isKept])), (q_now, .inl (cJ, 120, .inr (.inl v_now))), (q_ranks, .inl (cI, 96, .inl v_ranks)), (q_distinct, .inl (cI, 6, .inl v_distinct)), (q_proper, .inl (cI, 6, .inl v_proper)), (q_line, .inl (cI, 16, .inl (upd v_line_2 (x1_2).toNatClampNeg x1_2)))] := hD
        refine lv_iinc (v := (x1_2 + 1)) (lv' := [(1, .int (x1_2 + 1)), (0, .ref h0)]) hx hb dX10_layLine_17 hl (k := 1) rfl (by rfl) (by decide) rfl (fun ls hl => ?_)
        refine lv_goto (tgt := 2) hx hb dX10_layLine_20 (by decide) ?_
        exact ih (x1_2 + 1) (upd v_line_2 (x1_2).toNatClampNeg x1_2) w H _ ls h hP hD hS (lv_sub hl [1, 0] rfl) K
  obtain ⟨w_751, hw_751, h⟩ := ob h
  refine LP_751 fu (0 : Int32) v_line w_751 s.heap _ ls hw_751 hP hD hS (lv_sub hl [1, 0] rfl) (fun H locs ls hP hD hS hl => ?_)
  refine lv_aload_n hx hb dX10_layLine_23 rfl (lv_at hl 0 rfl) ?_
  obtain ⟨o_752, hr_752, h⟩ := ob h
  have hPc := hP.sub (ws' := [(h0, .inr (8, [.ref q_now, .ref q_text, .int v_typed, .ref q_row, .int v_rowMany, .int v_thrown, .int v_length, .int v_at, .int v_wrong, .ref q_read, .ref q_ranks, .ref q_distinct, .ref q_proper, .int v_properMany, .ref q_line, .ref q_order, .int v_orderMany, .ref q_then, .ref q_bestOrder, .ref q_lineThen, .ref q_undos, .ref q_was, .int v_undoMany, .int v_drawn, .ref q_kept, .ref q_isKept])), (q_now, .inl (cJ, 120, .inr (.inl v_now))), (q_ranks, .inl (cI, 96, .inl v_ranks)), (q_distinct, .inl (cI, 6, .inl v_distinct)), (q_proper, .inl (cI, 6, .inl v_proper))]) [0, 1, 2, 3, 4] rfl
  have hDc := hD.sub (ws' := [(h0, .inr (8, [.ref q_now, .ref q_text, .int v_typed, .ref q_row, .int v_rowMany, .int v_thrown, .int v_length, .int v_at, .int v_wrong, .ref q_read, .ref q_ranks, .ref q_distinct, .ref q_proper, .int v_properMany, .ref q_line, .ref q_order, .int v_orderMany, .ref q_then, .ref q_bestOrder, .ref q_lineThen, .ref q_undos, .ref q_was, .int v_undoMany, .int v_drawn, .ref q_kept, .ref q_isKept])), (q_now, .inl (cJ, 120, .inr (.inl v_now))), (q_ranks, .inl (cI, 96, .inl v_ranks)), (q_distinct, .inl (cI, 6, .inl v_distinct)), (q_proper, .inl (cI, 6, .inl v_proper))]) [0, 1, 2, 3, 4] (by decide) rfl
  have hFc := va_free (wc := [(h0, .inr (8, [.ref q_now, .ref q_text, .int v_typed, .ref q_row, .int v_rowMany, .int v_thrown, .int v_length, .int v_at, .int v_wrong, .ref q_read, .ref q_ranks, .ref q_distinct, .ref q_proper, .int v_properMany, .ref q_line, .ref q_order, .int v_orderMany, .ref q_then, .ref q_bestOrder, .ref q_lineThen, .ref q_undos, .ref q_was, .int v_undoMany, .int v_drawn, .ref q_kept, .ref q_isKept])), (q_now, .inl (cJ, 120, .inr (.inl v_now))), (q_ranks, .inl (cI, 96, .inl v_ranks)), (q_distinct, .inl (cI, 6, .inl v_distinct)), (q_proper, .inl (cI, 6, .inl v_proper))]) hD hS hA [0, 1, 2, 3, 4] rfl
  refine va_callv (va_runV (As := []) (rest := []) ⟨hx, hb, hml, hown, hts⟩ (c_X10_layRanks l dC dI cB cC cI cJ cZ cT h0 q_now q_text q_row q_read q_ranks q_distinct q_proper q_line q_order q_then q_bestOrder q_lineThen q_undos q_was q_kept q_isKept H.size v_typed v_rowMany v_thrown v_length v_at v_wrong v_properMany v_orderMany v_undoMany v_drawn v_now v_ranks v_distinct v_proper o_752 hr_752) (cwV 0 hts gX10_layLine_X10_layRanks rfl rfl rfl (by decide +kernel) ⟨Nat.le_of_ble_eq_true rfl, Nat.le_of_ble_eq_true rfl⟩) ⟨blW, va_recv hK hP (ci := 8) (q0 := 0) rfl rfl, fun U hU hW => ⟨rfl, by rw [hU], by rw [hU]; exact hPc, va_K.moved hW.alike hK, hDc.weaken (fun _ _ _ _ => trivial)⟩⟩ rfl rfl hl.1 rfl (lv_room (Nat.le_of_ble_eq_true rfl)) dX10_layLine_24 ⟨Nat.le_of_ble_eq_true rfl, Nat.le_of_ble_eq_true rfl⟩) hS (fun q _ h => hFc q h) hFc (fun u_752 t_752 H locs ht hvm e_752 hB hz1 hk1 hS => ?_)
  obtain ⟨hP1, -, hD1⟩ := hB
  rw [ht] at hP1
  obtain ⟨hP, hD⟩ := va_join (wr := [(q_line, .inl (cI, 16, .inl w_751))]) (w1 := [(h0, .inr (8, [.ref q_now, .ref q_text, .int v_typed, .ref q_row, .int v_rowMany, .int v_thrown, .int v_length, .int v_at, .int v_wrong, .ref q_read, .ref q_ranks, .ref q_distinct, .ref q_proper, .int o_752.1, .ref q_line, .ref q_order, .int v_orderMany, .ref q_then, .ref q_bestOrder, .ref q_lineThen, .ref q_undos, .ref q_was, .int v_undoMany, .int v_drawn, .ref q_kept, .ref q_isKept])), (q_now, .inl (cJ, 120, .inr (.inl v_now))), (q_ranks, .inl (cI, 96, .inl o_752.2.1)), (q_distinct, .inl (cI, 6, .inl o_752.2.2.1)), (q_proper, .inl (cI, 6, .inl o_752.2.2.2))]) hP hD [0, 1, 2, 3, 4] [5] rfl rfl (by decide) (by decide) hk1 hFc hP1 hD1
  replace hP := hP.sub (ws' := [(h0, .inr (8, [.ref q_now, .ref q_text, .int v_typed, .ref q_row, .int v_rowMany, .int v_thrown, .int v_length, .int v_at, .int v_wrong, .ref q_read, .ref q_ranks, .ref q_distinct, .ref q_proper, .int o_752.1, .ref q_line, .ref q_order, .int v_orderMany, .ref q_then, .ref q_bestOrder, .ref q_lineThen, .ref q_undos, .ref q_was, .int v_undoMany, .int v_drawn, .ref q_kept, .ref q_isKept])), (q_now, .inl (cJ, 120, .inr (.inl v_now))), (q_ranks, .inl (cI, 96, .inl o_752.2.1)), (q_distinct, .inl (cI, 6, .inl o_752.2.2.1)), (q_proper, .inl (cI, 6, .inl o_752.2.2.2)), (q_line, .inl (cI, 16, .inl w_751))]) [1, 2, 3, 4, 5, 0] rfl
  replace hD := hD.sub (ws' := [(h0, .inr (8, [.ref q_now, .ref q_text, .int v_typed, .ref q_row, .int v_rowMany, .int v_thrown, .int v_length, .int v_at, .int v_wrong, .ref q_read, .ref q_ranks, .ref q_distinct, .ref q_proper, .int o_752.1, .ref q_line, .ref q_order, .int v_orderMany, .ref q_then, .ref q_bestOrder, .ref q_lineThen, .ref q_undos, .ref q_was, .int v_undoMany, .int v_drawn, .ref q_kept, .ref q_isKept])), (q_now, .inl (cJ, 120, .inr (.inl v_now))), (q_ranks, .inl (cI, 96, .inl o_752.2.1)), (q_distinct, .inl (cI, 6, .inl o_752.2.2.1)), (q_proper, .inl (cI, 6, .inl o_752.2.2.2)), (q_line, .inl (cI, 16, .inl w_751))]) [1, 2, 3, 4, 5, 0] (by decide) rfl
  rw [hQQ]
  have ho := Option.some.inj h
  subst ho
  exact W.vret hx hb hr (fun t ht hW => ⟨⟨(), rfl, trivial, by rw [ht]; exact hP, va_K.moved hW.alike hK, hD⟩, hS.F ht⟩) hS.2.2 dX10_layLine_27
def L_X10_runsIn_4 (v_now : (Nat → Int64)) (v_ranks : (Nat → Int32)) (v_line : (Nat → Int32)) (x1 : Int32) : Nat → Int32 → Int32 → Option Int32
  | 0, _, _ => none
  | n+1, x2_4, x3_4 => ((f_X10_rows v_now).bind (fun o_754 => (if o_754 ≤ x3_4 then (some x2_4) else (if x3_4 = 0 then (L_X10_runsIn_4 v_now v_ranks v_line x1 n (x2_4 + (1 : Int32)) (x3_4 + 1)) else (if x3_4 < 0 ∨ 16 ≤ (x3_4).toNatClampNeg then none else (if (((16 : Int32) * x1) + (v_line (x3_4).toNatClampNeg)) < 0 ∨ 96 ≤ ((((16 : Int32) * x1) + (v_line (x3_4).toNatClampNeg))).toNatClampNeg then none else (if (x3_4 - (1 : Int32)) < 0 ∨ 16 ≤ ((x3_4 - (1 : Int32))).toNatClampNeg then none else (if (((16 : Int32) * x1) + (v_line ((x3_4 - (1 : Int32))).toNatClampNeg)) < 0 ∨ 96 ≤ ((((16 : Int32) * x1) + (v_line ((x3_4 - (1 : Int32))).toNatClampNeg))).toNatClampNeg then none else (if (v_ranks ((((16 : Int32) * x1) + (v_line (x3_4).toNatClampNeg))).toNatClampNeg) = (v_ranks ((((16 : Int32) * x1) + (v_line ((x3_4 - (1 : Int32))).toNatClampNeg))).toNatClampNeg) then (L_X10_runsIn_4 v_now v_ranks v_line x1 n (x2_4 + (0 : Int32)) (x3_4 + 1)) else (L_X10_runsIn_4 v_now v_ranks v_line x1 n (x2_4 + (1 : Int32)) (x3_4 + 1)))))))))))
def f_X10_runsIn (v_now : Nat → Int64) (v_ranks : Nat → Int32) (v_line : Nat → Int32) (x1 : Int32) : Option Int32 :=
  ((L_X10_runsIn_4 v_now v_ranks v_line x1 fu (0 : Int32) (0 : Int32)).bind (fun w_763 => (some w_763)))
abbrev rm_X10_runsIn : Room := { frames := 1, cells := 0, slots := 0, locals := 20 }
set_option maxHeartbeats 4000000 in
set_option maxRecDepth 100000 in
theorem c_X10_runsIn (l : Launch) (dC : Nat → ClassId) (dI : Nat → Nat → Nat) (cB cC cI cJ cZ cT : ClassId) (h0 q_now q_text q_row q_read q_ranks q_distinct q_proper q_line q_order q_then q_bestOrder q_lineThen q_undos q_was q_kept q_isKept : Nat) (v_typed : Int32) (v_rowMany : Int32) (v_thrown : Int32) (v_length : Int32) (v_at : Int32) (v_wrong : Int32) (v_properMany : Int32) (v_orderMany : Int32) (v_undoMany : Int32) (v_drawn : Int32) (v_now : Nat → Int64) (v_ranks : Nat → Int32) (v_line : Nat → Int32) (x1 : Int32) (o : Int32) (hf : f_X10_runsIn v_now v_ranks v_line x1 = some o) : Met l yX10_runsIn wsX10_runsIn rm_X10_runsIn (va_Pc [.ref h0, .int x1] (fun U => va_P (dC, dI) vwCl [(h0, .inr (8, [.ref q_now, .ref q_text, .int v_typed, .ref q_row, .int v_rowMany, .int v_thrown, .int v_length, .int v_at, .int v_wrong, .ref q_read, .ref q_ranks, .ref q_distinct, .ref q_proper, .int v_properMany, .ref q_line, .ref q_order, .int v_orderMany, .ref q_then, .ref q_bestOrder, .ref q_lineThen, .ref q_undos, .ref q_was, .int v_undoMany, .int v_drawn, .ref q_kept, .ref q_isKept])), (q_now, .inl (cJ, 120, .inr (.inl v_now))), (q_ranks, .inl (cI, 96, .inl v_ranks)), (q_line, .inl (cI, 16, .inl v_line))] U.heap ∧ va_K (dC, dI) vwCl (tyA cB cC cI cJ cZ cT) U)) (vp_Si (fun r => o = r)) 0 0 (fun _ => False) := by
  refine Met.ofW (cc := cX10_runsIn) (maxL := 4) (ret := (some .int)) (by decide +kernel) rfl ?_
  intro p e s m args below meth c s₁ B hml hv
  obtain ⟨hav, hP, hK⟩ := hv
  have hx := B.exec
  have hb := B.bytes
  have hr := B.returns
  have hts := atoms_spec (ws := wsX10_runsIn) B.pre
  have hown : s.vm.findClass RX10 = some m.cls := findClass_of_methodNamed B.named
  have hlocks := B.notSynchronized
  refine wstart (rm := rm_X10_runsIn) hav (Nat.le_of_ble_eq_true rfl) (fun QQ ls hQQ hl => ?_)
  have hl : lv_has ls 4 [(0, .ref h0), (1, .int x1)] := hl
  have hi_X10 : ∀ w ∈ u_ws RX10 TX10 26, w ∈ wsX10_runsIn := by decide +kernel
  have h := hf
  unfold f_X10_runsIn at h
  refine lv_iconst (v := 0) hx hb dX10_runsIn_0 (by decide) ?_
  refine lv_istore_n (lv' := [(2, .int (0 : Int32)), (0, .ref h0), (1, .int x1)]) hx hb dX10_runsIn_1 rfl hl (by decide) rfl (fun ls hl => ?_)
  refine lv_iconst (v := 0) hx hb dX10_runsIn_2 (by decide) ?_
  refine lv_istore_n (lv' := [(3, .int (0 : Int32)), (2, .int (0 : Int32)), (0, .ref h0), (1, .int x1)]) hx hb dX10_runsIn_3 rfl hl (by decide) rfl (fun ls hl => ?_)
  have LP_763 : ∀ (n : Nat) (x2_4 : Int32) (x3_4 : Int32) (w : Int32) (ls : Array Slot), L_X10_runsIn_4 v_now v_ranks v_line x1 n x2_4 x3_4 = some w → lv_has ls 4 [(0, .ref h0), (1, .int x1), (2, .int x2_4), (3, .int x3_4)] → (∀ (ls : Array Slot), lv_has ls 4 [(2, .int w)] → W p l e rm_X10_runsIn s m args below meth c s.heap [] 0 0 QQ (F0 m 67 ls [])) → W p l e rm_X10_runsIn s m args below meth c s.heap [] 0 0 QQ (F0 m 4 ls []) := by
    intro n
    induction n with
    | zero => intro x2_4 x3_4 w ls h; exact absurd (show none = some w from h) nofun
    | succ n ih =>
      intro x2_4 x3_4 w ls h hl K
      rw [L_X10_runsIn_4] at h
      refine lv_iload_n hx hb dX10_runsIn_4 rfl (lv_at hl 3 rfl) ?_
      refine lv_aload_n hx hb dX10_runsIn_5 rfl (lv_at hl 0 rfl) ?_
      obtain ⟨o_754, hr_754, h⟩ := ob h
      refine vp_callSi (va_Run.run (va_runV (As := []) (rest := [.int x3_4]) ⟨hx, hb, hml, hown, hts⟩ (c_X10_rows l dC dI cB cC cI cJ cZ cT h0 q_now q_text q_row q_read q_ranks q_distinct q_proper q_line q_order q_then q_bestOrder q_lineThen q_undos q_was q_kept q_isKept v_typed v_rowMany v_thrown v_length v_at v_wrong v_properMany v_orderMany v_undoMany v_drawn v_now o_754 hr_754) (cwV 0 hts gX10_runsIn_X10_rows rfl rfl rfl (by decide +kernel) ⟨Nat.le_of_ble_eq_true rfl, Nat.le_of_ble_eq_true rfl⟩) ⟨blR, va_recv hK hP (ci := 8) (q0 := 0) rfl rfl, fun U hU hW => ⟨rfl, by rw [hU]; exact hP.sub [0, 1] rfl, va_K.moved hW.alike hK⟩⟩ rfl rfl hl.1 rfl (lv_room (Nat.le_of_ble_eq_true rfl)) dX10_runsIn_6 ⟨Nat.le_of_ble_eq_true rfl, Nat.le_of_ble_eq_true rfl⟩)) (fun r_754 e_754 => ?_)
      subst e_754
      refine lv_icmp_ge (tgt := 67) hx hb dX10_runsIn_9 (by decide) (fun c_756 => ?_) (fun c_756 => ?_)
      · replace h := op c_756 h
        have ho := Option.some.inj h
        subst ho
        exact K ls (lv_sub hl [2] rfl)
      · replace h := on c_756 h
        refine lv_iload_n hx hb dX10_runsIn_12 rfl (lv_at hl 2 rfl) ?_
        refine lv_iload_n hx hb dX10_runsIn_13 rfl (lv_at hl 3 rfl) ?_
        refine lv_if_eq (tgt := 54) hx hb dX10_runsIn_14 (by decide) (fun c_757 => ?_) (fun c_757 => ?_)
        · replace h := op c_757 h
          refine lv_iconst (v := 1) hx hb dX10_runsIn_54 (by decide) ?_
          refine lv_goto (tgt := 59) hx hb dX10_runsIn_55 (by decide) ?_
          refine lv_iadd hx hb dX10_runsIn_59 ?_
          refine lv_istore_n (lv' := [(2, .int (x2_4 + (1 : Int32))), (0, .ref h0), (1, .int x1), (3, .int x3_4)]) hx hb dX10_runsIn_60 rfl hl (by decide) rfl (fun ls hl => ?_)
          refine lv_iinc (v := (x3_4 + 1)) (lv' := [(3, .int (x3_4 + 1)), (2, .int (x2_4 + (1 : Int32))), (0, .ref h0), (1, .int x1)]) hx hb dX10_runsIn_61 hl (k := 3) rfl (by rfl) (by decide) rfl (fun ls hl => ?_)
          refine lv_goto (tgt := 4) hx hb dX10_runsIn_64 (by decide) ?_
          exact ih (x2_4 + (1 : Int32)) (x3_4 + 1) w ls h (lv_sub hl [2, 3, 1, 0] rfl) K
        · replace h := on c_757 h
          refine lv_aload_n hx hb dX10_runsIn_17 rfl (lv_at hl 0 rfl) ?_
          refine va_get (D := (dC, dI)) (ci := 8) (v := .ref q_ranks) (C := RX10) (T := TX10) (N := 26) hx hb hts hi_X10 hown hK hP 0 rfl rfl 10 (by decide) (hts _ (List.mem_of_getElem? (i := 1) rfl)) (fun _ h9 => h9) rfl dX10_runsIn_18 ?_
          refine lv_bipush (v := 16) hx hb dX10_runsIn_21 (by decide) ?_
          refine lv_iload_n hx hb dX10_runsIn_23 rfl (lv_at hl 1 rfl) ?_
          refine lv_imul hx hb dX10_runsIn_24 ?_
          refine lv_aload_n hx hb dX10_runsIn_25 rfl (lv_at hl 0 rfl) ?_
          refine va_get (D := (dC, dI)) (ci := 8) (v := .ref q_line) (C := RX10) (T := TX10) (N := 26) hx hb hts hi_X10 hown hK hP 0 rfl rfl 14 (by decide) (hts _ (List.mem_of_getElem? (i := 2) rfl)) (fun _ h9 => h9) rfl dX10_runsIn_26 ?_
          refine lv_iload_n hx hb dX10_runsIn_29 rfl (lv_at hl 3 rfl) ?_
          obtain ⟨hi_758, h⟩ := og h
          refine va_iald hx hb hK hP 3 0 rfl rfl hi_758 dX10_runsIn_30 ?_
          refine lv_iadd hx hb dX10_runsIn_31 ?_
          obtain ⟨hi_759, h⟩ := og h
          refine va_iald hx hb hK hP 2 0 rfl rfl hi_759 dX10_runsIn_32 ?_
          refine lv_aload_n hx hb dX10_runsIn_33 rfl (lv_at hl 0 rfl) ?_
          refine va_get (D := (dC, dI)) (ci := 8) (v := .ref q_ranks) (C := RX10) (T := TX10) (N := 26) hx hb hts hi_X10 hown hK hP 0 rfl rfl 10 (by decide) (hts _ (List.mem_of_getElem? (i := 1) rfl)) (fun _ h9 => h9) rfl dX10_runsIn_34 ?_
          refine lv_bipush (v := 16) hx hb dX10_runsIn_37 (by decide) ?_
          refine lv_iload_n hx hb dX10_runsIn_39 rfl (lv_at hl 1 rfl) ?_
          refine lv_imul hx hb dX10_runsIn_40 ?_
          refine lv_aload_n hx hb dX10_runsIn_41 rfl (lv_at hl 0 rfl) ?_
          refine va_get (D := (dC, dI)) (ci := 8) (v := .ref q_line) (C := RX10) (T := TX10) (N := 26) hx hb hts hi_X10 hown hK hP 0 rfl rfl 14 (by decide) (hts _ (List.mem_of_getElem? (i := 2) rfl)) (fun _ h9 => h9) rfl dX10_runsIn_42 ?_
          refine lv_iload_n hx hb dX10_runsIn_45 rfl (lv_at hl 3 rfl) ?_
          refine lv_iconst (v := 1) hx hb dX10_runsIn_46 (by decide) ?_
          refine lv_isub hx hb dX10_runsIn_47 ?_
          obtain ⟨hi_760, h⟩ := og h
          refine va_iald hx hb hK hP 3 0 rfl rfl hi_760 dX10_runsIn_48 ?_
          refine lv_iadd hx hb dX10_runsIn_49 ?_
          obtain ⟨hi_761, h⟩ := og h
          refine va_iald hx hb hK hP 2 0 rfl rfl hi_761 dX10_runsIn_50 ?_
          refine lv_icmp_eq (tgt := 58) hx hb dX10_runsIn_51 (by decide) (fun c_762 => ?_) (fun c_762 => ?_)
          · replace h := op c_762 h
            refine lv_iconst (v := 0) hx hb dX10_runsIn_58 (by decide) ?_
            refine lv_iadd hx hb dX10_runsIn_59 ?_
            refine lv_istore_n (lv' := [(2, .int (x2_4 + (0 : Int32))), (0, .ref h0), (1, .int x1), (3, .int x3_4)]) hx hb dX10_runsIn_60 rfl hl (by decide) rfl (fun ls hl => ?_)
            refine lv_iinc (v := (x3_4 + 1)) (lv' := [(3, .int (x3_4 + 1)), (2, .int (x2_4 + (0 : Int32))), (0, .ref h0), (1, .int x1)]) hx hb dX10_runsIn_61 hl (k := 3) rfl (by rfl) (by decide) rfl (fun ls hl => ?_)
            refine lv_goto (tgt := 4) hx hb dX10_runsIn_64 (by decide) ?_
            exact ih (x2_4 + (0 : Int32)) (x3_4 + 1) w ls h (lv_sub hl [2, 3, 1, 0] rfl) K
          · replace h := on c_762 h
            refine lv_iconst (v := 1) hx hb dX10_runsIn_54 (by decide) ?_
            refine lv_goto (tgt := 59) hx hb dX10_runsIn_55 (by decide) ?_
            refine lv_iadd hx hb dX10_runsIn_59 ?_
            refine lv_istore_n (lv' := [(2, .int (x2_4 + (1 : Int32))), (0, .ref h0), (1, .int x1), (3, .int x3_4)]) hx hb dX10_runsIn_60 rfl hl (by decide) rfl (fun ls hl => ?_)
            refine lv_iinc (v := (x3_4 + 1)) (lv' := [(3, .int (x3_4 + 1)), (2, .int (x2_4 + (1 : Int32))), (0, .ref h0), (1, .int x1)]) hx hb dX10_runsIn_61 hl (k := 3) rfl (by rfl) (by decide) rfl (fun ls hl => ?_)
            refine lv_goto (tgt := 4) hx hb dX10_runsIn_64 (by decide) ?_
            exact ih (x2_4 + (1 : Int32)) (x3_4 + 1) w ls h (lv_sub hl [2, 3, 1, 0] rfl) K
  obtain ⟨w_763, hw_763, h⟩ := ob h
  refine LP_763 fu (0 : Int32) (0 : Int32) w_763 ls hw_763 (lv_sub hl [2, 3, 1, 0] rfl) (fun ls hl => ?_)
  refine lv_iload_n hx hb dX10_runsIn_67 rfl (lv_at hl 0 rfl) ?_
  rw [hQQ]
  exact W.iret hx hb hr (fun t ht hW => ⟨_, rfl, (Option.some.inj h).symm, ht⟩) (fun q hq => absurd hq List.not_mem_nil) dX10_runsIn_68
def L_X10_runsOfLine_4 (v_properMany : Int32) (v_now : (Nat → Int64)) (v_ranks : (Nat → Int32)) (v_proper : (Nat → Int32)) (v_line : (Nat → Int32)) : Nat → Int32 → Int32 → Option Int32
  | 0, _, _ => none
  | n+1, x1_4, x2_4 => (if v_properMany ≤ x2_4 then (some x1_4) else (if x2_4 < 0 ∨ 6 ≤ (x2_4).toNatClampNeg then none else ((f_X10_runsIn v_now v_ranks v_line (v_proper (x2_4).toNatClampNeg)).bind (fun o_766 => (L_X10_runsOfLine_4 v_properMany v_now v_ranks v_proper v_line n (x1_4 + o_766) (x2_4 + 1))))))
def f_X10_runsOfLine (v_properMany : Int32) (v_now : Nat → Int64) (v_ranks : Nat → Int32) (v_proper : Nat → Int32) (v_line : Nat → Int32) : Option Int32 :=
  ((L_X10_runsOfLine_4 v_properMany v_now v_ranks v_proper v_line fu (0 : Int32) (0 : Int32)).bind (fun w_768 => (some w_768)))
abbrev rm_X10_runsOfLine : Room := { frames := 2, cells := 0, slots := 0, locals := 43 }
set_option maxHeartbeats 4000000 in
set_option maxRecDepth 100000 in
theorem c_X10_runsOfLine (l : Launch) (dC : Nat → ClassId) (dI : Nat → Nat → Nat) (cB cC cI cJ cZ cT : ClassId) (h0 q_now q_text q_row q_read q_ranks q_distinct q_proper q_line q_order q_then q_bestOrder q_lineThen q_undos q_was q_kept q_isKept : Nat) (v_typed : Int32) (v_rowMany : Int32) (v_thrown : Int32) (v_length : Int32) (v_at : Int32) (v_wrong : Int32) (v_properMany : Int32) (v_orderMany : Int32) (v_undoMany : Int32) (v_drawn : Int32) (v_now : Nat → Int64) (v_ranks : Nat → Int32) (v_proper : Nat → Int32) (v_line : Nat → Int32) (o : Int32) (hf : f_X10_runsOfLine v_properMany v_now v_ranks v_proper v_line = some o) : Met l yX10_runsOfLine wsX10_runsOfLine rm_X10_runsOfLine (va_Pc [.ref h0] (fun U => va_P (dC, dI) vwCl [(h0, .inr (8, [.ref q_now, .ref q_text, .int v_typed, .ref q_row, .int v_rowMany, .int v_thrown, .int v_length, .int v_at, .int v_wrong, .ref q_read, .ref q_ranks, .ref q_distinct, .ref q_proper, .int v_properMany, .ref q_line, .ref q_order, .int v_orderMany, .ref q_then, .ref q_bestOrder, .ref q_lineThen, .ref q_undos, .ref q_was, .int v_undoMany, .int v_drawn, .ref q_kept, .ref q_isKept])), (q_now, .inl (cJ, 120, .inr (.inl v_now))), (q_ranks, .inl (cI, 96, .inl v_ranks)), (q_proper, .inl (cI, 6, .inl v_proper)), (q_line, .inl (cI, 16, .inl v_line))] U.heap ∧ va_K (dC, dI) vwCl (tyA cB cC cI cJ cZ cT) U)) (vp_Si (fun r => o = r)) 0 0 (fun _ => False) := by
  refine Met.ofW (cc := cX10_runsOfLine) (maxL := 3) (ret := (some .int)) (by decide +kernel) rfl ?_
  intro p e s m args below meth c s₁ B hml hv
  obtain ⟨hav, hP, hK⟩ := hv
  have hx := B.exec
  have hb := B.bytes
  have hr := B.returns
  have hts := atoms_spec (ws := wsX10_runsOfLine) B.pre
  have hown : s.vm.findClass RX10 = some m.cls := findClass_of_methodNamed B.named
  have hlocks := B.notSynchronized
  refine wstart (rm := rm_X10_runsOfLine) hav (Nat.le_of_ble_eq_true rfl) (fun QQ ls hQQ hl => ?_)
  have hl : lv_has ls 3 [(0, .ref h0)] := hl
  have hi_X10 : ∀ w ∈ u_ws RX10 TX10 26, w ∈ wsX10_runsOfLine := by decide +kernel
  have h := hf
  unfold f_X10_runsOfLine at h
  refine lv_iconst (v := 0) hx hb dX10_runsOfLine_0 (by decide) ?_
  refine lv_istore_n (lv' := [(1, .int (0 : Int32)), (0, .ref h0)]) hx hb dX10_runsOfLine_1 rfl hl (by decide) rfl (fun ls hl => ?_)
  refine lv_iconst (v := 0) hx hb dX10_runsOfLine_2 (by decide) ?_
  refine lv_istore_n (lv' := [(2, .int (0 : Int32)), (1, .int (0 : Int32)), (0, .ref h0)]) hx hb dX10_runsOfLine_3 rfl hl (by decide) rfl (fun ls hl => ?_)
  have LP_768 : ∀ (n : Nat) (x1_4 : Int32) (x2_4 : Int32) (w : Int32) (ls : Array Slot), L_X10_runsOfLine_4 v_properMany v_now v_ranks v_proper v_line n x1_4 x2_4 = some w → lv_has ls 3 [(0, .ref h0), (1, .int x1_4), (2, .int x2_4)] → (∀ (ls : Array Slot), lv_has ls 3 [(1, .int w)] → W p l e rm_X10_runsOfLine s m args below meth c s.heap [] 0 0 QQ (F0 m 31 ls [])) → W p l e rm_X10_runsOfLine s m args below meth c s.heap [] 0 0 QQ (F0 m 4 ls []) := by
    intro n
    induction n with
    | zero => intro x1_4 x2_4 w ls h; exact absurd (show none = some w from h) nofun
    | succ n ih =>
      intro x1_4 x2_4 w ls h hl K
      rw [L_X10_runsOfLine_4] at h
      refine lv_iload_n hx hb dX10_runsOfLine_4 rfl (lv_at hl 2 rfl) ?_
      refine lv_aload_n hx hb dX10_runsOfLine_5 rfl (lv_at hl 0 rfl) ?_
      refine va_get (D := (dC, dI)) (ci := 8) (v := .int v_properMany) (C := RX10) (T := TX10) (N := 26) hx hb hts hi_X10 hown hK hP 0 rfl rfl 13 (by decide) (hts _ (List.mem_of_getElem? (i := 1) rfl)) (fun _ h9 => h9) rfl dX10_runsOfLine_6 ?_
      refine lv_icmp_ge (tgt := 31) hx hb dX10_runsOfLine_9 (by decide) (fun c_764 => ?_) (fun c_764 => ?_)
      · replace h := op c_764 h
        have ho := Option.some.inj h
        subst ho
        exact K ls (lv_sub hl [1] rfl)
      · replace h := on c_764 h
        refine lv_iload_n hx hb dX10_runsOfLine_12 rfl (lv_at hl 1 rfl) ?_
        refine lv_aload_n hx hb dX10_runsOfLine_13 rfl (lv_at hl 0 rfl) ?_
        refine lv_aload_n hx hb dX10_runsOfLine_14 rfl (lv_at hl 0 rfl) ?_
        refine va_get (D := (dC, dI)) (ci := 8) (v := .ref q_proper) (C := RX10) (T := TX10) (N := 26) hx hb hts hi_X10 hown hK hP 0 rfl rfl 12 (by decide) (hts _ (List.mem_of_getElem? (i := 2) rfl)) (fun _ h9 => h9) rfl dX10_runsOfLine_15 ?_
        refine lv_iload_n hx hb dX10_runsOfLine_18 rfl (lv_at hl 2 rfl) ?_
        obtain ⟨hi_765, h⟩ := og h
        refine va_iald hx hb hK hP 3 0 rfl rfl hi_765 dX10_runsOfLine_19 ?_
        obtain ⟨o_766, hr_766, h⟩ := ob h
        refine vp_callSi (va_Run.run (va_runV (As := [.int (v_proper (x2_4).toNatClampNeg)]) (rest := [.int x1_4]) ⟨hx, hb, hml, hown, hts⟩ (c_X10_runsIn l dC dI cB cC cI cJ cZ cT h0 q_now q_text q_row q_read q_ranks q_distinct q_proper q_line q_order q_then q_bestOrder q_lineThen q_undos q_was q_kept q_isKept v_typed v_rowMany v_thrown v_length v_at v_wrong v_properMany v_orderMany v_undoMany v_drawn v_now v_ranks v_line (v_proper (x2_4).toNatClampNeg) o_766 hr_766) (cwV 1 hts gX10_runsOfLine_X10_runsIn rfl rfl rfl (by decide +kernel) ⟨Nat.le_of_ble_eq_true rfl, Nat.le_of_ble_eq_true rfl⟩) ⟨blR, va_recv hK hP (ci := 8) (q0 := 0) rfl rfl, fun U hU hW => ⟨rfl, by rw [hU]; exact hP.sub [0, 1, 2, 4] rfl, va_K.moved hW.alike hK⟩⟩ rfl rfl hl.1 rfl (lv_room (Nat.le_of_ble_eq_true rfl)) dX10_runsOfLine_20 ⟨Nat.le_of_ble_eq_true rfl, Nat.le_of_ble_eq_true rfl⟩)) (fun r_766 e_766 => ?_)
        subst e_766
        refine lv_iadd hx hb dX10_runsOfLine_23 ?_
        refine lv_istore_n (lv' := [(1, .int (x1_4 + o_766)), (0, .ref h0), (2, .int x2_4)]) hx hb dX10_runsOfLine_24 rfl hl (by decide) rfl (fun ls hl => ?_)
        refine lv_iinc (v := (x2_4 + 1)) (lv' := [(2, .int (x2_4 + 1)), (1, .int (x1_4 + o_766)), (0, .ref h0)]) hx hb dX10_runsOfLine_25 hl (k := 2) rfl (by rfl) (by decide) rfl (fun ls hl => ?_)
        refine lv_goto (tgt := 4) hx hb dX10_runsOfLine_28 (by decide) ?_
        exact ih (x1_4 + o_766) (x2_4 + 1) w ls h (lv_sub hl [2, 1, 0] rfl) K
  obtain ⟨w_768, hw_768, h⟩ := ob h
  refine LP_768 fu (0 : Int32) (0 : Int32) w_768 ls hw_768 (lv_sub hl [2, 1, 0] rfl) (fun ls hl => ?_)
  refine lv_iload_n hx hb dX10_runsOfLine_31 rfl (lv_at hl 0 rfl) ?_
  rw [hQQ]
  exact W.iret hx hb hr (fun t ht hW => ⟨_, rfl, (Option.some.inj h).symm, ht⟩) (fun q hq => absurd hq List.not_mem_nil) dX10_runsOfLine_32
def f_X10_runsNow (v_now : Nat → Int64) (v_ranks : Nat → Int32) (v_distinct : Nat → Int32) (v_proper : Nat → Int32) (v_line : Nat → Int32) : Option (Int32 × Int32 × (Nat → Int32) × (Nat → Int32) × (Nat → Int32) × (Nat → Int32)) :=
  ((f_X10_layLine v_now v_ranks v_distinct v_proper v_line).bind (fun o_769 => ((f_X10_runsOfLine o_769.1 v_now o_769.2.1 o_769.2.2.2.1 o_769.2.2.2.2).bind (fun o_771 => (some (o_771, o_769.1, o_769.2.1, o_769.2.2.1, o_769.2.2.2.1, o_769.2.2.2.2))))))
abbrev rm_X10_runsNow : Room := { frames := 6, cells := 0, slots := 0, locals := 137 }
set_option maxHeartbeats 4000000 in
set_option maxRecDepth 100000 in
theorem c_X10_runsNow (l : Launch) (dC : Nat → ClassId) (dI : Nat → Nat → Nat) (cB cC cI cJ cZ cT : ClassId) (h0 q_now q_text q_row q_read q_ranks q_distinct q_proper q_line q_order q_then q_bestOrder q_lineThen q_undos q_was q_kept q_isKept : Nat) (sz : Nat) (v_typed : Int32) (v_rowMany : Int32) (v_thrown : Int32) (v_length : Int32) (v_at : Int32) (v_wrong : Int32) (v_properMany : Int32) (v_orderMany : Int32) (v_undoMany : Int32) (v_drawn : Int32) (v_now : Nat → Int64) (v_ranks : Nat → Int32) (v_distinct : Nat → Int32) (v_proper : Nat → Int32) (v_line : Nat → Int32) (o : (Int32 × Int32 × (Nat → Int32) × (Nat → Int32) × (Nat → Int32) × (Nat → Int32))) (hf : f_X10_runsNow v_now v_ranks v_distinct v_proper v_line = some o) : Met l yX10_runsNow wsX10_runsNow rm_X10_runsNow (va_Pc [.ref h0] (fun U => U.heap.size = sz ∧ va_P (dC, dI) vwCl [(h0, .inr (8, [.ref q_now, .ref q_text, .int v_typed, .ref q_row, .int v_rowMany, .int v_thrown, .int v_length, .int v_at, .int v_wrong, .ref q_read, .ref q_ranks, .ref q_distinct, .ref q_proper, .int v_properMany, .ref q_line, .ref q_order, .int v_orderMany, .ref q_then, .ref q_bestOrder, .ref q_lineThen, .ref q_undos, .ref q_was, .int v_undoMany, .int v_drawn, .ref q_kept, .ref q_isKept])), (q_now, .inl (cJ, 120, .inr (.inl v_now))), (q_ranks, .inl (cI, 96, .inl v_ranks)), (q_distinct, .inl (cI, 6, .inl v_distinct)), (q_proper, .inl (cI, 6, .inl v_proper)), (q_line, .inl (cI, 16, .inl v_line))] U.heap ∧ va_K (dC, dI) vwCl (tyA cB cC cI cJ cZ cT) U ∧ va_D (fun _ => True) [(h0, .inr (8, [.ref q_now, .ref q_text, .int v_typed, .ref q_row, .int v_rowMany, .int v_thrown, .int v_length, .int v_at, .int v_wrong, .ref q_read, .ref q_ranks, .ref q_distinct, .ref q_proper, .int v_properMany, .ref q_line, .ref q_order, .int v_orderMany, .ref q_then, .ref q_bestOrder, .ref q_lineThen, .ref q_undos, .ref q_was, .int v_undoMany, .int v_drawn, .ref q_kept, .ref q_isKept])), (q_now, .inl (cJ, 120, .inr (.inl v_now))), (q_ranks, .inl (cI, 96, .inl v_ranks)), (q_distinct, .inl (cI, 6, .inl v_distinct)), (q_proper, .inl (cI, 6, .inl v_proper)), (q_line, .inl (cI, 16, .inl v_line))])) (va_Qi (fun (r : Int32) (_ : Unit) => o.1 = r) (fun _ t => va_P (dC, dI) vwCl [(h0, .inr (8, [.ref q_now, .ref q_text, .int v_typed, .ref q_row, .int v_rowMany, .int v_thrown, .int v_length, .int v_at, .int v_wrong, .ref q_read, .ref q_ranks, .ref q_distinct, .ref q_proper, .int o.2.1, .ref q_line, .ref q_order, .int v_orderMany, .ref q_then, .ref q_bestOrder, .ref q_lineThen, .ref q_undos, .ref q_was, .int v_undoMany, .int v_drawn, .ref q_kept, .ref q_isKept])), (q_now, .inl (cJ, 120, .inr (.inl v_now))), (q_ranks, .inl (cI, 96, .inl o.2.2.1)), (q_distinct, .inl (cI, 6, .inl o.2.2.2.1)), (q_proper, .inl (cI, 6, .inl o.2.2.2.2.1)), (q_line, .inl (cI, 16, .inl o.2.2.2.2.2))] t.heap ∧ va_K (dC, dI) vwCl (tyA cB cC cI cJ cZ cT) t ∧ va_D (va_A [(h0, .inr (8, [.ref q_now, .ref q_text, .int v_typed, .ref q_row, .int v_rowMany, .int v_thrown, .int v_length, .int v_at, .int v_wrong, .ref q_read, .ref q_ranks, .ref q_distinct, .ref q_proper, .int v_properMany, .ref q_line, .ref q_order, .int v_orderMany, .ref q_then, .ref q_bestOrder, .ref q_lineThen, .ref q_undos, .ref q_was, .int v_undoMany, .int v_drawn, .ref q_kept, .ref q_isKept])), (q_now, .inl (cJ, 120, .inr (.inl v_now))), (q_ranks, .inl (cI, 96, .inl v_ranks)), (q_distinct, .inl (cI, 6, .inl v_distinct)), (q_proper, .inl (cI, 6, .inl v_proper)), (q_line, .inl (cI, 16, .inl v_line))] sz) [(h0, .inr (8, [.ref q_now, .ref q_text, .int v_typed, .ref q_row, .int v_rowMany, .int v_thrown, .int v_length, .int v_at, .int v_wrong, .ref q_read, .ref q_ranks, .ref q_distinct, .ref q_proper, .int o.2.1, .ref q_line, .ref q_order, .int v_orderMany, .ref q_then, .ref q_bestOrder, .ref q_lineThen, .ref q_undos, .ref q_was, .int v_undoMany, .int v_drawn, .ref q_kept, .ref q_isKept])), (q_now, .inl (cJ, 120, .inr (.inl v_now))), (q_ranks, .inl (cI, 96, .inl o.2.2.1)), (q_distinct, .inl (cI, 6, .inl o.2.2.2.1)), (q_proper, .inl (cI, 6, .inl o.2.2.2.2.1)), (q_line, .inl (cI, 16, .inl o.2.2.2.2.2))]) (va_A [(h0, .inr (8, [.ref q_now, .ref q_text, .int v_typed, .ref q_row, .int v_rowMany, .int v_thrown, .int v_length, .int v_at, .int v_wrong, .ref q_read, .ref q_ranks, .ref q_distinct, .ref q_proper, .int v_properMany, .ref q_line, .ref q_order, .int v_orderMany, .ref q_then, .ref q_bestOrder, .ref q_lineThen, .ref q_undos, .ref q_was, .int v_undoMany, .int v_drawn, .ref q_kept, .ref q_isKept])), (q_now, .inl (cJ, 120, .inr (.inl v_now))), (q_ranks, .inl (cI, 96, .inl v_ranks)), (q_distinct, .inl (cI, 6, .inl v_distinct)), (q_proper, .inl (cI, 6, .inl v_proper)), (q_line, .inl (cI, 16, .inl v_line))] sz)) 0 0 (va_A [(h0, .inr (8, [.ref q_now, .ref q_text, .int v_typed, .ref q_row, .int v_rowMany, .int v_thrown, .int v_length, .int v_at, .int v_wrong, .ref q_read, .ref q_ranks, .ref q_distinct, .ref q_proper, .int v_properMany, .ref q_line, .ref q_order, .int v_orderMany, .ref q_then, .ref q_bestOrder, .ref q_lineThen, .ref q_undos, .ref q_was, .int v_undoMany, .int v_drawn, .ref q_kept, .ref q_isKept])), (q_now, .inl (cJ, 120, .inr (.inl v_now))), (q_ranks, .inl (cI, 96, .inl v_ranks)), (q_distinct, .inl (cI, 6, .inl v_distinct)), (q_proper, .inl (cI, 6, .inl v_proper)), (q_line, .inl (cI, 16, .inl v_line))] sz) := by
  refine Met.ofW (cc := cX10_runsNow) (maxL := 1) (ret := (some .int)) (by decide +kernel) rfl ?_
  intro p e s m args below meth c s₁ B hml hv
  obtain ⟨hav, hsz, hP, hK, hD0⟩ := hv
  have hx := B.exec
  have hb := B.bytes
  have hr := B.returns
  have hts := atoms_spec (ws := wsX10_runsNow) B.pre
  have hown : s.vm.findClass RX10 = some m.cls := findClass_of_methodNamed B.named
  have hlocks := B.notSynchronized
  subst hsz
  have hD := hD0.self (sz := s.heap.size)
  generalize hAe : va_A [(h0, .inr (8, [.ref q_now, .ref q_text, .int v_typed, .ref q_row, .int v_rowMany, .int v_thrown, .int v_length, .int v_at, .int v_wrong, .ref q_read, .ref q_ranks, .ref q_distinct, .ref q_proper, .int v_properMany, .ref q_line, .ref q_order, .int v_orderMany, .ref q_then, .ref q_bestOrder, .ref q_lineThen, .ref q_undos, .ref q_was, .int v_undoMany, .int v_drawn, .ref q_kept, .ref q_isKept])), (q_now, .inl (cJ, 120, .inr (.inl v_now))), (q_ranks, .inl (cI, 96, .inl v_ranks)), (q_distinct, .inl (cI, 6, .inl v_distinct)), (q_proper, .inl (cI, 6, .inl v_proper)), (q_line, .inl (cI, 16, .inl v_line))] s.heap.size = A at hD ⊢
  have hA : ∀ q : Nat, s.heap.size ≤ q → A q := fun q h => by rw [← hAe]; exact Or.inr h
  have hS : va_S A s.heap s.heap [] := va_S.rf
  refine wstart (rm := rm_X10_runsNow) hav (Nat.le_of_ble_eq_true rfl) (fun QQ ls hQQ hl => ?_)
  have hl : lv_has ls 1 [(0, .ref h0)] := hl
  have h := hf
  unfold f_X10_runsNow at h
  refine lv_aload_n hx hb dX10_runsNow_0 rfl (lv_at hl 0 rfl) ?_
  obtain ⟨o_769, hr_769, h⟩ := ob h
  have hPc := hP.sub (ws' := [(h0, .inr (8, [.ref q_now, .ref q_text, .int v_typed, .ref q_row, .int v_rowMany, .int v_thrown, .int v_length, .int v_at, .int v_wrong, .ref q_read, .ref q_ranks, .ref q_distinct, .ref q_proper, .int v_properMany, .ref q_line, .ref q_order, .int v_orderMany, .ref q_then, .ref q_bestOrder, .ref q_lineThen, .ref q_undos, .ref q_was, .int v_undoMany, .int v_drawn, .ref q_kept, .ref q_isKept])), (q_now, .inl (cJ, 120, .inr (.inl v_now))), (q_ranks, .inl (cI, 96, .inl v_ranks)), (q_distinct, .inl (cI, 6, .inl v_distinct)), (q_proper, .inl (cI, 6, .inl v_proper)), (q_line, .inl (cI, 16, .inl v_line))]) [0, 1, 2, 3, 4, 5] rfl
  have hDc := hD.sub (ws' := [(h0, .inr (8, [.ref q_now, .ref q_text, .int v_typed, .ref q_row, .int v_rowMany, .int v_thrown, .int v_length, .int v_at, .int v_wrong, .ref q_read, .ref q_ranks, .ref q_distinct, .ref q_proper, .int v_properMany, .ref q_line, .ref q_order, .int v_orderMany, .ref q_then, .ref q_bestOrder, .ref q_lineThen, .ref q_undos, .ref q_was, .int v_undoMany, .int v_drawn, .ref q_kept, .ref q_isKept])), (q_now, .inl (cJ, 120, .inr (.inl v_now))), (q_ranks, .inl (cI, 96, .inl v_ranks)), (q_distinct, .inl (cI, 6, .inl v_distinct)), (q_proper, .inl (cI, 6, .inl v_proper)), (q_line, .inl (cI, 16, .inl v_line))]) [0, 1, 2, 3, 4, 5] (by decide) rfl
  have hFc := va_free (wc := [(h0, .inr (8, [.ref q_now, .ref q_text, .int v_typed, .ref q_row, .int v_rowMany, .int v_thrown, .int v_length, .int v_at, .int v_wrong, .ref q_read, .ref q_ranks, .ref q_distinct, .ref q_proper, .int v_properMany, .ref q_line, .ref q_order, .int v_orderMany, .ref q_then, .ref q_bestOrder, .ref q_lineThen, .ref q_undos, .ref q_was, .int v_undoMany, .int v_drawn, .ref q_kept, .ref q_isKept])), (q_now, .inl (cJ, 120, .inr (.inl v_now))), (q_ranks, .inl (cI, 96, .inl v_ranks)), (q_distinct, .inl (cI, 6, .inl v_distinct)), (q_proper, .inl (cI, 6, .inl v_proper)), (q_line, .inl (cI, 16, .inl v_line))]) hD hS hA [0, 1, 2, 3, 4, 5] rfl
  refine va_callv (va_runV (As := []) (rest := []) ⟨hx, hb, hml, hown, hts⟩ (c_X10_layLine l dC dI cB cC cI cJ cZ cT h0 q_now q_text q_row q_read q_ranks q_distinct q_proper q_line q_order q_then q_bestOrder q_lineThen q_undos q_was q_kept q_isKept s.heap.size v_typed v_rowMany v_thrown v_length v_at v_wrong v_properMany v_orderMany v_undoMany v_drawn v_now v_ranks v_distinct v_proper v_line o_769 hr_769) (cwV 0 hts gX10_runsNow_X10_layLine rfl rfl rfl (by decide +kernel) ⟨Nat.le_of_ble_eq_true rfl, Nat.le_of_ble_eq_true rfl⟩) ⟨blW, va_recv hK hP (ci := 8) (q0 := 0) rfl rfl, fun U hU hW => ⟨rfl, by rw [hU], by rw [hU]; exact hPc, va_K.moved hW.alike hK, hDc.weaken (fun _ _ _ _ => trivial)⟩⟩ rfl rfl hl.1 rfl (lv_room (Nat.le_of_ble_eq_true rfl)) dX10_runsNow_1 ⟨Nat.le_of_ble_eq_true rfl, Nat.le_of_ble_eq_true rfl⟩) hS (fun q _ h => hFc q h) hFc (fun u_769 t_769 H locs ht hvm e_769 hB hz1 hk1 hS => ?_)
  obtain ⟨hP1, -, hD1⟩ := hB
  rw [ht] at hP1
  obtain ⟨hP, hD⟩ := va_join (wr := []) (w1 := [(h0, .inr (8, [.ref q_now, .ref q_text, .int v_typed, .ref q_row, .int v_rowMany, .int v_thrown, .int v_length, .int v_at, .int v_wrong, .ref q_read, .ref q_ranks, .ref q_distinct, .ref q_proper, .int o_769.1, .ref q_line, .ref q_order, .int v_orderMany, .ref q_then, .ref q_bestOrder, .ref q_lineThen, .ref q_undos, .ref q_was, .int v_undoMany, .int v_drawn, .ref q_kept, .ref q_isKept])), (q_now, .inl (cJ, 120, .inr (.inl v_now))), (q_ranks, .inl (cI, 96, .inl o_769.2.1)), (q_distinct, .inl (cI, 6, .inl o_769.2.2.1)), (q_proper, .inl (cI, 6, .inl o_769.2.2.2.1)), (q_line, .inl (cI, 16, .inl o_769.2.2.2.2))]) hP hD [0, 1, 2, 3, 4, 5] [] rfl rfl (by decide) (by decide) hk1 hFc hP1 hD1
  replace hP := hP.sub (ws' := [(h0, .inr (8, [.ref q_now, .ref q_text, .int v_typed, .ref q_row, .int v_rowMany, .int v_thrown, .int v_length, .int v_at, .int v_wrong, .ref q_read, .ref q_ranks, .ref q_distinct, .ref q_proper, .int o_769.1, .ref q_line, .ref q_order, .int v_orderMany, .ref q_then, .ref q_bestOrder, .ref q_lineThen, .ref q_undos, .ref q_was, .int v_undoMany, .int v_drawn, .ref q_kept, .ref q_isKept])), (q_now, .inl (cJ, 120, .inr (.inl v_now))), (q_ranks, .inl (cI, 96, .inl o_769.2.1)), (q_distinct, .inl (cI, 6, .inl o_769.2.2.1)), (q_proper, .inl (cI, 6, .inl o_769.2.2.2.1)), (q_line, .inl (cI, 16, .inl o_769.2.2.2.2))]) [0, 1, 2, 3, 4, 5] rfl
  replace hD := hD.sub (ws' := [(h0, .inr (8, [.ref q_now, .ref q_text, .int v_typed, .ref q_row, .int v_rowMany, .int v_thrown, .int v_length, .int v_at, .int v_wrong, .ref q_read, .ref q_ranks, .ref q_distinct, .ref q_proper, .int o_769.1, .ref q_line, .ref q_order, .int v_orderMany, .ref q_then, .ref q_bestOrder, .ref q_lineThen, .ref q_undos, .ref q_was, .int v_undoMany, .int v_drawn, .ref q_kept, .ref q_isKept])), (q_now, .inl (cJ, 120, .inr (.inl v_now))), (q_ranks, .inl (cI, 96, .inl o_769.2.1)), (q_distinct, .inl (cI, 6, .inl o_769.2.2.1)), (q_proper, .inl (cI, 6, .inl o_769.2.2.2.1)), (q_line, .inl (cI, 16, .inl o_769.2.2.2.2))]) [0, 1, 2, 3, 4, 5] (by decide) rfl
  refine lv_aload_n hx hb dX10_runsNow_4 rfl (lv_at hl 0 rfl) ?_
  obtain ⟨o_771, hr_771, h⟩ := ob h
  refine vp_callSi (va_Run.run (va_runV (As := []) (rest := []) ⟨hx, hb, hml, hown, hts⟩ (c_X10_runsOfLine l dC dI cB cC cI cJ cZ cT h0 q_now q_text q_row q_read q_ranks q_distinct q_proper q_line q_order q_then q_bestOrder q_lineThen q_undos q_was q_kept q_isKept v_typed v_rowMany v_thrown v_length v_at v_wrong o_769.1 v_orderMany v_undoMany v_drawn v_now o_769.2.1 o_769.2.2.2.1 o_769.2.2.2.2 o_771 hr_771) (cwV 0 hts gX10_runsNow_X10_runsOfLine rfl rfl rfl (by decide +kernel) ⟨Nat.le_of_ble_eq_true rfl, Nat.le_of_ble_eq_true rfl⟩) ⟨blR, va_recv hK hP (ci := 8) (q0 := 0) rfl rfl, fun U hU hW => ⟨rfl, by rw [hU]; exact hP.sub [0, 1, 2, 4, 5] rfl, va_K.moved hW.alike hK⟩⟩ rfl rfl hl.1 rfl (lv_room (Nat.le_of_ble_eq_true rfl)) dX10_runsNow_5 ⟨Nat.le_of_ble_eq_true rfl, Nat.le_of_ble_eq_true rfl⟩)) (fun r_771 e_771 => ?_)
  subst e_771
  rw [hQQ]
  have ho := Option.some.inj h
  subst ho
  exact W.iret hx hb hr (fun t ht hW => ⟨⟨_, (), rfl, rfl, by rw [ht]; exact hP, va_K.moved hW.alike hK, hD⟩, hS.F ht⟩) hS.2.2 dX10_runsNow_8
def L_X10_unlikeOf_5 (v_properMany : Int32) (v_ranks : (Nat → Int32)) (v_proper : (Nat → Int32)) (x1 : Int32) (x2 : Int32) : Nat → Int32 → Int32 → Option Int32
  | 0, _, _ => none
  | n+1, x3_5, x4_5 => (if v_properMany ≤ x4_5 then (some x3_5) else (if x4_5 < 0 ∨ 6 ≤ (x4_5).toNatClampNeg then none else (if (((16 : Int32) * (v_proper (x4_5).toNatClampNeg)) + x1) < 0 ∨ 96 ≤ ((((16 : Int32) * (v_proper (x4_5).toNatClampNeg)) + x1)).toNatClampNeg then none else (if x4_5 < 0 ∨ 6 ≤ (x4_5).toNatClampNeg then none else (if (((16 : Int32) * (v_proper (x4_5).toNatClampNeg)) + x2) < 0 ∨ 96 ≤ ((((16 : Int32) * (v_proper (x4_5).toNatClampNeg)) + x2)).toNatClampNeg then none else (if (v_ranks ((((16 : Int32) * (v_proper (x4_5).toNatClampNeg)) + x1)).toNatClampNeg) = (v_ranks ((((16 : Int32) * (v_proper (x4_5).toNatClampNeg)) + x2)).toNatClampNeg) then (L_X10_unlikeOf_5 v_properMany v_ranks v_proper x1 x2 n (x3_5 + (0 : Int32)) (x4_5 + 1)) else (L_X10_unlikeOf_5 v_properMany v_ranks v_proper x1 x2 n (x3_5 + (1 : Int32)) (x4_5 + 1))))))))
def f_X10_unlikeOf (v_properMany : Int32) (v_ranks : Nat → Int32) (v_proper : Nat → Int32) (x1 : Int32) (x2 : Int32) : Option Int32 :=
  ((L_X10_unlikeOf_5 v_properMany v_ranks v_proper x1 x2 fu (0 : Int32) (0 : Int32)).bind (fun w_779 => (some w_779)))
abbrev rm_X10_unlikeOf : Room := { frames := 0, cells := 0, slots := 0, locals := 0 }
set_option maxHeartbeats 4000000 in
set_option maxRecDepth 100000 in
theorem c_X10_unlikeOf (l : Launch) (dC : Nat → ClassId) (dI : Nat → Nat → Nat) (cB cC cI cJ cZ cT : ClassId) (h0 q_now q_text q_row q_read q_ranks q_distinct q_proper q_line q_order q_then q_bestOrder q_lineThen q_undos q_was q_kept q_isKept : Nat) (v_typed : Int32) (v_rowMany : Int32) (v_thrown : Int32) (v_length : Int32) (v_at : Int32) (v_wrong : Int32) (v_properMany : Int32) (v_orderMany : Int32) (v_undoMany : Int32) (v_drawn : Int32) (v_ranks : Nat → Int32) (v_proper : Nat → Int32) (x1 : Int32) (x2 : Int32) (o : Int32) (hf : f_X10_unlikeOf v_properMany v_ranks v_proper x1 x2 = some o) : Met l yX10_unlikeOf wsX10_unlikeOf rm_X10_unlikeOf (va_Pc [.ref h0, .int x1, .int x2] (fun U => va_P (dC, dI) vwCl [(h0, .inr (8, [.ref q_now, .ref q_text, .int v_typed, .ref q_row, .int v_rowMany, .int v_thrown, .int v_length, .int v_at, .int v_wrong, .ref q_read, .ref q_ranks, .ref q_distinct, .ref q_proper, .int v_properMany, .ref q_line, .ref q_order, .int v_orderMany, .ref q_then, .ref q_bestOrder, .ref q_lineThen, .ref q_undos, .ref q_was, .int v_undoMany, .int v_drawn, .ref q_kept, .ref q_isKept])), (q_ranks, .inl (cI, 96, .inl v_ranks)), (q_proper, .inl (cI, 6, .inl v_proper))] U.heap ∧ va_K (dC, dI) vwCl (tyA cB cC cI cJ cZ cT) U)) (vp_Si (fun r => o = r)) 0 0 (fun _ => False) := by
  refine Met.ofW (cc := cX10_unlikeOf) (maxL := 5) (ret := (some .int)) (by decide +kernel) rfl ?_
  intro p e s m args below meth c s₁ B hml hv
  obtain ⟨hav, hP, hK⟩ := hv
  have hx := B.exec
  have hb := B.bytes
  have hr := B.returns
  have hts := atoms_spec (ws := wsX10_unlikeOf) B.pre
  have hown : s.vm.findClass RX10 = some m.cls := findClass_of_methodNamed B.named
  have hlocks := B.notSynchronized
  refine wstart (rm := rm_X10_unlikeOf) hav (Nat.le_of_ble_eq_true rfl) (fun QQ ls hQQ hl => ?_)
  have hl : lv_has ls 5 [(0, .ref h0), (1, .int x1), (2, .int x2)] := hl
  have hi_X10 : ∀ w ∈ u_ws RX10 TX10 26, w ∈ wsX10_unlikeOf := by decide +kernel
  have h := hf
  unfold f_X10_unlikeOf at h
  refine lv_iconst (v := 0) hx hb dX10_unlikeOf_0 (by decide) ?_
  refine lv_istore_n (lv' := [(3, .int (0 : Int32)), (0, .ref h0), (1, .int x1), (2, .int x2)]) hx hb dX10_unlikeOf_1 rfl hl (by decide) rfl (fun ls hl => ?_)
  refine lv_iconst (v := 0) hx hb dX10_unlikeOf_2 (by decide) ?_
  refine lv_istore (lv' := [(4, .int (0 : Int32)), (3, .int (0 : Int32)), (0, .ref h0), (1, .int x1), (2, .int x2)]) hx hb dX10_unlikeOf_3 hl (by decide) rfl (fun ls hl => ?_)
  have LP_779 : ∀ (n : Nat) (x3_5 : Int32) (x4_5 : Int32) (w : Int32) (ls : Array Slot), L_X10_unlikeOf_5 v_properMany v_ranks v_proper x1 x2 n x3_5 x4_5 = some w → lv_has ls 5 [(0, .ref h0), (1, .int x1), (2, .int x2), (3, .int x3_5), (4, .int x4_5)] → (∀ (ls : Array Slot), lv_has ls 5 [(3, .int w)] → W p l e rm_X10_unlikeOf s m args below meth c s.heap [] 0 0 QQ (F0 m 65 ls [])) → W p l e rm_X10_unlikeOf s m args below meth c s.heap [] 0 0 QQ (F0 m 5 ls []) := by
    intro n
    induction n with
    | zero => intro x3_5 x4_5 w ls h; exact absurd (show none = some w from h) nofun
    | succ n ih =>
      intro x3_5 x4_5 w ls h hl K
      rw [L_X10_unlikeOf_5] at h
      refine lv_iload hx hb dX10_unlikeOf_5 (lv_at hl 4 rfl) ?_
      refine lv_aload_n hx hb dX10_unlikeOf_7 rfl (lv_at hl 0 rfl) ?_
      refine va_get (D := (dC, dI)) (ci := 8) (v := .int v_properMany) (C := RX10) (T := TX10) (N := 26) hx hb hts hi_X10 hown hK hP 0 rfl rfl 13 (by decide) (hts _ (List.mem_of_getElem? (i := 1) rfl)) (fun _ h9 => h9) rfl dX10_unlikeOf_8 ?_
      refine lv_icmp_ge (tgt := 65) hx hb dX10_unlikeOf_11 (by decide) (fun c_773 => ?_) (fun c_773 => ?_)
      · replace h := op c_773 h
        have ho := Option.some.inj h
        subst ho
        exact K ls (lv_sub hl [3] rfl)
      · replace h := on c_773 h
        refine lv_iload_n hx hb dX10_unlikeOf_14 rfl (lv_at hl 3 rfl) ?_
        refine lv_aload_n hx hb dX10_unlikeOf_15 rfl (lv_at hl 0 rfl) ?_
        refine va_get (D := (dC, dI)) (ci := 8) (v := .ref q_ranks) (C := RX10) (T := TX10) (N := 26) hx hb hts hi_X10 hown hK hP 0 rfl rfl 10 (by decide) (hts _ (List.mem_of_getElem? (i := 2) rfl)) (fun _ h9 => h9) rfl dX10_unlikeOf_16 ?_
        refine lv_bipush (v := 16) hx hb dX10_unlikeOf_19 (by decide) ?_
        refine lv_aload_n hx hb dX10_unlikeOf_21 rfl (lv_at hl 0 rfl) ?_
        refine va_get (D := (dC, dI)) (ci := 8) (v := .ref q_proper) (C := RX10) (T := TX10) (N := 26) hx hb hts hi_X10 hown hK hP 0 rfl rfl 12 (by decide) (hts _ (List.mem_of_getElem? (i := 3) rfl)) (fun _ h9 => h9) rfl dX10_unlikeOf_22 ?_
        refine lv_iload hx hb dX10_unlikeOf_25 (lv_at hl 4 rfl) ?_
        obtain ⟨hi_774, h⟩ := og h
        refine va_iald hx hb hK hP 2 0 rfl rfl hi_774 dX10_unlikeOf_27 ?_
        refine lv_imul hx hb dX10_unlikeOf_28 ?_
        refine lv_iload_n hx hb dX10_unlikeOf_29 rfl (lv_at hl 1 rfl) ?_
        refine lv_iadd hx hb dX10_unlikeOf_30 ?_
        obtain ⟨hi_775, h⟩ := og h
        refine va_iald hx hb hK hP 1 0 rfl rfl hi_775 dX10_unlikeOf_31 ?_
        refine lv_aload_n hx hb dX10_unlikeOf_32 rfl (lv_at hl 0 rfl) ?_
        refine va_get (D := (dC, dI)) (ci := 8) (v := .ref q_ranks) (C := RX10) (T := TX10) (N := 26) hx hb hts hi_X10 hown hK hP 0 rfl rfl 10 (by decide) (hts _ (List.mem_of_getElem? (i := 2) rfl)) (fun _ h9 => h9) rfl dX10_unlikeOf_33 ?_
        refine lv_bipush (v := 16) hx hb dX10_unlikeOf_36 (by decide) ?_
        refine lv_aload_n hx hb dX10_unlikeOf_38 rfl (lv_at hl 0 rfl) ?_
        refine va_get (D := (dC, dI)) (ci := 8) (v := .ref q_proper) (C := RX10) (T := TX10) (N := 26) hx hb hts hi_X10 hown hK hP 0 rfl rfl 12 (by decide) (hts _ (List.mem_of_getElem? (i := 3) rfl)) (fun _ h9 => h9) rfl dX10_unlikeOf_39 ?_
        refine lv_iload hx hb dX10_unlikeOf_42 (lv_at hl 4 rfl) ?_
        obtain ⟨hi_776, h⟩ := og h
        refine va_iald hx hb hK hP 2 0 rfl rfl hi_776 dX10_unlikeOf_44 ?_
        refine lv_imul hx hb dX10_unlikeOf_45 ?_
        refine lv_iload_n hx hb dX10_unlikeOf_46 rfl (lv_at hl 2 rfl) ?_
        refine lv_iadd hx hb dX10_unlikeOf_47 ?_
        obtain ⟨hi_777, h⟩ := og h
        refine va_iald hx hb hK hP 1 0 rfl rfl hi_777 dX10_unlikeOf_48 ?_
        refine lv_icmp_eq (tgt := 56) hx hb dX10_unlikeOf_49 (by decide) (fun c_778 => ?_) (fun c_778 => ?_)
        · replace h := op c_778 h
          refine lv_iconst (v := 0) hx hb dX10_unlikeOf_56 (by decide) ?_
          refine lv_iadd hx hb dX10_unlikeOf_57 ?_
          refine lv_istore_n (lv' := [(3, .int (x3_5 + (0 : Int32))), (0, .ref h0), (1, .int x1), (2, .int x2), (4, .int x4_5)]) hx hb dX10_unlikeOf_58 rfl hl (by decide) rfl (fun ls hl => ?_)
          refine lv_iinc (v := (x4_5 + 1)) (lv' := [(4, .int (x4_5 + 1)), (3, .int (x3_5 + (0 : Int32))), (0, .ref h0), (1, .int x1), (2, .int x2)]) hx hb dX10_unlikeOf_59 hl (k := 4) rfl (by rfl) (by decide) rfl (fun ls hl => ?_)
          refine lv_goto (tgt := 5) hx hb dX10_unlikeOf_62 (by decide) ?_
          exact ih (x3_5 + (0 : Int32)) (x4_5 + 1) w ls h (lv_sub hl [2, 3, 4, 1, 0] rfl) K
        · replace h := on c_778 h
          refine lv_iconst (v := 1) hx hb dX10_unlikeOf_52 (by decide) ?_
          refine lv_goto (tgt := 57) hx hb dX10_unlikeOf_53 (by decide) ?_
          refine lv_iadd hx hb dX10_unlikeOf_57 ?_
          refine lv_istore_n (lv' := [(3, .int (x3_5 + (1 : Int32))), (0, .ref h0), (1, .int x1), (2, .int x2), (4, .int x4_5)]) hx hb dX10_unlikeOf_58 rfl hl (by decide) rfl (fun ls hl => ?_)
          refine lv_iinc (v := (x4_5 + 1)) (lv' := [(4, .int (x4_5 + 1)), (3, .int (x3_5 + (1 : Int32))), (0, .ref h0), (1, .int x1), (2, .int x2)]) hx hb dX10_unlikeOf_59 hl (k := 4) rfl (by rfl) (by decide) rfl (fun ls hl => ?_)
          refine lv_goto (tgt := 5) hx hb dX10_unlikeOf_62 (by decide) ?_
          exact ih (x3_5 + (1 : Int32)) (x4_5 + 1) w ls h (lv_sub hl [2, 3, 4, 1, 0] rfl) K
  obtain ⟨w_779, hw_779, h⟩ := ob h
  refine LP_779 fu (0 : Int32) (0 : Int32) w_779 ls hw_779 (lv_sub hl [2, 3, 4, 1, 0] rfl) (fun ls hl => ?_)
  refine lv_iload_n hx hb dX10_unlikeOf_65 rfl (lv_at hl 0 rfl) ?_
  rw [hQQ]
  exact W.iret hx hb hr (fun t ht hW => ⟨_, rfl, (Option.some.inj h).symm, ht⟩) (fun q hq => absurd hq List.not_mem_nil) dX10_unlikeOf_66
def L_X10_runs_40 (v_now : (Nat → Int64)) (x1 : Int32) : Nat → Int32 → Int32 → Int32 → Int32 → Option (Int32 × Int32)
  | 0, _, _, _, _ => none
  | n+1, x2_40, x3_40, x4_40, x5_40 => ((f_X10_rows v_now).bind (fun o_788 => (if o_788 ≤ x5_40 then (some (x2_40, x3_40)) else (((if x5_40 ≤ 0 then (some (1 : Int32)) else ((f_X10_cell v_now x1 x5_40).bind (fun o_801 => ((f_X10_cell v_now x1 (x5_40 - (1 : Int32))).bind (fun o_803 => (((if (lg_cmp o_801 o_803) = 0 then (some (x4_40 + (1 : Int32))) else (some (1 : Int32)))).bind (fun v_805 => (some v_805))))))))).bind (fun v_791 => (if x2_40 < v_791 then (L_X10_runs_40 v_now x1 n v_791 ((x5_40 + (1 : Int32)) - v_791) v_791 (x5_40 + 1)) else (L_X10_runs_40 v_now x1 n x2_40 x3_40 v_791 (x5_40 + 1))))))))
def f_X10_runs (v_rowMany : Int32) (v_properMany : Int32) (v_now : Nat → Int64) (v_row : Nat → Int64) (v_ranks : Nat → Int32) (v_distinct : Nat → Int32) (v_proper : Nat → Int32) (v_line : Nat → Int32) (x1 : Int32) : Option (Int32 × Int32 × Int32 × Int32 × (Nat → Int64) × (Nat → Int32) × (Nat → Int32) × (Nat → Int32) × (Nat → Int32)) :=
  ((f_X10_isColumn v_now x1).bind (fun o_780 => (if (b2i o_780) = 0 then (some ((-1 : Int32), v_rowMany, (0 : Int32), v_properMany, v_row, v_ranks, v_distinct, v_proper, v_line)) else ((f_X10_isProper v_now x1).bind (fun o_783 => (if (b2i o_783) = 0 then (some ((-2 : Int32), v_rowMany, (0 : Int32), v_properMany, v_row, v_ranks, v_distinct, v_proper, v_line)) else ((f_X10_layLine v_now v_ranks v_distinct v_proper v_line).bind (fun o_786 => ((L_X10_runs_40 v_now x1 fu (0 : Int32) (-1 : Int32) (0 : Int32) (0 : Int32)).bind (fun w_809 => (if x1 < 0 ∨ 6 ≤ (x1).toNatClampNeg then none else ((f_X10_tell (0 : Int32) v_row (o_786.2.2.1 (x1).toNatClampNeg).toInt64).bind (fun o_811 => ((f_X10_tell o_811.1 o_811.2 (w_809.1).toInt64).bind (fun o_813 => ((f_X10_tell o_813.1 o_813.2 (w_809.2).toInt64).bind (fun o_815 => ((f_X10_runsIn v_now o_786.2.1 o_786.2.2.2.2 x1).bind (fun o_817 => (some (o_817, o_815.1, (0 : Int32), o_786.1, o_815.2, o_786.2.1, o_786.2.2.1, o_786.2.2.2.1, o_786.2.2.2.2)))))))))))))))))))))
abbrev rm_X10_runs : Room := { frames := 6, cells := 0, slots := 0, locals := 137 }
set_option maxHeartbeats 4000000 in
set_option maxRecDepth 100000 in
theorem c_X10_runs (l : Launch) (dC : Nat → ClassId) (dI : Nat → Nat → Nat) (cB cC cI cJ cZ cT : ClassId) (h0 q_now q_text q_row q_read q_ranks q_distinct q_proper q_line q_order q_then q_bestOrder q_lineThen q_undos q_was q_kept q_isKept : Nat) (sz : Nat) (v_typed : Int32) (v_rowMany : Int32) (v_thrown : Int32) (v_length : Int32) (v_at : Int32) (v_wrong : Int32) (v_properMany : Int32) (v_orderMany : Int32) (v_undoMany : Int32) (v_drawn : Int32) (v_now : Nat → Int64) (v_row : Nat → Int64) (v_ranks : Nat → Int32) (v_distinct : Nat → Int32) (v_proper : Nat → Int32) (v_line : Nat → Int32) (x1 : Int32) (o : (Int32 × Int32 × Int32 × Int32 × (Nat → Int64) × (Nat → Int32) × (Nat → Int32) × (Nat → Int32) × (Nat → Int32))) (hf : f_X10_runs v_rowMany v_properMany v_now v_row v_ranks v_distinct v_proper v_line x1 = some o) : Met l yX10_runs wsX10_runs rm_X10_runs (va_Pc [.ref h0, .int x1] (fun U => U.heap.size = sz ∧ va_P (dC, dI) vwCl [(h0, .inr (8, [.ref q_now, .ref q_text, .int v_typed, .ref q_row, .int v_rowMany, .int v_thrown, .int v_length, .int v_at, .int v_wrong, .ref q_read, .ref q_ranks, .ref q_distinct, .ref q_proper, .int v_properMany, .ref q_line, .ref q_order, .int v_orderMany, .ref q_then, .ref q_bestOrder, .ref q_lineThen, .ref q_undos, .ref q_was, .int v_undoMany, .int v_drawn, .ref q_kept, .ref q_isKept])), (q_now, .inl (cJ, 120, .inr (.inl v_now))), (q_row, .inl (cJ, 64, .inr (.inl v_row))), (q_ranks, .inl (cI, 96, .inl v_ranks)), (q_distinct, .inl (cI, 6, .inl v_distinct)), (q_proper, .inl (cI, 6, .inl v_proper)), (q_line, .inl (cI, 16, .inl v_line))] U.heap ∧ va_K (dC, dI) vwCl (tyA cB cC cI cJ cZ cT) U ∧ va_D (fun _ => True) [(h0, .inr (8, [.ref q_now, .ref q_text, .int v_typed, .ref q_row, .int v_rowMany, .int v_thrown, .int v_length, .int v_at, .int v_wrong, .ref q_read, .ref q_ranks, .ref q_distinct, .ref q_proper, .int v_properMany, .ref q_line, .ref q_order, .int v_orderMany, .ref q_then, .ref q_bestOrder, .ref q_lineThen, .ref q_undos, .ref q_was, .int v_undoMany, .int v_drawn, .ref q_kept, .ref q_isKept])), (q_now, .inl (cJ, 120, .inr (.inl v_now))), (q_row, .inl (cJ, 64, .inr (.inl v_row))), (q_ranks, .inl (cI, 96, .inl v_ranks)), (q_distinct, .inl (cI, 6, .inl v_distinct)), (q_proper, .inl (cI, 6, .inl v_proper)), (q_line, .inl (cI, 16, .inl v_line))])) (va_Qi (fun (r : Int32) (_ : Unit) => o.1 = r) (fun _ t => va_P (dC, dI) vwCl [(h0, .inr (8, [.ref q_now, .ref q_text, .int v_typed, .ref q_row, .int o.2.1, .int o.2.2.1, .int v_length, .int v_at, .int v_wrong, .ref q_read, .ref q_ranks, .ref q_distinct, .ref q_proper, .int o.2.2.2.1, .ref q_line, .ref q_order, .int v_orderMany, .ref q_then, .ref q_bestOrder, .ref q_lineThen, .ref q_undos, .ref q_was, .int v_undoMany, .int v_drawn, .ref q_kept, .ref q_isKept])), (q_now, .inl (cJ, 120, .inr (.inl v_now))), (q_row, .inl (cJ, 64, .inr (.inl o.2.2.2.2.1))), (q_ranks, .inl (cI, 96, .inl o.2.2.2.2.2.1)), (q_distinct, .inl (cI, 6, .inl o.2.2.2.2.2.2.1)), (q_proper, .inl (cI, 6, .inl o.2.2.2.2.2.2.2.1)), (q_line, .inl (cI, 16, .inl o.2.2.2.2.2.2.2.2))] t.heap ∧ va_K (dC, dI) vwCl (tyA cB cC cI cJ cZ cT) t ∧ va_D (va_A [(h0, .inr (8, [.ref q_now, .ref q_text, .int v_typed, .ref q_row, .int v_rowMany, .int v_thrown, .int v_length, .int v_at, .int v_wrong, .ref q_read, .ref q_ranks, .ref q_distinct, .ref q_proper, .int v_properMany, .ref q_line, .ref q_order, .int v_orderMany, .ref q_then, .ref q_bestOrder, .ref q_lineThen, .ref q_undos, .ref q_was, .int v_undoMany, .int v_drawn, .ref q_kept, .ref q_isKept])), (q_now, .inl (cJ, 120, .inr (.inl v_now))), (q_row, .inl (cJ, 64, .inr (.inl v_row))), (q_ranks, .inl (cI, 96, .inl v_ranks)), (q_distinct, .inl (cI, 6, .inl v_distinct)), (q_proper, .inl (cI, 6, .inl v_proper)), (q_line, .inl (cI, 16, .inl v_line))] sz) [(h0, .inr (8, [.ref q_now, .ref q_text, .int v_typed, .ref q_row, .int o.2.1, .int o.2.2.1, .int v_length, .int v_at, .int v_wrong, .ref q_read, .ref q_ranks, .ref q_distinct, .ref q_proper, .int o.2.2.2.1, .ref q_line, .ref q_order, .int v_orderMany, .ref q_then, .ref q_bestOrder, .ref q_lineThen, .ref q_undos, .ref q_was, .int v_undoMany, .int v_drawn, .ref q_kept, .ref q_isKept])), (q_now, .inl (cJ, 120, .inr (.inl v_now))), (q_row, .inl (cJ, 64, .inr (.inl o.2.2.2.2.1))), (q_ranks, .inl (cI, 96, .inl o.2.2.2.2.2.1)), (q_distinct, .inl (cI, 6, .inl o.2.2.2.2.2.2.1)), (q_proper, .inl (cI, 6, .inl o.2.2.2.2.2.2.2.1)), (q_line, .inl (cI, 16, .inl o.2.2.2.2.2.2.2.2))]) (va_A [(h0, .inr (8, [.ref q_now, .ref q_text, .int v_typed, .ref q_row, .int v_rowMany, .int v_thrown, .int v_length, .int v_at, .int v_wrong, .ref q_read, .ref q_ranks, .ref q_distinct, .ref q_proper, .int v_properMany, .ref q_line, .ref q_order, .int v_orderMany, .ref q_then, .ref q_bestOrder, .ref q_lineThen, .ref q_undos, .ref q_was, .int v_undoMany, .int v_drawn, .ref q_kept, .ref q_isKept])), (q_now, .inl (cJ, 120, .inr (.inl v_now))), (q_row, .inl (cJ, 64, .inr (.inl v_row))), (q_ranks, .inl (cI, 96, .inl v_ranks)), (q_distinct, .inl (cI, 6, .inl v_distinct)), (q_proper, .inl (cI, 6, .inl v_proper)), (q_line, .inl (cI, 16, .inl v_line))] sz)) 0 0 (va_A [(h0, .inr (8, [.ref q_now, .ref q_text, .int v_typed, .ref q_row, .int v_rowMany, .int v_thrown, .int v_length, .int v_at, .int v_wrong, .ref q_read, .ref q_ranks, .ref q_distinct, .ref q_proper, .int v_properMany, .ref q_line, .ref q_order, .int v_orderMany, .ref q_then, .ref q_bestOrder, .ref q_lineThen, .ref q_undos, .ref q_was, .int v_undoMany, .int v_drawn, .ref q_kept, .ref q_isKept])), (q_now, .inl (cJ, 120, .inr (.inl v_now))), (q_row, .inl (cJ, 64, .inr (.inl v_row))), (q_ranks, .inl (cI, 96, .inl v_ranks)), (q_distinct, .inl (cI, 6, .inl v_distinct)), (q_proper, .inl (cI, 6, .inl v_proper)), (q_line, .inl (cI, 16, .inl v_line))] sz) := by
  refine Met.ofW (cc := cX10_runs) (maxL := 6) (ret := (some .int)) (by decide +kernel) rfl ?_
  intro p e s m args below meth c s₁ B hml hv
  obtain ⟨hav, hsz, hP, hK, hD0⟩ := hv
  have hx := B.exec
  have hb := B.bytes
  have hr := B.returns
  have hts := atoms_spec (ws := wsX10_runs) B.pre
  have hown : s.vm.findClass RX10 = some m.cls := findClass_of_methodNamed B.named
  have hlocks := B.notSynchronized
  subst hsz
  have hD := hD0.self (sz := s.heap.size)
  generalize hAe : va_A [(h0, .inr (8, [.ref q_now, .ref q_text, .int v_typed, .ref q_row, .int v_rowMany, .int v_thrown, .int v_length, .int v_at, .int v_wrong, .ref q_read, .ref q_ranks, .ref q_distinct, .ref q_proper, .int v_properMany, .ref q_line, .ref q_order, .int v_orderMany, .ref q_then, .ref q_bestOrder, .ref q_lineThen, .ref q_undos, .ref q_was, .int v_undoMany, .int v_drawn, .ref q_kept, .ref q_isKept])), (q_now, .inl (cJ, 120, .inr (.inl v_now))), (q_row, .inl (cJ, 64, .inr (.inl v_row))), (q_ranks, .inl (cI, 96, .inl v_ranks)), (q_distinct, .inl (cI, 6, .inl v_distinct)), (q_proper, .inl (cI, 6, .inl v_proper)), (q_line, .inl (cI, 16, .inl v_line))] s.heap.size = A at hD ⊢
  have hA : ∀ q : Nat, s.heap.size ≤ q → A q := fun q h => by rw [← hAe]; exact Or.inr h
  have hS : va_S A s.heap s.heap [] := va_S.rf
  refine wstart (rm := rm_X10_runs) hav (Nat.le_of_ble_eq_true rfl) (fun QQ ls hQQ hl => ?_)
  have hl : lv_has ls 6 [(0, .ref h0), (1, .int x1)] := hl
  have hi_X10 : ∀ w ∈ u_ws RX10 TX10 26, w ∈ wsX10_runs := by decide +kernel
  have h := hf
  unfold f_X10_runs at h
  refine lv_aload_n hx hb dX10_runs_0 rfl (lv_at hl 0 rfl) ?_
  refine lv_iconst (v := 0) hx hb dX10_runs_1 (by decide) ?_
  refine va_put (D := (dC, dI)) (ci := 8) (v := .int (0 : Int32)) (ty := .int) (C := RX10) (T := TX10) (N := 26) hx hb hts hi_X10 tyX10 tyX10_ok nmX10 hown hK hP hD hS 0 rfl rfl 5 (by decide) (hts _ (List.mem_of_getElem? (i := 1) rfl)) (fun _ h9 => h9) rfl (by decide +kernel) rfl rfl (Nat.le_of_ble_eq_true rfl) dX10_runs_2 (fun H locs hP hD hS => ?_)
  replace hP : va_P (dC, dI) vwCl [(h0, .inr (8, [.ref q_now, .ref q_text, .int v_typed, .ref q_row, .int v_rowMany, .int (0 : Int32), .int v_length, .int v_at, .int v_wrong, .ref q_read, .ref q_ranks, .ref q_distinct, .ref q_proper, .int v_properMany, .ref q_line, .ref q_order, .int v_orderMany, .ref q_then, .ref q_bestOrder, .ref q_lineThen, .ref q_undos, .ref q_was, .int v_undoMany, .int v_drawn, .ref q_kept, .ref q_isKept])), (q_now, .inl (cJ, 120, .inr (.inl v_now))), (q_row, .inl (cJ, 64, .inr (.inl v_row))), (q_ranks, .inl (cI, 96, .inl v_ranks)), (q_distinct, .inl (cI, 6, .inl v_distinct)), (q_proper, .inl (cI, 6, .inl v_proper)), (q_line, .inl (cI, 16, .inl v_line))] H := hP
  replace hD : va_D A [(h0, .inr (8, [.ref q_now, .ref q_text, .int v_typed, .ref q_row, .int v_rowMany, .int (0 : Int32), .int v_length, .int v_at, .int v_wrong, .ref q_read, .ref q_ranks, .ref q_distinct, .ref q_proper, .int v_properMany, .ref q_line, .ref q_order, .int v_orderMany, .ref q_then, .ref q_bestOrder, .ref q_lineThen, .ref q_undos, .ref q_was, .int v_undoMany, .int v_drawn, .ref q_kept, .ref q_isKept])), (q_now, .inl (cJ, 120, .inr (.inl v_now))), (q_row, .inl (cJ, 64, .inr (.inl v_row))), (q_ranks, .inl (cI, 96, .inl v_ranks)), (q_distinct, .inl (cI, 6, .inl v_distinct)), (q_proper, .inl (cI, 6, .inl v_proper)), (q_line, .inl (cI, 16, .inl v_line))] := hD
  refine lv_aload_n hx hb dX10_runs_5 rfl (lv_at hl 0 rfl) ?_
  refine lv_iload_n hx hb dX10_runs_6 rfl (lv_at hl 1 rfl) ?_
  obtain ⟨o_780, hr_780, h⟩ := ob h
  refine vp_callSi (va_Run.run (va_runV (As := [.int x1]) (rest := []) ⟨hx, hb, hml, hown, hts⟩ (c_X10_isColumn l dC dI cB cC cI cJ cZ cT h0 q_now q_text q_row q_read q_ranks q_distinct q_proper q_line q_order q_then q_bestOrder q_lineThen q_undos q_was q_kept q_isKept v_typed v_rowMany (0 : Int32) v_length v_at v_wrong v_properMany v_orderMany v_undoMany v_drawn v_now x1 o_780 hr_780) (cwV 1 hts gX10_runs_X10_isColumn rfl rfl rfl (by decide +kernel) ⟨Nat.le_of_ble_eq_true rfl, Nat.le_of_ble_eq_true rfl⟩) ⟨blR, va_recv hK hP (ci := 8) (q0 := 0) rfl rfl, fun U hU hW => ⟨rfl, by rw [hU]; exact hP.sub [0, 1] rfl, va_K.moved hW.alike hK⟩⟩ rfl rfl hl.1 rfl (lv_room (Nat.le_of_ble_eq_true rfl)) dX10_runs_7 ⟨Nat.le_of_ble_eq_true rfl, Nat.le_of_ble_eq_true rfl⟩)) (fun r_780 e_780 => ?_)
  subst e_780
  refine lv_if_ne (tgt := 15) hx hb dX10_runs_10 (by decide) (fun c_782 => ?_) (fun c_782 => ?_)
  · replace h := on c_782 h
    refine lv_aload_n hx hb dX10_runs_15 rfl (lv_at hl 0 rfl) ?_
    refine lv_iload_n hx hb dX10_runs_16 rfl (lv_at hl 1 rfl) ?_
    obtain ⟨o_783, hr_783, h⟩ := ob h
    refine vp_callSi (va_Run.run (va_runV (As := [.int x1]) (rest := []) ⟨hx, hb, hml, hown, hts⟩ (c_X10_isProper l dC dI cB cC cI cJ cZ cT h0 q_now q_text q_row q_read q_ranks q_distinct q_proper q_line q_order q_then q_bestOrder q_lineThen q_undos q_was q_kept q_isKept v_typed v_rowMany (0 : Int32) v_length v_at v_wrong v_properMany v_orderMany v_undoMany v_drawn v_now x1 o_783 hr_783) (cwV 1 hts gX10_runs_X10_isProper rfl rfl rfl (by decide +kernel) ⟨Nat.le_of_ble_eq_true rfl, Nat.le_of_ble_eq_true rfl⟩) ⟨blR, va_recv hK hP (ci := 8) (q0 := 0) rfl rfl, fun U hU hW => ⟨rfl, by rw [hU]; exact hP.sub [0, 1] rfl, va_K.moved hW.alike hK⟩⟩ rfl rfl hl.1 rfl (lv_room (Nat.le_of_ble_eq_true rfl)) dX10_runs_17 ⟨Nat.le_of_ble_eq_true rfl, Nat.le_of_ble_eq_true rfl⟩)) (fun r_783 e_783 => ?_)
    subst e_783
    refine lv_if_ne (tgt := 26) hx hb dX10_runs_20 (by decide) (fun c_785 => ?_) (fun c_785 => ?_)
    · replace h := on c_785 h
      refine lv_aload_n hx hb dX10_runs_26 rfl (lv_at hl 0 rfl) ?_
      obtain ⟨o_786, hr_786, h⟩ := ob h
      have hPc := hP.sub (ws' := [(h0, .inr (8, [.ref q_now, .ref q_text, .int v_typed, .ref q_row, .int v_rowMany, .int (0 : Int32), .int v_length, .int v_at, .int v_wrong, .ref q_read, .ref q_ranks, .ref q_distinct, .ref q_proper, .int v_properMany, .ref q_line, .ref q_order, .int v_orderMany, .ref q_then, .ref q_bestOrder, .ref q_lineThen, .ref q_undos, .ref q_was, .int v_undoMany, .int v_drawn, .ref q_kept, .ref q_isKept])), (q_now, .inl (cJ, 120, .inr (.inl v_now))), (q_ranks, .inl (cI, 96, .inl v_ranks)), (q_distinct, .inl (cI, 6, .inl v_distinct)), (q_proper, .inl (cI, 6, .inl v_proper)), (q_line, .inl (cI, 16, .inl v_line))]) [0, 1, 3, 4, 5, 6] rfl
      have hDc := hD.sub (ws' := [(h0, .inr (8, [.ref q_now, .ref q_text, .int v_typed, .ref q_row, .int v_rowMany, .int (0 : Int32), .int v_length, .int v_at, .int v_wrong, .ref q_read, .ref q_ranks, .ref q_distinct, .ref q_proper, .int v_properMany, .ref q_line, .ref q_order, .int v_orderMany, .ref q_then, .ref q_bestOrder, .ref q_lineThen, .ref q_undos, .ref q_was, .int v_undoMany, .int v_drawn, .ref q_kept, .ref q_isKept])), (q_now, .inl (cJ, 120, .inr (.inl v_now))), (q_ranks, .inl (cI, 96, .inl v_ranks)), (q_distinct, .inl (cI, 6, .inl v_distinct)), (q_proper, .inl (cI, 6, .inl v_proper)), (q_line, .inl (cI, 16, .inl v_line))]) [0, 1, 3, 4, 5, 6] (by decide) rfl
      have hFc := va_free (wc := [(h0, .inr (8, [.ref q_now, .ref q_text, .int v_typed, .ref q_row, .int v_rowMany, .int (0 : Int32), .int v_length, .int v_at, .int v_wrong, .ref q_read, .ref q_ranks, .ref q_distinct, .ref q_proper, .int v_properMany, .ref q_line, .ref q_order, .int v_orderMany, .ref q_then, .ref q_bestOrder, .ref q_lineThen, .ref q_undos, .ref q_was, .int v_undoMany, .int v_drawn, .ref q_kept, .ref q_isKept])), (q_now, .inl (cJ, 120, .inr (.inl v_now))), (q_ranks, .inl (cI, 96, .inl v_ranks)), (q_distinct, .inl (cI, 6, .inl v_distinct)), (q_proper, .inl (cI, 6, .inl v_proper)), (q_line, .inl (cI, 16, .inl v_line))]) hD hS hA [0, 1, 3, 4, 5, 6] rfl
      refine va_callv (va_runV (As := []) (rest := []) ⟨hx, hb, hml, hown, hts⟩ (c_X10_layLine l dC dI cB cC cI cJ cZ cT h0 q_now q_text q_row q_read q_ranks q_distinct q_proper q_line q_order q_then q_bestOrder q_lineThen q_undos q_was q_kept q_isKept H.size v_typed v_rowMany (0 : Int32) v_length v_at v_wrong v_properMany v_orderMany v_undoMany v_drawn v_now v_ranks v_distinct v_proper v_line o_786 hr_786) (cwV 0 hts gX10_runs_X10_layLine rfl rfl rfl (by decide +kernel) ⟨Nat.le_of_ble_eq_true rfl, Nat.le_of_ble_eq_true rfl⟩) ⟨blW, va_recv hK hP (ci := 8) (q0 := 0) rfl rfl, fun U hU hW => ⟨rfl, by rw [hU], by rw [hU]; exact hPc, va_K.moved hW.alike hK, hDc.weaken (fun _ _ _ _ => trivial)⟩⟩ rfl rfl hl.1 rfl (lv_room (Nat.le_of_ble_eq_true rfl)) dX10_runs_27 ⟨Nat.le_of_ble_eq_true rfl, Nat.le_of_ble_eq_true rfl⟩) hS (fun q _ h => hFc q h) hFc (fun u_786 t_786 H locs ht hvm e_786 hB hz1 hk1 hS => ?_)
      obtain ⟨hP1, -, hD1⟩ := hB
      rw [ht] at hP1
      obtain ⟨hP, hD⟩ := va_join (wr := [(q_row, .inl (cJ, 64, .inr (.inl v_row)))]) (w1 := [(h0, .inr (8, [.ref q_now, .ref q_text, .int v_typed, .ref q_row, .int v_rowMany, .int (0 : Int32), .int v_length, .int v_at, .int v_wrong, .ref q_read, .ref q_ranks, .ref q_distinct, .ref q_proper, .int o_786.1, .ref q_line, .ref q_order, .int v_orderMany, .ref q_then, .ref q_bestOrder, .ref q_lineThen, .ref q_undos, .ref q_was, .int v_undoMany, .int v_drawn, .ref q_kept, .ref q_isKept])), (q_now, .inl (cJ, 120, .inr (.inl v_now))), (q_ranks, .inl (cI, 96, .inl o_786.2.1)), (q_distinct, .inl (cI, 6, .inl o_786.2.2.1)), (q_proper, .inl (cI, 6, .inl o_786.2.2.2.1)), (q_line, .inl (cI, 16, .inl o_786.2.2.2.2))]) hP hD [0, 1, 3, 4, 5, 6] [2] rfl rfl (by decide) (by decide) hk1 hFc hP1 hD1
      replace hP := hP.sub (ws' := [(h0, .inr (8, [.ref q_now, .ref q_text, .int v_typed, .ref q_row, .int v_rowMany, .int (0 : Int32), .int v_length, .int v_at, .int v_wrong, .ref q_read, .ref q_ranks, .ref q_distinct, .ref q_proper, .int o_786.1, .ref q_line, .ref q_order, .int v_orderMany, .ref q_then, .ref q_bestOrder, .ref q_lineThen, .ref q_undos, .ref q_was, .int v_undoMany, .int v_drawn, .ref q_kept, .ref q_isKept])), (q_now, .inl (cJ, 120, .inr (.inl v_now))), (q_row, .inl (cJ, 64, .inr (.inl v_row))), (q_ranks, .inl (cI, 96, .inl o_786.2.1)), (q_distinct, .inl (cI, 6, .inl o_786.2.2.1)), (q_proper, .inl (cI, 6, .inl o_786.2.2.2.1)), (q_line, .inl (cI, 16, .inl o_786.2.2.2.2))]) [1, 2, 0, 3, 4, 5, 6] rfl
      replace hD := hD.sub (ws' := [(h0, .inr (8, [.ref q_now, .ref q_text, .int v_typed, .ref q_row, .int v_rowMany, .int (0 : Int32), .int v_length, .int v_at, .int v_wrong, .ref q_read, .ref q_ranks, .ref q_distinct, .ref q_proper, .int o_786.1, .ref q_line, .ref q_order, .int v_orderMany, .ref q_then, .ref q_bestOrder, .ref q_lineThen, .ref q_undos, .ref q_was, .int v_undoMany, .int v_drawn, .ref q_kept, .ref q_isKept])), (q_now, .inl (cJ, 120, .inr (.inl v_now))), (q_row, .inl (cJ, 64, .inr (.inl v_row))), (q_ranks, .inl (cI, 96, .inl o_786.2.1)), (q_distinct, .inl (cI, 6, .inl o_786.2.2.1)), (q_proper, .inl (cI, 6, .inl o_786.2.2.2.1)), (q_line, .inl (cI, 16, .inl o_786.2.2.2.2))]) [1, 2, 0, 3, 4, 5, 6] (by decide) rfl
      refine lv_iconst (v := 0) hx hb dX10_runs_30 (by decide) ?_
      refine lv_istore_n (lv' := [(2, .int (0 : Int32)), (0, .ref h0), (1, .int x1)]) hx hb dX10_runs_31 rfl hl (by decide) rfl (fun ls hl => ?_)
      refine lv_iconst (v := -1) hx hb dX10_runs_32 (by decide) ?_
      refine lv_istore_n (lv' := [(3, .int (-1 : Int32)), (2, .int (0 : Int32)), (0, .ref h0), (1, .int x1)]) hx hb dX10_runs_33 rfl hl (by decide) rfl (fun ls hl => ?_)
      refine lv_iconst (v := 0) hx hb dX10_runs_34 (by decide) ?_
      refine lv_istore (lv' := [(4, .int (0 : Int32)), (3, .int (-1 : Int32)), (2, .int (0 : Int32)), (0, .ref h0), (1, .int x1)]) hx hb dX10_runs_35 hl (by decide) rfl (fun ls hl => ?_)
      refine lv_iconst (v := 0) hx hb dX10_runs_37 (by decide) ?_
      refine lv_istore (lv' := [(5, .int (0 : Int32)), (4, .int (0 : Int32)), (3, .int (-1 : Int32)), (2, .int (0 : Int32)), (0, .ref h0), (1, .int x1)]) hx hb dX10_runs_38 hl (by decide) rfl (fun ls hl => ?_)
      have LP_809 : ∀ (n : Nat) (x2_40 : Int32) (x3_40 : Int32) (x4_40 : Int32) (x5_40 : Int32) (w : (Int32 × Int32)) (H : Heap) (locs : List Loc) (ls : Array Slot), L_X10_runs_40 v_now x1 n x2_40 x3_40 x4_40 x5_40 = some w → va_P (dC, dI) vwCl [(h0, .inr (8, [.ref q_now, .ref q_text, .int v_typed, .ref q_row, .int v_rowMany, .int (0 : Int32), .int v_length, .int v_at, .int v_wrong, .ref q_read, .ref q_ranks, .ref q_distinct, .ref q_proper, .int o_786.1, .ref q_line, .ref q_order, .int v_orderMany, .ref q_then, .ref q_bestOrder, .ref q_lineThen, .ref q_undos, .ref q_was, .int v_undoMany, .int v_drawn, .ref q_kept, .ref q_isKept])), (q_now, .inl (cJ, 120, .inr (.inl v_now))), (q_row, .inl (cJ, 64, .inr (.inl v_row))), (q_ranks, .inl (cI, 96, .inl o_786.2.1)), (q_distinct, .inl (cI, 6, .inl o_786.2.2.1)), (q_proper, .inl (cI, 6, .inl o_786.2.2.2.1)), (q_line, .inl (cI, 16, .inl o_786.2.2.2.2))] H → va_D A [(h0, .inr (8, [.ref q_now, .ref q_text, .int v_typed, .ref q_row, .int v_rowMany, .int (0 : Int32), .int v_length, .int v_at, .int v_wrong, .ref q_read, .ref q_ranks, .ref q_distinct, .ref q_proper, .int o_786.1, .ref q_line, .ref q_order, .int v_orderMany, .ref q_then, .ref q_bestOrder, .ref q_lineThen, .ref q_undos, .ref q_was, .int v_undoMany, .int v_drawn, .ref q_kept, .ref q_isKept])), (q_now, .inl (cJ, 120, .inr (.inl v_now))), (q_row, .inl (cJ, 64, .inr (.inl v_row))), (q_ranks, .inl (cI, 96, .inl o_786.2.1)), (q_distinct, .inl (cI, 6, .inl o_786.2.2.1)), (q_proper, .inl (cI, 6, .inl o_786.2.2.2.1)), (q_line, .inl (cI, 16, .inl o_786.2.2.2.2))] → va_S A s.heap H locs → lv_has ls 6 [(0, .ref h0), (1, .int x1), (2, .int x2_40), (3, .int x3_40), (4, .int x4_40), (5, .int x5_40)] → (∀ (H : Heap) (locs : List Loc) (ls : Array Slot), va_P (dC, dI) vwCl [(h0, .inr (8, [.ref q_now, .ref q_text, .int v_typed, .ref q_row, .int v_rowMany, .int (0 : Int32), .int v_length, .int v_at, .int v_wrong, .ref q_read, .ref q_ranks, .ref q_distinct, .ref q_proper, .int o_786.1, .ref q_line, .ref q_order, .int v_orderMany, .ref q_then, .ref q_bestOrder, .ref q_lineThen, .ref q_undos, .ref q_was, .int v_undoMany, .int v_drawn, .ref q_kept, .ref q_isKept])), (q_now, .inl (cJ, 120, .inr (.inl v_now))), (q_row, .inl (cJ, 64, .inr (.inl v_row))), (q_ranks, .inl (cI, 96, .inl o_786.2.1)), (q_distinct, .inl (cI, 6, .inl o_786.2.2.1)), (q_proper, .inl (cI, 6, .inl o_786.2.2.2.1)), (q_line, .inl (cI, 16, .inl o_786.2.2.2.2))] H → va_D A [(h0, .inr (8, [.ref q_now, .ref q_text, .int v_typed, .ref q_row, .int v_rowMany, .int (0 : Int32), .int v_length, .int v_at, .int v_wrong, .ref q_read, .ref q_ranks, .ref q_distinct, .ref q_proper, .int o_786.1, .ref q_line, .ref q_order, .int v_orderMany, .ref q_then, .ref q_bestOrder, .ref q_lineThen, .ref q_undos, .ref q_was, .int v_undoMany, .int v_drawn, .ref q_kept, .ref q_isKept])), (q_now, .inl (cJ, 120, .inr (.inl v_now))), (q_row, .inl (cJ, 64, .inr (.inl v_row))), (q_ranks, .inl (cI, 96, .inl o_786.2.1)), (q_distinct, .inl (cI, 6, .inl o_786.2.2.1)), (q_proper, .inl (cI, 6, .inl o_786.2.2.2.1)), (q_line, .inl (cI, 16, .inl o_786.2.2.2.2))] → va_S A s.heap H locs → lv_has ls 6 [(0, .ref h0), (1, .int x1), (2, .int w.1), (3, .int w.2)] → W p l e rm_X10_runs s m args below meth c H locs 0 0 QQ (F0 m 110 ls [])) → W p l e rm_X10_runs s m args below meth c H locs 0 0 QQ (F0 m 40 ls []) := by
        intro n
        induction n with
        | zero => intro x2_40 x3_40 x4_40 x5_40 w H locs ls h; exact absurd (show none = some w from h) nofun
        | succ n ih =>
          intro x2_40 x3_40 x4_40 x5_40 w H locs ls h hP hD hS hl K
          rw [L_X10_runs_40] at h
          refine lv_iload hx hb dX10_runs_40 (lv_at hl 5 rfl) ?_
          refine lv_aload_n hx hb dX10_runs_42 rfl (lv_at hl 0 rfl) ?_
          obtain ⟨o_788, hr_788, h⟩ := ob h
          refine vp_callSi (va_Run.run (va_runV (As := []) (rest := [.int x5_40]) ⟨hx, hb, hml, hown, hts⟩ (c_X10_rows l dC dI cB cC cI cJ cZ cT h0 q_now q_text q_row q_read q_ranks q_distinct q_proper q_line q_order q_then q_bestOrder q_lineThen q_undos q_was q_kept q_isKept v_typed v_rowMany (0 : Int32) v_length v_at v_wrong o_786.1 v_orderMany v_undoMany v_drawn v_now o_788 hr_788) (cwV 0 hts gX10_runs_X10_rows rfl rfl rfl (by decide +kernel) ⟨Nat.le_of_ble_eq_true rfl, Nat.le_of_ble_eq_true rfl⟩) ⟨blR, va_recv hK hP (ci := 8) (q0 := 0) rfl rfl, fun U hU hW => ⟨rfl, by rw [hU]; exact hP.sub [0, 1] rfl, va_K.moved hW.alike hK⟩⟩ rfl rfl hl.1 rfl (lv_room (Nat.le_of_ble_eq_true rfl)) dX10_runs_43 ⟨Nat.le_of_ble_eq_true rfl, Nat.le_of_ble_eq_true rfl⟩)) (fun r_788 e_788 => ?_)
          subst e_788
          refine lv_icmp_ge (tgt := 110) hx hb dX10_runs_46 (by decide) (fun c_790 => ?_) (fun c_790 => ?_)
          · replace h := op c_790 h
            have ho := Option.some.inj h
            subst ho
            exact K H _ ls hP hD hS (lv_sub hl [0, 1, 2, 3] rfl)
          · replace h := on c_790 h
            refine lv_iload hx hb dX10_runs_49 (lv_at hl 5 rfl) ?_
            obtain ⟨v_791, hv_791, h⟩ := ob h
            have J_791 : ∀ (H : Heap) (locs : List Loc) (ls : Array Slot), va_P (dC, dI) vwCl [(h0, .inr (8, [.ref q_now, .ref q_text, .int v_typed, .ref q_row, .int v_rowMany, .int (0 : Int32), .int v_length, .int v_at, .int v_wrong, .ref q_read, .ref q_ranks, .ref q_distinct, .ref q_proper, .int o_786.1, .ref q_line, .ref q_order, .int v_orderMany, .ref q_then, .ref q_bestOrder, .ref q_lineThen, .ref q_undos, .ref q_was, .int v_undoMany, .int v_drawn, .ref q_kept, .ref q_isKept])), (q_now, .inl (cJ, 120, .inr (.inl v_now))), (q_row, .inl (cJ, 64, .inr (.inl v_row))), (q_ranks, .inl (cI, 96, .inl o_786.2.1)), (q_distinct, .inl (cI, 6, .inl o_786.2.2.1)), (q_proper, .inl (cI, 6, .inl o_786.2.2.2.1)), (q_line, .inl (cI, 16, .inl o_786.2.2.2.2))] H → va_D A [(h0, .inr (8, [.ref q_now, .ref q_text, .int v_typed, .ref q_row, .int v_rowMany, .int (0 : Int32), .int v_length, .int v_at, .int v_wrong, .ref q_read, .ref q_ranks, .ref q_distinct, .ref q_proper, .int o_786.1, .ref q_line, .ref q_order, .int v_orderMany, .ref q_then, .ref q_bestOrder, .ref q_lineThen, .ref q_undos, .ref q_was, .int v_undoMany, .int v_drawn, .ref q_kept, .ref q_isKept])), (q_now, .inl (cJ, 120, .inr (.inl v_now))), (q_row, .inl (cJ, 64, .inr (.inl v_row))), (q_ranks, .inl (cI, 96, .inl o_786.2.1)), (q_distinct, .inl (cI, 6, .inl o_786.2.2.1)), (q_proper, .inl (cI, 6, .inl o_786.2.2.2.1)), (q_line, .inl (cI, 16, .inl o_786.2.2.2.2))] → va_S A s.heap H locs → lv_has ls 6 [(0, .ref h0), (1, .int x1), (2, .int x2_40), (3, .int x3_40), (5, .int x5_40)] → W p l e rm_X10_runs s m args below meth c H locs 0 0 QQ (F0 m 82 ls [.int v_791]) := by
              intro H locs ls hP hD hS hl
              refine lv_istore (lv' := [(4, .int v_791), (0, .ref h0), (1, .int x1), (2, .int x2_40), (3, .int x3_40), (5, .int x5_40)]) hx hb dX10_runs_82 hl (by decide) rfl (fun ls hl => ?_)
              refine lv_iload hx hb dX10_runs_84 (lv_at hl 0 rfl) ?_
              refine lv_iload_n hx hb dX10_runs_86 rfl (lv_at hl 3 rfl) ?_
              refine lv_icmp_gt (tgt := 93) hx hb dX10_runs_87 (by decide) (fun c_808 => ?_) (fun c_808 => ?_)
              · replace h := op c_808 h
                refine lv_iload hx hb dX10_runs_93 (lv_at hl 0 rfl) ?_
                refine lv_istore_n (lv' := [(2, .int v_791), (4, .int v_791), (0, .ref h0), (1, .int x1), (3, .int x3_40), (5, .int x5_40)]) hx hb dX10_runs_95 rfl hl (by decide) rfl (fun ls hl => ?_)
                refine lv_iload hx hb dX10_runs_96 (lv_at hl 5 rfl) ?_
                refine lv_iconst (v := 1) hx hb dX10_runs_98 (by decide) ?_
                refine lv_iadd hx hb dX10_runs_99 ?_
                refine lv_iload hx hb dX10_runs_100 (lv_at hl 1 rfl) ?_
                refine lv_isub hx hb dX10_runs_102 ?_
                refine lv_istore_n (lv' := [(3, .int ((x5_40 + (1 : Int32)) - v_791)), (2, .int v_791), (4, .int v_791), (0, .ref h0), (1, .int x1), (5, .int x5_40)]) hx hb dX10_runs_103 rfl hl (by decide) rfl (fun ls hl => ?_)
                refine lv_iinc (v := (x5_40 + 1)) (lv' := [(5, .int (x5_40 + 1)), (3, .int ((x5_40 + (1 : Int32)) - v_791)), (2, .int v_791), (4, .int v_791), (0, .ref h0), (1, .int x1)]) hx hb dX10_runs_104 hl (k := 5) rfl (by rfl) (by decide) rfl (fun ls hl => ?_)
                refine lv_goto (tgt := 40) hx hb dX10_runs_107 (by decide) ?_
                exact ih v_791 ((x5_40 + (1 : Int32)) - v_791) v_791 (x5_40 + 1) w H _ ls h hP hD hS (lv_sub hl [4, 5, 2, 1, 3, 0] rfl) K
              · replace h := on c_808 h
                refine lv_goto (tgt := 104) hx hb dX10_runs_90 (by decide) ?_
                refine lv_iinc (v := (x5_40 + 1)) (lv' := [(5, .int (x5_40 + 1)), (4, .int v_791), (0, .ref h0), (1, .int x1), (2, .int x2_40), (3, .int x3_40)]) hx hb dX10_runs_104 hl (k := 5) rfl (by rfl) (by decide) rfl (fun ls hl => ?_)
                refine lv_goto (tgt := 40) hx hb dX10_runs_107 (by decide) ?_
                exact ih x2_40 x3_40 v_791 (x5_40 + 1) w H _ ls h hP hD hS (lv_sub hl [2, 3, 4, 5, 1, 0] rfl) K
            replace h := hv_791
            refine lv_if_le (tgt := 81) hx hb dX10_runs_51 (by decide) (fun c_800 => ?_) (fun c_800 => ?_)
            · replace h := op c_800 h
              refine lv_iconst (v := 1) hx hb dX10_runs_81 (by decide) ?_
              have ho := Option.some.inj h
              subst ho
              exact J_791 H _ ls hP hD hS (lv_sub hl [0, 1, 2, 3, 5] rfl)
            · replace h := on c_800 h
              refine lv_aload_n hx hb dX10_runs_54 rfl (lv_at hl 0 rfl) ?_
              refine lv_iload_n hx hb dX10_runs_55 rfl (lv_at hl 1 rfl) ?_
              refine lv_iload hx hb dX10_runs_56 (lv_at hl 5 rfl) ?_
              obtain ⟨o_801, hr_801, h⟩ := ob h
              refine vp_callSl (va_Run.run (va_runV (As := [.int x1, .int x5_40]) (rest := []) ⟨hx, hb, hml, hown, hts⟩ (c_X10_cell l dC dI cB cC cI cJ cZ cT h0 q_now q_text q_row q_read q_ranks q_distinct q_proper q_line q_order q_then q_bestOrder q_lineThen q_undos q_was q_kept q_isKept v_typed v_rowMany (0 : Int32) v_length v_at v_wrong o_786.1 v_orderMany v_undoMany v_drawn v_now x1 x5_40 o_801 hr_801) (cwV 2 hts gX10_runs_X10_cell rfl rfl rfl (by decide +kernel) ⟨Nat.le_of_ble_eq_true rfl, Nat.le_of_ble_eq_true rfl⟩) ⟨blR, va_recv hK hP (ci := 8) (q0 := 0) rfl rfl, fun U hU hW => ⟨rfl, by rw [hU]; exact hP.sub [0, 1] rfl, va_K.moved hW.alike hK⟩⟩ rfl rfl hl.1 rfl (lv_room (Nat.le_of_ble_eq_true rfl)) dX10_runs_58 ⟨Nat.le_of_ble_eq_true rfl, Nat.le_of_ble_eq_true rfl⟩)) (fun r_801 e_801 => ?_)
              subst e_801
              refine lv_aload_n hx hb dX10_runs_61 rfl (lv_at hl 0 rfl) ?_
              refine lv_iload_n hx hb dX10_runs_62 rfl (lv_at hl 1 rfl) ?_
              refine lv_iload hx hb dX10_runs_63 (lv_at hl 5 rfl) ?_
              refine lv_iconst (v := 1) hx hb dX10_runs_65 (by decide) ?_
              refine lv_isub hx hb dX10_runs_66 ?_
              obtain ⟨o_803, hr_803, h⟩ := ob h
              refine vp_callSl (va_Run.run (va_runV (As := [.int x1, .int (x5_40 - (1 : Int32))]) (rest := [.long o_801]) ⟨hx, hb, hml, hown, hts⟩ (c_X10_cell l dC dI cB cC cI cJ cZ cT h0 q_now q_text q_row q_read q_ranks q_distinct q_proper q_line q_order q_then q_bestOrder q_lineThen q_undos q_was q_kept q_isKept v_typed v_rowMany (0 : Int32) v_length v_at v_wrong o_786.1 v_orderMany v_undoMany v_drawn v_now x1 (x5_40 - (1 : Int32)) o_803 hr_803) (cwV 2 hts gX10_runs_X10_cell rfl rfl rfl (by decide +kernel) ⟨Nat.le_of_ble_eq_true rfl, Nat.le_of_ble_eq_true rfl⟩) ⟨blR, va_recv hK hP (ci := 8) (q0 := 0) rfl rfl, fun U hU hW => ⟨rfl, by rw [hU]; exact hP.sub [0, 1] rfl, va_K.moved hW.alike hK⟩⟩ rfl rfl hl.1 rfl (lv_room (Nat.le_of_ble_eq_true rfl)) dX10_runs_67 ⟨Nat.le_of_ble_eq_true rfl, Nat.le_of_ble_eq_true rfl⟩)) (fun r_803 e_803 => ?_)
              subst e_803
              refine W.lcmp hx hb dX10_runs_70 ?_
              obtain ⟨v_805, hv_805, h⟩ := ob h
              have J_805 : ∀ (H : Heap) (locs : List Loc) (ls : Array Slot), va_P (dC, dI) vwCl [(h0, .inr (8, [.ref q_now, .ref q_text, .int v_typed, .ref q_row, .int v_rowMany, .int (0 : Int32), .int v_length, .int v_at, .int v_wrong, .ref q_read, .ref q_ranks, .ref q_distinct, .ref q_proper, .int o_786.1, .ref q_line, .ref q_order, .int v_orderMany, .ref q_then, .ref q_bestOrder, .ref q_lineThen, .ref q_undos, .ref q_was, .int v_undoMany, .int v_drawn, .ref q_kept, .ref q_isKept])), (q_now, .inl (cJ, 120, .inr (.inl v_now))), (q_row, .inl (cJ, 64, .inr (.inl v_row))), (q_ranks, .inl (cI, 96, .inl o_786.2.1)), (q_distinct, .inl (cI, 6, .inl o_786.2.2.1)), (q_proper, .inl (cI, 6, .inl o_786.2.2.2.1)), (q_line, .inl (cI, 16, .inl o_786.2.2.2.2))] H → va_D A [(h0, .inr (8, [.ref q_now, .ref q_text, .int v_typed, .ref q_row, .int v_rowMany, .int (0 : Int32), .int v_length, .int v_at, .int v_wrong, .ref q_read, .ref q_ranks, .ref q_distinct, .ref q_proper, .int o_786.1, .ref q_line, .ref q_order, .int v_orderMany, .ref q_then, .ref q_bestOrder, .ref q_lineThen, .ref q_undos, .ref q_was, .int v_undoMany, .int v_drawn, .ref q_kept, .ref q_isKept])), (q_now, .inl (cJ, 120, .inr (.inl v_now))), (q_row, .inl (cJ, 64, .inr (.inl v_row))), (q_ranks, .inl (cI, 96, .inl o_786.2.1)), (q_distinct, .inl (cI, 6, .inl o_786.2.2.1)), (q_proper, .inl (cI, 6, .inl o_786.2.2.2.1)), (q_line, .inl (cI, 16, .inl o_786.2.2.2.2))] → va_S A s.heap H locs → lv_has ls 6 [(0, .ref h0), (1, .int x1), (2, .int x2_40), (3, .int x3_40), (5, .int x5_40)] → W p l e rm_X10_runs s m args below meth c H locs 0 0 QQ (F0 m 82 ls [.int v_805]) := by
                intro H locs ls hP hD hS hl
                have ho := Option.some.inj h
                subst ho
                exact J_791 H _ ls hP hD hS (lv_sub hl [0, 1, 2, 3, 4] rfl)
              replace h := hv_805
              refine lv_if_ne (tgt := 81) hx hb dX10_runs_71 (by decide) (fun c_807 => ?_) (fun c_807 => ?_)
              · replace h := on c_807 h
                refine lv_iconst (v := 1) hx hb dX10_runs_81 (by decide) ?_
                have ho := Option.some.inj h
                subst ho
                exact J_805 H _ ls hP hD hS (lv_sub hl [0, 1, 2, 3, 5] rfl)
              · replace h := op c_807 h
                refine lv_iload hx hb dX10_runs_74 (lv_at hl 4 rfl) ?_
                refine lv_iconst (v := 1) hx hb dX10_runs_76 (by decide) ?_
                refine lv_iadd hx hb dX10_runs_77 ?_
                refine lv_goto (tgt := 82) hx hb dX10_runs_78 (by decide) ?_
                have ho := Option.some.inj h
                subst ho
                exact J_805 H _ ls hP hD hS (lv_sub hl [0, 1, 2, 3, 5] rfl)
      obtain ⟨w_809, hw_809, h⟩ := ob h
      refine LP_809 fu (0 : Int32) (-1 : Int32) (0 : Int32) (0 : Int32) w_809 H _ ls hw_809 hP hD hS (lv_sub hl [4, 5, 3, 2, 1, 0] rfl) (fun H locs ls hP hD hS hl => ?_)
      refine lv_aload_n hx hb dX10_runs_110 rfl (lv_at hl 0 rfl) ?_
      refine lv_iconst (v := 0) hx hb dX10_runs_111 (by decide) ?_
      refine va_put (D := (dC, dI)) (ci := 8) (v := .int (0 : Int32)) (ty := .int) (C := RX10) (T := TX10) (N := 26) hx hb hts hi_X10 tyX10 tyX10_ok nmX10 hown hK hP hD hS 0 rfl rfl 4 (by decide) (hts _ (List.mem_of_getElem? (i := 2) rfl)) (fun _ h9 => h9) rfl (by decide +kernel) rfl rfl (Nat.le_of_ble_eq_true rfl) dX10_runs_112 (fun H locs hP hD hS => ?_)
      replace hP : va_P (dC, dI) vwCl [(h0, .inr (8, [.ref q_now, .ref q_text, .int v_typed, .ref q_row, .int (0 : Int32), .int (0 : Int32), .int v_length, .int v_at, .int v_wrong, .ref q_read, .ref q_ranks, .ref q_distinct, .ref q_proper, .int o_786.1, .ref q_line, .ref q_order, .int v_orderMany, .ref q_then, .ref q_bestOrder, .ref q_lineThen, .ref q_undos, .ref q_was, .int v_undoMany, .int v_drawn, .ref q_kept, .ref q_isKept])), (q_now, .inl (cJ, 120, .inr (.inl v_now))), (q_row, .inl (cJ, 64, .inr (.inl v_row))), (q_ranks, .inl (cI, 96, .inl o_786.2.1)), (q_distinct, .inl (cI, 6, .inl o_786.2.2.1)), (q_proper, .inl (cI, 6, .inl o_786.2.2.2.1)), (q_line, .inl (cI, 16, .inl o_786.2.2.2.2))] H := hP
      replace hD : va_D A [(h0, .inr (8, [.ref q_now, .ref q_text, .int v_typed, .ref q_row, .int (0 : Int32), .int (0 : Int32), .int v_length, .int v_at, .int v_wrong, .ref q_read, .ref q_ranks, .ref q_distinct, .ref q_proper, .int o_786.1, .ref q_line, .ref q_order, .int v_orderMany, .ref q_then, .ref q_bestOrder, .ref q_lineThen, .ref q_undos, .ref q_was, .int v_undoMany, .int v_drawn, .ref q_kept, .ref q_isKept])), (q_now, .inl (cJ, 120, .inr (.inl v_now))), (q_row, .inl (cJ, 64, .inr (.inl v_row))), (q_ranks, .inl (cI, 96, .inl o_786.2.1)), (q_distinct, .inl (cI, 6, .inl o_786.2.2.1)), (q_proper, .inl (cI, 6, .inl o_786.2.2.2.1)), (q_line, .inl (cI, 16, .inl o_786.2.2.2.2))] := hD
      refine lv_aload_n hx hb dX10_runs_115 rfl (lv_at hl 0 rfl) ?_
      refine lv_aload_n hx hb dX10_runs_116 rfl (lv_at hl 0 rfl) ?_
      refine va_get (D := (dC, dI)) (ci := 8) (v := .ref q_distinct) (C := RX10) (T := TX10) (N := 26) hx hb hts hi_X10 hown hK hP 0 rfl rfl 11 (by decide) (hts _ (List.mem_of_getElem? (i := 3) rfl)) (fun _ h9 => h9) rfl dX10_runs_117 ?_
      refine lv_iload_n hx hb dX10_runs_120 rfl (lv_at hl 1 rfl) ?_
      obtain ⟨hi_810, h⟩ := og h
      refine va_iald hx hb hK hP 4 0 rfl rfl hi_810 dX10_runs_121 ?_
      refine lv_i2l (v := (o_786.2.2.1 (x1).toNatClampNeg).toInt64) hx hb dX10_runs_122 rfl ?_
      obtain ⟨o_811, hr_811, h⟩ := ob h
      have hPc := hP.sub (ws' := [(h0, .inr (8, [.ref q_now, .ref q_text, .int v_typed, .ref q_row, .int (0 : Int32), .int (0 : Int32), .int v_length, .int v_at, .int v_wrong, .ref q_read, .ref q_ranks, .ref q_distinct, .ref q_proper, .int o_786.1, .ref q_line, .ref q_order, .int v_orderMany, .ref q_then, .ref q_bestOrder, .ref q_lineThen, .ref q_undos, .ref q_was, .int v_undoMany, .int v_drawn, .ref q_kept, .ref q_isKept])), (q_row, .inl (cJ, 64, .inr (.inl v_row)))]) [0, 2] rfl
      have hDc := hD.sub (ws' := [(h0, .inr (8, [.ref q_now, .ref q_text, .int v_typed, .ref q_row, .int (0 : Int32), .int (0 : Int32), .int v_length, .int v_at, .int v_wrong, .ref q_read, .ref q_ranks, .ref q_distinct, .ref q_proper, .int o_786.1, .ref q_line, .ref q_order, .int v_orderMany, .ref q_then, .ref q_bestOrder, .ref q_lineThen, .ref q_undos, .ref q_was, .int v_undoMany, .int v_drawn, .ref q_kept, .ref q_isKept])), (q_row, .inl (cJ, 64, .inr (.inl v_row)))]) [0, 2] (by decide) rfl
      have hFc := va_free (wc := [(h0, .inr (8, [.ref q_now, .ref q_text, .int v_typed, .ref q_row, .int (0 : Int32), .int (0 : Int32), .int v_length, .int v_at, .int v_wrong, .ref q_read, .ref q_ranks, .ref q_distinct, .ref q_proper, .int o_786.1, .ref q_line, .ref q_order, .int v_orderMany, .ref q_then, .ref q_bestOrder, .ref q_lineThen, .ref q_undos, .ref q_was, .int v_undoMany, .int v_drawn, .ref q_kept, .ref q_isKept])), (q_row, .inl (cJ, 64, .inr (.inl v_row)))]) hD hS hA [0, 2] rfl
      refine va_callv (va_runV (As := [.long (o_786.2.2.1 (x1).toNatClampNeg).toInt64]) (rest := []) ⟨hx, hb, hml, hown, hts⟩ (c_X10_tell l dC dI cB cC cI cJ cZ cT h0 q_now q_text q_row q_read q_ranks q_distinct q_proper q_line q_order q_then q_bestOrder q_lineThen q_undos q_was q_kept q_isKept H.size v_typed (0 : Int32) (0 : Int32) v_length v_at v_wrong o_786.1 v_orderMany v_undoMany v_drawn v_row (o_786.2.2.1 (x1).toNatClampNeg).toInt64 o_811 hr_811) (cwV 1 hts gX10_runs_X10_tell rfl rfl rfl (by decide +kernel) ⟨Nat.le_of_ble_eq_true rfl, Nat.le_of_ble_eq_true rfl⟩) ⟨blW, va_recv hK hP (ci := 8) (q0 := 0) rfl rfl, fun U hU hW => ⟨rfl, by rw [hU], by rw [hU]; exact hPc, va_K.moved hW.alike hK, hDc.weaken (fun _ _ _ _ => trivial)⟩⟩ rfl rfl hl.1 rfl (lv_room (Nat.le_of_ble_eq_true rfl)) dX10_runs_123 ⟨Nat.le_of_ble_eq_true rfl, Nat.le_of_ble_eq_true rfl⟩) hS (fun q _ h => hFc q h) hFc (fun u_811 t_811 H locs ht hvm e_811 hB hz1 hk1 hS => ?_)
      obtain ⟨hP1, -, hD1⟩ := hB
      rw [ht] at hP1
      obtain ⟨hP, hD⟩ := va_join (wr := [(q_now, .inl (cJ, 120, .inr (.inl v_now))), (q_ranks, .inl (cI, 96, .inl o_786.2.1)), (q_distinct, .inl (cI, 6, .inl o_786.2.2.1)), (q_proper, .inl (cI, 6, .inl o_786.2.2.2.1)), (q_line, .inl (cI, 16, .inl o_786.2.2.2.2))]) (w1 := [(h0, .inr (8, [.ref q_now, .ref q_text, .int v_typed, .ref q_row, .int o_811.1, .int (0 : Int32), .int v_length, .int v_at, .int v_wrong, .ref q_read, .ref q_ranks, .ref q_distinct, .ref q_proper, .int o_786.1, .ref q_line, .ref q_order, .int v_orderMany, .ref q_then, .ref q_bestOrder, .ref q_lineThen, .ref q_undos, .ref q_was, .int v_undoMany, .int v_drawn, .ref q_kept, .ref q_isKept])), (q_row, .inl (cJ, 64, .inr (.inl o_811.2)))]) hP hD [0, 2] [1, 3, 4, 5, 6] rfl rfl (by decide) (by decide) hk1 hFc hP1 hD1
      replace hP := hP.sub (ws' := [(h0, .inr (8, [.ref q_now, .ref q_text, .int v_typed, .ref q_row, .int o_811.1, .int (0 : Int32), .int v_length, .int v_at, .int v_wrong, .ref q_read, .ref q_ranks, .ref q_distinct, .ref q_proper, .int o_786.1, .ref q_line, .ref q_order, .int v_orderMany, .ref q_then, .ref q_bestOrder, .ref q_lineThen, .ref q_undos, .ref q_was, .int v_undoMany, .int v_drawn, .ref q_kept, .ref q_isKept])), (q_now, .inl (cJ, 120, .inr (.inl v_now))), (q_row, .inl (cJ, 64, .inr (.inl o_811.2))), (q_ranks, .inl (cI, 96, .inl o_786.2.1)), (q_distinct, .inl (cI, 6, .inl o_786.2.2.1)), (q_proper, .inl (cI, 6, .inl o_786.2.2.2.1)), (q_line, .inl (cI, 16, .inl o_786.2.2.2.2))]) [5, 0, 6, 1, 2, 3, 4] rfl
      replace hD := hD.sub (ws' := [(h0, .inr (8, [.ref q_now, .ref q_text, .int v_typed, .ref q_row, .int o_811.1, .int (0 : Int32), .int v_length, .int v_at, .int v_wrong, .ref q_read, .ref q_ranks, .ref q_distinct, .ref q_proper, .int o_786.1, .ref q_line, .ref q_order, .int v_orderMany, .ref q_then, .ref q_bestOrder, .ref q_lineThen, .ref q_undos, .ref q_was, .int v_undoMany, .int v_drawn, .ref q_kept, .ref q_isKept])), (q_now, .inl (cJ, 120, .inr (.inl v_now))), (q_row, .inl (cJ, 64, .inr (.inl o_811.2))), (q_ranks, .inl (cI, 96, .inl o_786.2.1)), (q_distinct, .inl (cI, 6, .inl o_786.2.2.1)), (q_proper, .inl (cI, 6, .inl o_786.2.2.2.1)), (q_line, .inl (cI, 16, .inl o_786.2.2.2.2))]) [5, 0, 6, 1, 2, 3, 4] (by decide) rfl
      refine lv_aload_n hx hb dX10_runs_126 rfl (lv_at hl 0 rfl) ?_
      refine lv_iload_n hx hb dX10_runs_127 rfl (lv_at hl 2 rfl) ?_
      refine lv_i2l (v := (w_809.1).toInt64) hx hb dX10_runs_128 rfl ?_
      obtain ⟨o_813, hr_813, h⟩ := ob h
      have hPc := hP.sub (ws' := [(h0, .inr (8, [.ref q_now, .ref q_text, .int v_typed, .ref q_row, .int o_811.1, .int (0 : Int32), .int v_length, .int v_at, .int v_wrong, .ref q_read, .ref q_ranks, .ref q_distinct, .ref q_proper, .int o_786.1, .ref q_line, .ref q_order, .int v_orderMany, .ref q_then, .ref q_bestOrder, .ref q_lineThen, .ref q_undos, .ref q_was, .int v_undoMany, .int v_drawn, .ref q_kept, .ref q_isKept])), (q_row, .inl (cJ, 64, .inr (.inl o_811.2)))]) [0, 2] rfl
      have hDc := hD.sub (ws' := [(h0, .inr (8, [.ref q_now, .ref q_text, .int v_typed, .ref q_row, .int o_811.1, .int (0 : Int32), .int v_length, .int v_at, .int v_wrong, .ref q_read, .ref q_ranks, .ref q_distinct, .ref q_proper, .int o_786.1, .ref q_line, .ref q_order, .int v_orderMany, .ref q_then, .ref q_bestOrder, .ref q_lineThen, .ref q_undos, .ref q_was, .int v_undoMany, .int v_drawn, .ref q_kept, .ref q_isKept])), (q_row, .inl (cJ, 64, .inr (.inl o_811.2)))]) [0, 2] (by decide) rfl
      have hFc := va_free (wc := [(h0, .inr (8, [.ref q_now, .ref q_text, .int v_typed, .ref q_row, .int o_811.1, .int (0 : Int32), .int v_length, .int v_at, .int v_wrong, .ref q_read, .ref q_ranks, .ref q_distinct, .ref q_proper, .int o_786.1, .ref q_line, .ref q_order, .int v_orderMany, .ref q_then, .ref q_bestOrder, .ref q_lineThen, .ref q_undos, .ref q_was, .int v_undoMany, .int v_drawn, .ref q_kept, .ref q_isKept])), (q_row, .inl (cJ, 64, .inr (.inl o_811.2)))]) hD hS hA [0, 2] rfl
      refine va_callv (va_runV (As := [.long (w_809.1).toInt64]) (rest := []) ⟨hx, hb, hml, hown, hts⟩ (c_X10_tell l dC dI cB cC cI cJ cZ cT h0 q_now q_text q_row q_read q_ranks q_distinct q_proper q_line q_order q_then q_bestOrder q_lineThen q_undos q_was q_kept q_isKept H.size v_typed o_811.1 (0 : Int32) v_length v_at v_wrong o_786.1 v_orderMany v_undoMany v_drawn o_811.2 (w_809.1).toInt64 o_813 hr_813) (cwV 1 hts gX10_runs_X10_tell rfl rfl rfl (by decide +kernel) ⟨Nat.le_of_ble_eq_true rfl, Nat.le_of_ble_eq_true rfl⟩) ⟨blW, va_recv hK hP (ci := 8) (q0 := 0) rfl rfl, fun U hU hW => ⟨rfl, by rw [hU], by rw [hU]; exact hPc, va_K.moved hW.alike hK, hDc.weaken (fun _ _ _ _ => trivial)⟩⟩ rfl rfl hl.1 rfl (lv_room (Nat.le_of_ble_eq_true rfl)) dX10_runs_129 ⟨Nat.le_of_ble_eq_true rfl, Nat.le_of_ble_eq_true rfl⟩) hS (fun q _ h => hFc q h) hFc (fun u_813 t_813 H locs ht hvm e_813 hB hz1 hk1 hS => ?_)
      obtain ⟨hP1, -, hD1⟩ := hB
      rw [ht] at hP1
      obtain ⟨hP, hD⟩ := va_join (wr := [(q_now, .inl (cJ, 120, .inr (.inl v_now))), (q_ranks, .inl (cI, 96, .inl o_786.2.1)), (q_distinct, .inl (cI, 6, .inl o_786.2.2.1)), (q_proper, .inl (cI, 6, .inl o_786.2.2.2.1)), (q_line, .inl (cI, 16, .inl o_786.2.2.2.2))]) (w1 := [(h0, .inr (8, [.ref q_now, .ref q_text, .int v_typed, .ref q_row, .int o_813.1, .int (0 : Int32), .int v_length, .int v_at, .int v_wrong, .ref q_read, .ref q_ranks, .ref q_distinct, .ref q_proper, .int o_786.1, .ref q_line, .ref q_order, .int v_orderMany, .ref q_then, .ref q_bestOrder, .ref q_lineThen, .ref q_undos, .ref q_was, .int v_undoMany, .int v_drawn, .ref q_kept, .ref q_isKept])), (q_row, .inl (cJ, 64, .inr (.inl o_813.2)))]) hP hD [0, 2] [1, 3, 4, 5, 6] rfl rfl (by decide) (by decide) hk1 hFc hP1 hD1
      replace hP := hP.sub (ws' := [(h0, .inr (8, [.ref q_now, .ref q_text, .int v_typed, .ref q_row, .int o_813.1, .int (0 : Int32), .int v_length, .int v_at, .int v_wrong, .ref q_read, .ref q_ranks, .ref q_distinct, .ref q_proper, .int o_786.1, .ref q_line, .ref q_order, .int v_orderMany, .ref q_then, .ref q_bestOrder, .ref q_lineThen, .ref q_undos, .ref q_was, .int v_undoMany, .int v_drawn, .ref q_kept, .ref q_isKept])), (q_now, .inl (cJ, 120, .inr (.inl v_now))), (q_row, .inl (cJ, 64, .inr (.inl o_813.2))), (q_ranks, .inl (cI, 96, .inl o_786.2.1)), (q_distinct, .inl (cI, 6, .inl o_786.2.2.1)), (q_proper, .inl (cI, 6, .inl o_786.2.2.2.1)), (q_line, .inl (cI, 16, .inl o_786.2.2.2.2))]) [5, 0, 6, 1, 2, 3, 4] rfl
      replace hD := hD.sub (ws' := [(h0, .inr (8, [.ref q_now, .ref q_text, .int v_typed, .ref q_row, .int o_813.1, .int (0 : Int32), .int v_length, .int v_at, .int v_wrong, .ref q_read, .ref q_ranks, .ref q_distinct, .ref q_proper, .int o_786.1, .ref q_line, .ref q_order, .int v_orderMany, .ref q_then, .ref q_bestOrder, .ref q_lineThen, .ref q_undos, .ref q_was, .int v_undoMany, .int v_drawn, .ref q_kept, .ref q_isKept])), (q_now, .inl (cJ, 120, .inr (.inl v_now))), (q_row, .inl (cJ, 64, .inr (.inl o_813.2))), (q_ranks, .inl (cI, 96, .inl o_786.2.1)), (q_distinct, .inl (cI, 6, .inl o_786.2.2.1)), (q_proper, .inl (cI, 6, .inl o_786.2.2.2.1)), (q_line, .inl (cI, 16, .inl o_786.2.2.2.2))]) [5, 0, 6, 1, 2, 3, 4] (by decide) rfl
      refine lv_aload_n hx hb dX10_runs_132 rfl (lv_at hl 0 rfl) ?_
      refine lv_iload_n hx hb dX10_runs_133 rfl (lv_at hl 3 rfl) ?_
      refine lv_i2l (v := (w_809.2).toInt64) hx hb dX10_runs_134 rfl ?_
      obtain ⟨o_815, hr_815, h⟩ := ob h
      have hPc := hP.sub (ws' := [(h0, .inr (8, [.ref q_now, .ref q_text, .int v_typed, .ref q_row, .int o_813.1, .int (0 : Int32), .int v_length, .int v_at, .int v_wrong, .ref q_read, .ref q_ranks, .ref q_distinct, .ref q_proper, .int o_786.1, .ref q_line, .ref q_order, .int v_orderMany, .ref q_then, .ref q_bestOrder, .ref q_lineThen, .ref q_undos, .ref q_was, .int v_undoMany, .int v_drawn, .ref q_kept, .ref q_isKept])), (q_row, .inl (cJ, 64, .inr (.inl o_813.2)))]) [0, 2] rfl
      have hDc := hD.sub (ws' := [(h0, .inr (8, [.ref q_now, .ref q_text, .int v_typed, .ref q_row, .int o_813.1, .int (0 : Int32), .int v_length, .int v_at, .int v_wrong, .ref q_read, .ref q_ranks, .ref q_distinct, .ref q_proper, .int o_786.1, .ref q_line, .ref q_order, .int v_orderMany, .ref q_then, .ref q_bestOrder, .ref q_lineThen, .ref q_undos, .ref q_was, .int v_undoMany, .int v_drawn, .ref q_kept, .ref q_isKept])), (q_row, .inl (cJ, 64, .inr (.inl o_813.2)))]) [0, 2] (by decide) rfl
      have hFc := va_free (wc := [(h0, .inr (8, [.ref q_now, .ref q_text, .int v_typed, .ref q_row, .int o_813.1, .int (0 : Int32), .int v_length, .int v_at, .int v_wrong, .ref q_read, .ref q_ranks, .ref q_distinct, .ref q_proper, .int o_786.1, .ref q_line, .ref q_order, .int v_orderMany, .ref q_then, .ref q_bestOrder, .ref q_lineThen, .ref q_undos, .ref q_was, .int v_undoMany, .int v_drawn, .ref q_kept, .ref q_isKept])), (q_row, .inl (cJ, 64, .inr (.inl o_813.2)))]) hD hS hA [0, 2] rfl
      refine va_callv (va_runV (As := [.long (w_809.2).toInt64]) (rest := []) ⟨hx, hb, hml, hown, hts⟩ (c_X10_tell l dC dI cB cC cI cJ cZ cT h0 q_now q_text q_row q_read q_ranks q_distinct q_proper q_line q_order q_then q_bestOrder q_lineThen q_undos q_was q_kept q_isKept H.size v_typed o_813.1 (0 : Int32) v_length v_at v_wrong o_786.1 v_orderMany v_undoMany v_drawn o_813.2 (w_809.2).toInt64 o_815 hr_815) (cwV 1 hts gX10_runs_X10_tell rfl rfl rfl (by decide +kernel) ⟨Nat.le_of_ble_eq_true rfl, Nat.le_of_ble_eq_true rfl⟩) ⟨blW, va_recv hK hP (ci := 8) (q0 := 0) rfl rfl, fun U hU hW => ⟨rfl, by rw [hU], by rw [hU]; exact hPc, va_K.moved hW.alike hK, hDc.weaken (fun _ _ _ _ => trivial)⟩⟩ rfl rfl hl.1 rfl (lv_room (Nat.le_of_ble_eq_true rfl)) dX10_runs_135 ⟨Nat.le_of_ble_eq_true rfl, Nat.le_of_ble_eq_true rfl⟩) hS (fun q _ h => hFc q h) hFc (fun u_815 t_815 H locs ht hvm e_815 hB hz1 hk1 hS => ?_)
      obtain ⟨hP1, -, hD1⟩ := hB
      rw [ht] at hP1
      obtain ⟨hP, hD⟩ := va_join (wr := [(q_now, .inl (cJ, 120, .inr (.inl v_now))), (q_ranks, .inl (cI, 96, .inl o_786.2.1)), (q_distinct, .inl (cI, 6, .inl o_786.2.2.1)), (q_proper, .inl (cI, 6, .inl o_786.2.2.2.1)), (q_line, .inl (cI, 16, .inl o_786.2.2.2.2))]) (w1 := [(h0, .inr (8, [.ref q_now, .ref q_text, .int v_typed, .ref q_row, .int o_815.1, .int (0 : Int32), .int v_length, .int v_at, .int v_wrong, .ref q_read, .ref q_ranks, .ref q_distinct, .ref q_proper, .int o_786.1, .ref q_line, .ref q_order, .int v_orderMany, .ref q_then, .ref q_bestOrder, .ref q_lineThen, .ref q_undos, .ref q_was, .int v_undoMany, .int v_drawn, .ref q_kept, .ref q_isKept])), (q_row, .inl (cJ, 64, .inr (.inl o_815.2)))]) hP hD [0, 2] [1, 3, 4, 5, 6] rfl rfl (by decide) (by decide) hk1 hFc hP1 hD1
      replace hP := hP.sub (ws' := [(h0, .inr (8, [.ref q_now, .ref q_text, .int v_typed, .ref q_row, .int o_815.1, .int (0 : Int32), .int v_length, .int v_at, .int v_wrong, .ref q_read, .ref q_ranks, .ref q_distinct, .ref q_proper, .int o_786.1, .ref q_line, .ref q_order, .int v_orderMany, .ref q_then, .ref q_bestOrder, .ref q_lineThen, .ref q_undos, .ref q_was, .int v_undoMany, .int v_drawn, .ref q_kept, .ref q_isKept])), (q_now, .inl (cJ, 120, .inr (.inl v_now))), (q_row, .inl (cJ, 64, .inr (.inl o_815.2))), (q_ranks, .inl (cI, 96, .inl o_786.2.1)), (q_distinct, .inl (cI, 6, .inl o_786.2.2.1)), (q_proper, .inl (cI, 6, .inl o_786.2.2.2.1)), (q_line, .inl (cI, 16, .inl o_786.2.2.2.2))]) [5, 0, 6, 1, 2, 3, 4] rfl
      replace hD := hD.sub (ws' := [(h0, .inr (8, [.ref q_now, .ref q_text, .int v_typed, .ref q_row, .int o_815.1, .int (0 : Int32), .int v_length, .int v_at, .int v_wrong, .ref q_read, .ref q_ranks, .ref q_distinct, .ref q_proper, .int o_786.1, .ref q_line, .ref q_order, .int v_orderMany, .ref q_then, .ref q_bestOrder, .ref q_lineThen, .ref q_undos, .ref q_was, .int v_undoMany, .int v_drawn, .ref q_kept, .ref q_isKept])), (q_now, .inl (cJ, 120, .inr (.inl v_now))), (q_row, .inl (cJ, 64, .inr (.inl o_815.2))), (q_ranks, .inl (cI, 96, .inl o_786.2.1)), (q_distinct, .inl (cI, 6, .inl o_786.2.2.1)), (q_proper, .inl (cI, 6, .inl o_786.2.2.2.1)), (q_line, .inl (cI, 16, .inl o_786.2.2.2.2))]) [5, 0, 6, 1, 2, 3, 4] (by decide) rfl
      refine lv_aload_n hx hb dX10_runs_138 rfl (lv_at hl 0 rfl) ?_
      refine lv_iload_n hx hb dX10_runs_139 rfl (lv_at hl 1 rfl) ?_
      obtain ⟨o_817, hr_817, h⟩ := ob h
      refine vp_callSi (va_Run.run (va_runV (As := [.int x1]) (rest := []) ⟨hx, hb, hml, hown, hts⟩ (c_X10_runsIn l dC dI cB cC cI cJ cZ cT h0 q_now q_text q_row q_read q_ranks q_distinct q_proper q_line q_order q_then q_bestOrder q_lineThen q_undos q_was q_kept q_isKept v_typed o_815.1 (0 : Int32) v_length v_at v_wrong o_786.1 v_orderMany v_undoMany v_drawn v_now o_786.2.1 o_786.2.2.2.2 x1 o_817 hr_817) (cwV 1 hts gX10_runs_X10_runsIn rfl rfl rfl (by decide +kernel) ⟨Nat.le_of_ble_eq_true rfl, Nat.le_of_ble_eq_true rfl⟩) ⟨blR, va_recv hK hP (ci := 8) (q0 := 0) rfl rfl, fun U hU hW => ⟨rfl, by rw [hU]; exact hP.sub [0, 1, 3, 6] rfl, va_K.moved hW.alike hK⟩⟩ rfl rfl hl.1 rfl (lv_room (Nat.le_of_ble_eq_true rfl)) dX10_runs_140 ⟨Nat.le_of_ble_eq_true rfl, Nat.le_of_ble_eq_true rfl⟩)) (fun r_817 e_817 => ?_)
      subst e_817
      rw [hQQ]
      have ho := Option.some.inj h
      subst ho
      exact W.iret hx hb hr (fun t ht hW => ⟨⟨_, (), rfl, rfl, by rw [ht]; exact hP, va_K.moved hW.alike hK, hD⟩, hS.F ht⟩) hS.2.2 dX10_runs_143
    · replace h := op c_785 h
      refine lv_bipush (v := -2) hx hb dX10_runs_23 (by decide) ?_
      rw [hQQ]
      have ho := Option.some.inj h
      subst ho
      exact W.iret hx hb hr (fun t ht hW => ⟨⟨_, (), rfl, rfl, by rw [ht]; exact hP, va_K.moved hW.alike hK, hD⟩, hS.F ht⟩) hS.2.2 dX10_runs_25
  · replace h := op c_782 h
    refine lv_iconst (v := -1) hx hb dX10_runs_13 (by decide) ?_
    rw [hQQ]
    have ho := Option.some.inj h
    subst ho
    exact W.iret hx hb hr (fun t ht hW => ⟨⟨_, (), rfl, rfl, by rw [ht]; exact hP, va_K.moved hW.alike hK, hD⟩, hS.F ht⟩) hS.2.2 dX10_runs_14
def L_X10_properBits_4 (v_now : (Nat → Int64)) : Nat → Int32 → Int32 → Option Int32
  | 0, _, _ => none
  | n+1, x1_4, x2_4 => ((f_X10_columns v_now).bind (fun o_819 => (if o_819 ≤ x2_4 then (some x1_4) else ((f_X10_isProper v_now x2_4).bind (fun o_822 => (if (b2i o_822) = 0 then (L_X10_properBits_4 v_now n (x1_4 ||| (0 : Int32)) (x2_4 + 1)) else (L_X10_properBits_4 v_now n (x1_4 ||| ((1 : Int32) <<< (x2_4 &&& 31))) (x2_4 + 1))))))))
def f_X10_properBits (v_now : Nat → Int64) : Option Int32 :=
  ((L_X10_properBits_4 v_now fu (0 : Int32) (0 : Int32)).bind (fun w_825 => (some w_825)))
abbrev rm_X10_properBits : Room := { frames := 3, cells := 0, slots := 0, locals := 64 }
set_option maxHeartbeats 4000000 in
set_option maxRecDepth 100000 in
theorem c_X10_properBits (l : Launch) (dC : Nat → ClassId) (dI : Nat → Nat → Nat) (cB cC cI cJ cZ cT : ClassId) (h0 q_now q_text q_row q_read q_ranks q_distinct q_proper q_line q_order q_then q_bestOrder q_lineThen q_undos q_was q_kept q_isKept : Nat) (v_typed : Int32) (v_rowMany : Int32) (v_thrown : Int32) (v_length : Int32) (v_at : Int32) (v_wrong : Int32) (v_properMany : Int32) (v_orderMany : Int32) (v_undoMany : Int32) (v_drawn : Int32) (v_now : Nat → Int64) (o : Int32) (hf : f_X10_properBits v_now = some o) : Met l yX10_properBits wsX10_properBits rm_X10_properBits (va_Pc [.ref h0] (fun U => va_P (dC, dI) vwCl [(h0, .inr (8, [.ref q_now, .ref q_text, .int v_typed, .ref q_row, .int v_rowMany, .int v_thrown, .int v_length, .int v_at, .int v_wrong, .ref q_read, .ref q_ranks, .ref q_distinct, .ref q_proper, .int v_properMany, .ref q_line, .ref q_order, .int v_orderMany, .ref q_then, .ref q_bestOrder, .ref q_lineThen, .ref q_undos, .ref q_was, .int v_undoMany, .int v_drawn, .ref q_kept, .ref q_isKept])), (q_now, .inl (cJ, 120, .inr (.inl v_now)))] U.heap ∧ va_K (dC, dI) vwCl (tyA cB cC cI cJ cZ cT) U)) (vp_Si (fun r => o = r)) 0 0 (fun _ => False) := by
  refine Met.ofW (cc := cX10_properBits) (maxL := 3) (ret := (some .int)) (by decide +kernel) rfl ?_
  intro p e s m args below meth c s₁ B hml hv
  obtain ⟨hav, hP, hK⟩ := hv
  have hx := B.exec
  have hb := B.bytes
  have hr := B.returns
  have hts := atoms_spec (ws := wsX10_properBits) B.pre
  have hown : s.vm.findClass RX10 = some m.cls := findClass_of_methodNamed B.named
  have hlocks := B.notSynchronized
  refine wstart (rm := rm_X10_properBits) hav (Nat.le_of_ble_eq_true rfl) (fun QQ ls hQQ hl => ?_)
  have hl : lv_has ls 3 [(0, .ref h0)] := hl
  have h := hf
  unfold f_X10_properBits at h
  refine lv_iconst (v := 0) hx hb dX10_properBits_0 (by decide) ?_
  refine lv_istore_n (lv' := [(1, .int (0 : Int32)), (0, .ref h0)]) hx hb dX10_properBits_1 rfl hl (by decide) rfl (fun ls hl => ?_)
  refine lv_iconst (v := 0) hx hb dX10_properBits_2 (by decide) ?_
  refine lv_istore_n (lv' := [(2, .int (0 : Int32)), (1, .int (0 : Int32)), (0, .ref h0)]) hx hb dX10_properBits_3 rfl hl (by decide) rfl (fun ls hl => ?_)
  have LP_825 : ∀ (n : Nat) (x1_4 : Int32) (x2_4 : Int32) (w : Int32) (ls : Array Slot), L_X10_properBits_4 v_now n x1_4 x2_4 = some w → lv_has ls 3 [(0, .ref h0), (1, .int x1_4), (2, .int x2_4)] → (∀ (ls : Array Slot), lv_has ls 3 [(1, .int w)] → W p l e rm_X10_properBits s m args below meth c s.heap [] 0 0 QQ (F0 m 36 ls [])) → W p l e rm_X10_properBits s m args below meth c s.heap [] 0 0 QQ (F0 m 4 ls []) := by
    intro n
    induction n with
    | zero => intro x1_4 x2_4 w ls h; exact absurd (show none = some w from h) nofun
    | succ n ih =>
      intro x1_4 x2_4 w ls h hl K
      rw [L_X10_properBits_4] at h
      refine lv_iload_n hx hb dX10_properBits_4 rfl (lv_at hl 2 rfl) ?_
      refine lv_aload_n hx hb dX10_properBits_5 rfl (lv_at hl 0 rfl) ?_
      obtain ⟨o_819, hr_819, h⟩ := ob h
      refine vp_callSi (va_Run.run (va_runV (As := []) (rest := [.int x2_4]) ⟨hx, hb, hml, hown, hts⟩ (c_X10_columns l dC dI cB cC cI cJ cZ cT h0 q_now q_text q_row q_read q_ranks q_distinct q_proper q_line q_order q_then q_bestOrder q_lineThen q_undos q_was q_kept q_isKept v_typed v_rowMany v_thrown v_length v_at v_wrong v_properMany v_orderMany v_undoMany v_drawn v_now o_819 hr_819) (cwV 0 hts gX10_properBits_X10_columns rfl rfl rfl (by decide +kernel) ⟨Nat.le_of_ble_eq_true rfl, Nat.le_of_ble_eq_true rfl⟩) ⟨blR, va_recv hK hP (ci := 8) (q0 := 0) rfl rfl, fun U hU hW => ⟨rfl, by rw [hU]; exact hP.sub [0, 1] rfl, va_K.moved hW.alike hK⟩⟩ rfl rfl hl.1 rfl (lv_room (Nat.le_of_ble_eq_true rfl)) dX10_properBits_6 ⟨Nat.le_of_ble_eq_true rfl, Nat.le_of_ble_eq_true rfl⟩)) (fun r_819 e_819 => ?_)
      subst e_819
      refine lv_icmp_ge (tgt := 36) hx hb dX10_properBits_9 (by decide) (fun c_821 => ?_) (fun c_821 => ?_)
      · replace h := op c_821 h
        have ho := Option.some.inj h
        subst ho
        exact K ls (lv_sub hl [1] rfl)
      · replace h := on c_821 h
        refine lv_iload_n hx hb dX10_properBits_12 rfl (lv_at hl 1 rfl) ?_
        refine lv_aload_n hx hb dX10_properBits_13 rfl (lv_at hl 0 rfl) ?_
        refine lv_iload_n hx hb dX10_properBits_14 rfl (lv_at hl 2 rfl) ?_
        obtain ⟨o_822, hr_822, h⟩ := ob h
        refine vp_callSi (va_Run.run (va_runV (As := [.int x2_4]) (rest := [.int x1_4]) ⟨hx, hb, hml, hown, hts⟩ (c_X10_isProper l dC dI cB cC cI cJ cZ cT h0 q_now q_text q_row q_read q_ranks q_distinct q_proper q_line q_order q_then q_bestOrder q_lineThen q_undos q_was q_kept q_isKept v_typed v_rowMany v_thrown v_length v_at v_wrong v_properMany v_orderMany v_undoMany v_drawn v_now x2_4 o_822 hr_822) (cwV 1 hts gX10_properBits_X10_isProper rfl rfl rfl (by decide +kernel) ⟨Nat.le_of_ble_eq_true rfl, Nat.le_of_ble_eq_true rfl⟩) ⟨blR, va_recv hK hP (ci := 8) (q0 := 0) rfl rfl, fun U hU hW => ⟨rfl, by rw [hU]; exact hP.sub [0, 1] rfl, va_K.moved hW.alike hK⟩⟩ rfl rfl hl.1 rfl (lv_room (Nat.le_of_ble_eq_true rfl)) dX10_properBits_15 ⟨Nat.le_of_ble_eq_true rfl, Nat.le_of_ble_eq_true rfl⟩)) (fun r_822 e_822 => ?_)
        subst e_822
        refine lv_if_eq (tgt := 27) hx hb dX10_properBits_18 (by decide) (fun c_824 => ?_) (fun c_824 => ?_)
        · replace h := op c_824 h
          refine lv_iconst (v := 0) hx hb dX10_properBits_27 (by decide) ?_
          refine lv_ior hx hb dX10_properBits_28 ?_
          refine lv_istore_n (lv' := [(1, .int (x1_4 ||| (0 : Int32))), (0, .ref h0), (2, .int x2_4)]) hx hb dX10_properBits_29 rfl hl (by decide) rfl (fun ls hl => ?_)
          refine lv_iinc (v := (x2_4 + 1)) (lv' := [(2, .int (x2_4 + 1)), (1, .int (x1_4 ||| (0 : Int32))), (0, .ref h0)]) hx hb dX10_properBits_30 hl (k := 2) rfl (by rfl) (by decide) rfl (fun ls hl => ?_)
          refine lv_goto (tgt := 4) hx hb dX10_properBits_33 (by decide) ?_
          exact ih (x1_4 ||| (0 : Int32)) (x2_4 + 1) w ls h (lv_sub hl [2, 1, 0] rfl) K
        · replace h := on c_824 h
          refine lv_iconst (v := 1) hx hb dX10_properBits_21 (by decide) ?_
          refine lv_iload_n hx hb dX10_properBits_22 rfl (lv_at hl 2 rfl) ?_
          refine lv_ishl hx hb dX10_properBits_23 ?_
          refine lv_goto (tgt := 28) hx hb dX10_properBits_24 (by decide) ?_
          refine lv_ior hx hb dX10_properBits_28 ?_
          refine lv_istore_n (lv' := [(1, .int (x1_4 ||| ((1 : Int32) <<< (x2_4 &&& 31)))), (0, .ref h0), (2, .int x2_4)]) hx hb dX10_properBits_29 rfl hl (by decide) rfl (fun ls hl => ?_)
          refine lv_iinc (v := (x2_4 + 1)) (lv' := [(2, .int (x2_4 + 1)), (1, .int (x1_4 ||| ((1 : Int32) <<< (x2_4 &&& 31)))), (0, .ref h0)]) hx hb dX10_properBits_30 hl (k := 2) rfl (by rfl) (by decide) rfl (fun ls hl => ?_)
          refine lv_goto (tgt := 4) hx hb dX10_properBits_33 (by decide) ?_
          exact ih (x1_4 ||| ((1 : Int32) <<< (x2_4 &&& 31))) (x2_4 + 1) w ls h (lv_sub hl [2, 1, 0] rfl) K
  obtain ⟨w_825, hw_825, h⟩ := ob h
  refine LP_825 fu (0 : Int32) (0 : Int32) w_825 ls hw_825 (lv_sub hl [2, 1, 0] rfl) (fun ls hl => ?_)
  refine lv_iload_n hx hb dX10_properBits_36 rfl (lv_at hl 0 rfl) ?_
  rw [hQQ]
  exact W.iret hx hb hr (fun t ht hW => ⟨_, rfl, (Option.some.inj h).symm, ht⟩) (fun q hq => absurd hq List.not_mem_nil) dX10_properBits_37
def f_X10_all (v_now : Nat → Int64) (v_row : Nat → Int64) (v_ranks : Nat → Int32) (v_distinct : Nat → Int32) (v_proper : Nat → Int32) (v_line : Nat → Int32) : Option (Int32 × Int32 × Int32 × Int32 × (Nat → Int64) × (Nat → Int32) × (Nat → Int32) × (Nat → Int32) × (Nat → Int32)) :=
  ((f_X10_runsNow v_now v_ranks v_distinct v_proper v_line).bind (fun o_826 => ((f_X10_properBits v_now).bind (fun o_828 => ((f_X10_tell (0 : Int32) v_row (o_828).toInt64).bind (fun o_830 => ((f_X10_rows v_now).bind (fun o_832 => ((f_X10_tell o_830.1 o_830.2 ((o_826.2.1).toInt64 * (o_832).toInt64)).bind (fun o_834 => (some (o_826.1, o_834.1, (0 : Int32), o_826.2.1, o_834.2, o_826.2.2.1, o_826.2.2.2.1, o_826.2.2.2.2.1, o_826.2.2.2.2.2))))))))))))
abbrev rm_X10_all : Room := { frames := 7, cells := 0, slots := 0, locals := 157 }
set_option maxHeartbeats 4000000 in
set_option maxRecDepth 100000 in
theorem c_X10_all (l : Launch) (dC : Nat → ClassId) (dI : Nat → Nat → Nat) (cB cC cI cJ cZ cT : ClassId) (h0 q_now q_text q_row q_read q_ranks q_distinct q_proper q_line q_order q_then q_bestOrder q_lineThen q_undos q_was q_kept q_isKept : Nat) (sz : Nat) (v_typed : Int32) (v_rowMany : Int32) (v_thrown : Int32) (v_length : Int32) (v_at : Int32) (v_wrong : Int32) (v_properMany : Int32) (v_orderMany : Int32) (v_undoMany : Int32) (v_drawn : Int32) (v_now : Nat → Int64) (v_row : Nat → Int64) (v_ranks : Nat → Int32) (v_distinct : Nat → Int32) (v_proper : Nat → Int32) (v_line : Nat → Int32) (o : (Int32 × Int32 × Int32 × Int32 × (Nat → Int64) × (Nat → Int32) × (Nat → Int32) × (Nat → Int32) × (Nat → Int32))) (hf : f_X10_all v_now v_row v_ranks v_distinct v_proper v_line = some o) : Met l yX10_all wsX10_all rm_X10_all (va_Pc [.ref h0] (fun U => U.heap.size = sz ∧ va_P (dC, dI) vwCl [(h0, .inr (8, [.ref q_now, .ref q_text, .int v_typed, .ref q_row, .int v_rowMany, .int v_thrown, .int v_length, .int v_at, .int v_wrong, .ref q_read, .ref q_ranks, .ref q_distinct, .ref q_proper, .int v_properMany, .ref q_line, .ref q_order, .int v_orderMany, .ref q_then, .ref q_bestOrder, .ref q_lineThen, .ref q_undos, .ref q_was, .int v_undoMany, .int v_drawn, .ref q_kept, .ref q_isKept])), (q_now, .inl (cJ, 120, .inr (.inl v_now))), (q_row, .inl (cJ, 64, .inr (.inl v_row))), (q_ranks, .inl (cI, 96, .inl v_ranks)), (q_distinct, .inl (cI, 6, .inl v_distinct)), (q_proper, .inl (cI, 6, .inl v_proper)), (q_line, .inl (cI, 16, .inl v_line))] U.heap ∧ va_K (dC, dI) vwCl (tyA cB cC cI cJ cZ cT) U ∧ va_D (fun _ => True) [(h0, .inr (8, [.ref q_now, .ref q_text, .int v_typed, .ref q_row, .int v_rowMany, .int v_thrown, .int v_length, .int v_at, .int v_wrong, .ref q_read, .ref q_ranks, .ref q_distinct, .ref q_proper, .int v_properMany, .ref q_line, .ref q_order, .int v_orderMany, .ref q_then, .ref q_bestOrder, .ref q_lineThen, .ref q_undos, .ref q_was, .int v_undoMany, .int v_drawn, .ref q_kept, .ref q_isKept])), (q_now, .inl (cJ, 120, .inr (.inl v_now))), (q_row, .inl (cJ, 64, .inr (.inl v_row))), (q_ranks, .inl (cI, 96, .inl v_ranks)), (q_distinct, .inl (cI, 6, .inl v_distinct)), (q_proper, .inl (cI, 6, .inl v_proper)), (q_line, .inl (cI, 16, .inl v_line))])) (va_Qi (fun (r : Int32) (_ : Unit) => o.1 = r) (fun _ t => va_P (dC, dI) vwCl [(h0, .inr (8, [.ref q_now, .ref q_text, .int v_typed, .ref q_row, .int o.2.1, .int o.2.2.1, .int v_length, .int v_at, .int v_wrong, .ref q_read, .ref q_ranks, .ref q_distinct, .ref q_proper, .int o.2.2.2.1, .ref q_line, .ref q_order, .int v_orderMany, .ref q_then, .ref q_bestOrder, .ref q_lineThen, .ref q_undos, .ref q_was, .int v_undoMany, .int v_drawn, .ref q_kept, .ref q_isKept])), (q_now, .inl (cJ, 120, .inr (.inl v_now))), (q_row, .inl (cJ, 64, .inr (.inl o.2.2.2.2.1))), (q_ranks, .inl (cI, 96, .inl o.2.2.2.2.2.1)), (q_distinct, .inl (cI, 6, .inl o.2.2.2.2.2.2.1)), (q_proper, .inl (cI, 6, .inl o.2.2.2.2.2.2.2.1)), (q_line, .inl (cI, 16, .inl o.2.2.2.2.2.2.2.2))] t.heap ∧ va_K (dC, dI) vwCl (tyA cB cC cI cJ cZ cT) t ∧ va_D (va_A [(h0, .inr (8, [.ref q_now, .ref q_text, .int v_typed, .ref q_row, .int v_rowMany, .int v_thrown, .int v_length, .int v_at, .int v_wrong, .ref q_read, .ref q_ranks, .ref q_distinct, .ref q_proper, .int v_properMany, .ref q_line, .ref q_order, .int v_orderMany, .ref q_then, .ref q_bestOrder, .ref q_lineThen, .ref q_undos, .ref q_was, .int v_undoMany, .int v_drawn, .ref q_kept, .ref q_isKept])), (q_now, .inl (cJ, 120, .inr (.inl v_now))), (q_row, .inl (cJ, 64, .inr (.inl v_row))), (q_ranks, .inl (cI, 96, .inl v_ranks)), (q_distinct, .inl (cI, 6, .inl v_distinct)), (q_proper, .inl (cI, 6, .inl v_proper)), (q_line, .inl (cI, 16, .inl v_line))] sz) [(h0, .inr (8, [.ref q_now, .ref q_text, .int v_typed, .ref q_row, .int o.2.1, .int o.2.2.1, .int v_length, .int v_at, .int v_wrong, .ref q_read, .ref q_ranks, .ref q_distinct, .ref q_proper, .int o.2.2.2.1, .ref q_line, .ref q_order, .int v_orderMany, .ref q_then, .ref q_bestOrder, .ref q_lineThen, .ref q_undos, .ref q_was, .int v_undoMany, .int v_drawn, .ref q_kept, .ref q_isKept])), (q_now, .inl (cJ, 120, .inr (.inl v_now))), (q_row, .inl (cJ, 64, .inr (.inl o.2.2.2.2.1))), (q_ranks, .inl (cI, 96, .inl o.2.2.2.2.2.1)), (q_distinct, .inl (cI, 6, .inl o.2.2.2.2.2.2.1)), (q_proper, .inl (cI, 6, .inl o.2.2.2.2.2.2.2.1)), (q_line, .inl (cI, 16, .inl o.2.2.2.2.2.2.2.2))]) (va_A [(h0, .inr (8, [.ref q_now, .ref q_text, .int v_typed, .ref q_row, .int v_rowMany, .int v_thrown, .int v_length, .int v_at, .int v_wrong, .ref q_read, .ref q_ranks, .ref q_distinct, .ref q_proper, .int v_properMany, .ref q_line, .ref q_order, .int v_orderMany, .ref q_then, .ref q_bestOrder, .ref q_lineThen, .ref q_undos, .ref q_was, .int v_undoMany, .int v_drawn, .ref q_kept, .ref q_isKept])), (q_now, .inl (cJ, 120, .inr (.inl v_now))), (q_row, .inl (cJ, 64, .inr (.inl v_row))), (q_ranks, .inl (cI, 96, .inl v_ranks)), (q_distinct, .inl (cI, 6, .inl v_distinct)), (q_proper, .inl (cI, 6, .inl v_proper)), (q_line, .inl (cI, 16, .inl v_line))] sz)) 0 0 (va_A [(h0, .inr (8, [.ref q_now, .ref q_text, .int v_typed, .ref q_row, .int v_rowMany, .int v_thrown, .int v_length, .int v_at, .int v_wrong, .ref q_read, .ref q_ranks, .ref q_distinct, .ref q_proper, .int v_properMany, .ref q_line, .ref q_order, .int v_orderMany, .ref q_then, .ref q_bestOrder, .ref q_lineThen, .ref q_undos, .ref q_was, .int v_undoMany, .int v_drawn, .ref q_kept, .ref q_isKept])), (q_now, .inl (cJ, 120, .inr (.inl v_now))), (q_row, .inl (cJ, 64, .inr (.inl v_row))), (q_ranks, .inl (cI, 96, .inl v_ranks)), (q_distinct, .inl (cI, 6, .inl v_distinct)), (q_proper, .inl (cI, 6, .inl v_proper)), (q_line, .inl (cI, 16, .inl v_line))] sz) := by
  refine Met.ofW (cc := cX10_all) (maxL := 2) (ret := (some .int)) (by decide +kernel) rfl ?_
  intro p e s m args below meth c s₁ B hml hv
  obtain ⟨hav, hsz, hP, hK, hD0⟩ := hv
  have hx := B.exec
  have hb := B.bytes
  have hr := B.returns
  have hts := atoms_spec (ws := wsX10_all) B.pre
  have hown : s.vm.findClass RX10 = some m.cls := findClass_of_methodNamed B.named
  have hlocks := B.notSynchronized
  subst hsz
  have hD := hD0.self (sz := s.heap.size)
  generalize hAe : va_A [(h0, .inr (8, [.ref q_now, .ref q_text, .int v_typed, .ref q_row, .int v_rowMany, .int v_thrown, .int v_length, .int v_at, .int v_wrong, .ref q_read, .ref q_ranks, .ref q_distinct, .ref q_proper, .int v_properMany, .ref q_line, .ref q_order, .int v_orderMany, .ref q_then, .ref q_bestOrder, .ref q_lineThen, .ref q_undos, .ref q_was, .int v_undoMany, .int v_drawn, .ref q_kept, .ref q_isKept])), (q_now, .inl (cJ, 120, .inr (.inl v_now))), (q_row, .inl (cJ, 64, .inr (.inl v_row))), (q_ranks, .inl (cI, 96, .inl v_ranks)), (q_distinct, .inl (cI, 6, .inl v_distinct)), (q_proper, .inl (cI, 6, .inl v_proper)), (q_line, .inl (cI, 16, .inl v_line))] s.heap.size = A at hD ⊢
  have hA : ∀ q : Nat, s.heap.size ≤ q → A q := fun q h => by rw [← hAe]; exact Or.inr h
  have hS : va_S A s.heap s.heap [] := va_S.rf
  refine wstart (rm := rm_X10_all) hav (Nat.le_of_ble_eq_true rfl) (fun QQ ls hQQ hl => ?_)
  have hl : lv_has ls 2 [(0, .ref h0)] := hl
  have hi_X10 : ∀ w ∈ u_ws RX10 TX10 26, w ∈ wsX10_all := by decide +kernel
  have h := hf
  unfold f_X10_all at h
  refine lv_aload_n hx hb dX10_all_0 rfl (lv_at hl 0 rfl) ?_
  refine lv_iconst (v := 0) hx hb dX10_all_1 (by decide) ?_
  refine va_put (D := (dC, dI)) (ci := 8) (v := .int (0 : Int32)) (ty := .int) (C := RX10) (T := TX10) (N := 26) hx hb hts hi_X10 tyX10 tyX10_ok nmX10 hown hK hP hD hS 0 rfl rfl 5 (by decide) (hts _ (List.mem_of_getElem? (i := 1) rfl)) (fun _ h9 => h9) rfl (by decide +kernel) rfl rfl (Nat.le_of_ble_eq_true rfl) dX10_all_2 (fun H locs hP hD hS => ?_)
  replace hP : va_P (dC, dI) vwCl [(h0, .inr (8, [.ref q_now, .ref q_text, .int v_typed, .ref q_row, .int v_rowMany, .int (0 : Int32), .int v_length, .int v_at, .int v_wrong, .ref q_read, .ref q_ranks, .ref q_distinct, .ref q_proper, .int v_properMany, .ref q_line, .ref q_order, .int v_orderMany, .ref q_then, .ref q_bestOrder, .ref q_lineThen, .ref q_undos, .ref q_was, .int v_undoMany, .int v_drawn, .ref q_kept, .ref q_isKept])), (q_now, .inl (cJ, 120, .inr (.inl v_now))), (q_row, .inl (cJ, 64, .inr (.inl v_row))), (q_ranks, .inl (cI, 96, .inl v_ranks)), (q_distinct, .inl (cI, 6, .inl v_distinct)), (q_proper, .inl (cI, 6, .inl v_proper)), (q_line, .inl (cI, 16, .inl v_line))] H := hP
  replace hD : va_D A [(h0, .inr (8, [.ref q_now, .ref q_text, .int v_typed, .ref q_row, .int v_rowMany, .int (0 : Int32), .int v_length, .int v_at, .int v_wrong, .ref q_read, .ref q_ranks, .ref q_distinct, .ref q_proper, .int v_properMany, .ref q_line, .ref q_order, .int v_orderMany, .ref q_then, .ref q_bestOrder, .ref q_lineThen, .ref q_undos, .ref q_was, .int v_undoMany, .int v_drawn, .ref q_kept, .ref q_isKept])), (q_now, .inl (cJ, 120, .inr (.inl v_now))), (q_row, .inl (cJ, 64, .inr (.inl v_row))), (q_ranks, .inl (cI, 96, .inl v_ranks)), (q_distinct, .inl (cI, 6, .inl v_distinct)), (q_proper, .inl (cI, 6, .inl v_proper)), (q_line, .inl (cI, 16, .inl v_line))] := hD
  refine lv_aload_n hx hb dX10_all_5 rfl (lv_at hl 0 rfl) ?_
  obtain ⟨o_826, hr_826, h⟩ := ob h
  have hPc := hP.sub (ws' := [(h0, .inr (8, [.ref q_now, .ref q_text, .int v_typed, .ref q_row, .int v_rowMany, .int (0 : Int32), .int v_length, .int v_at, .int v_wrong, .ref q_read, .ref q_ranks, .ref q_distinct, .ref q_proper, .int v_properMany, .ref q_line, .ref q_order, .int v_orderMany, .ref q_then, .ref q_bestOrder, .ref q_lineThen, .ref q_undos, .ref q_was, .int v_undoMany, .int v_drawn, .ref q_kept, .ref q_isKept])), (q_now, .inl (cJ, 120, .inr (.inl v_now))), (q_ranks, .inl (cI, 96, .inl v_ranks)), (q_distinct, .inl (cI, 6, .inl v_distinct)), (q_proper, .inl (cI, 6, .inl v_proper)), (q_line, .inl (cI, 16, .inl v_line))]) [0, 1, 3, 4, 5, 6] rfl
  have hDc := hD.sub (ws' := [(h0, .inr (8, [.ref q_now, .ref q_text, .int v_typed, .ref q_row, .int v_rowMany, .int (0 : Int32), .int v_length, .int v_at, .int v_wrong, .ref q_read, .ref q_ranks, .ref q_distinct, .ref q_proper, .int v_properMany, .ref q_line, .ref q_order, .int v_orderMany, .ref q_then, .ref q_bestOrder, .ref q_lineThen, .ref q_undos, .ref q_was, .int v_undoMany, .int v_drawn, .ref q_kept, .ref q_isKept])), (q_now, .inl (cJ, 120, .inr (.inl v_now))), (q_ranks, .inl (cI, 96, .inl v_ranks)), (q_distinct, .inl (cI, 6, .inl v_distinct)), (q_proper, .inl (cI, 6, .inl v_proper)), (q_line, .inl (cI, 16, .inl v_line))]) [0, 1, 3, 4, 5, 6] (by decide) rfl
  have hFc := va_free (wc := [(h0, .inr (8, [.ref q_now, .ref q_text, .int v_typed, .ref q_row, .int v_rowMany, .int (0 : Int32), .int v_length, .int v_at, .int v_wrong, .ref q_read, .ref q_ranks, .ref q_distinct, .ref q_proper, .int v_properMany, .ref q_line, .ref q_order, .int v_orderMany, .ref q_then, .ref q_bestOrder, .ref q_lineThen, .ref q_undos, .ref q_was, .int v_undoMany, .int v_drawn, .ref q_kept, .ref q_isKept])), (q_now, .inl (cJ, 120, .inr (.inl v_now))), (q_ranks, .inl (cI, 96, .inl v_ranks)), (q_distinct, .inl (cI, 6, .inl v_distinct)), (q_proper, .inl (cI, 6, .inl v_proper)), (q_line, .inl (cI, 16, .inl v_line))]) hD hS hA [0, 1, 3, 4, 5, 6] rfl
  refine va_calli (va_runV (As := []) (rest := []) ⟨hx, hb, hml, hown, hts⟩ (c_X10_runsNow l dC dI cB cC cI cJ cZ cT h0 q_now q_text q_row q_read q_ranks q_distinct q_proper q_line q_order q_then q_bestOrder q_lineThen q_undos q_was q_kept q_isKept H.size v_typed v_rowMany (0 : Int32) v_length v_at v_wrong v_properMany v_orderMany v_undoMany v_drawn v_now v_ranks v_distinct v_proper v_line o_826 hr_826) (cwV 0 hts gX10_all_X10_runsNow rfl rfl rfl (by decide +kernel) ⟨Nat.le_of_ble_eq_true rfl, Nat.le_of_ble_eq_true rfl⟩) ⟨blW, va_recv hK hP (ci := 8) (q0 := 0) rfl rfl, fun U hU hW => ⟨rfl, by rw [hU], by rw [hU]; exact hPc, va_K.moved hW.alike hK, hDc.weaken (fun _ _ _ _ => trivial)⟩⟩ rfl rfl hl.1 rfl (lv_room (Nat.le_of_ble_eq_true rfl)) dX10_all_6 ⟨Nat.le_of_ble_eq_true rfl, Nat.le_of_ble_eq_true rfl⟩) hS (fun q _ h => hFc q h) hFc (fun r_826 u_826 t_826 H locs ht hvm e_826 hB hz1 hk1 hS => ?_)
  obtain ⟨hP1, -, hD1⟩ := hB
  rw [ht] at hP1
  obtain ⟨hP, hD⟩ := va_join (wr := [(q_row, .inl (cJ, 64, .inr (.inl v_row)))]) (w1 := [(h0, .inr (8, [.ref q_now, .ref q_text, .int v_typed, .ref q_row, .int v_rowMany, .int (0 : Int32), .int v_length, .int v_at, .int v_wrong, .ref q_read, .ref q_ranks, .ref q_distinct, .ref q_proper, .int o_826.2.1, .ref q_line, .ref q_order, .int v_orderMany, .ref q_then, .ref q_bestOrder, .ref q_lineThen, .ref q_undos, .ref q_was, .int v_undoMany, .int v_drawn, .ref q_kept, .ref q_isKept])), (q_now, .inl (cJ, 120, .inr (.inl v_now))), (q_ranks, .inl (cI, 96, .inl o_826.2.2.1)), (q_distinct, .inl (cI, 6, .inl o_826.2.2.2.1)), (q_proper, .inl (cI, 6, .inl o_826.2.2.2.2.1)), (q_line, .inl (cI, 16, .inl o_826.2.2.2.2.2))]) hP hD [0, 1, 3, 4, 5, 6] [2] rfl rfl (by decide) (by decide) hk1 hFc hP1 hD1
  replace hP := hP.sub (ws' := [(h0, .inr (8, [.ref q_now, .ref q_text, .int v_typed, .ref q_row, .int v_rowMany, .int (0 : Int32), .int v_length, .int v_at, .int v_wrong, .ref q_read, .ref q_ranks, .ref q_distinct, .ref q_proper, .int o_826.2.1, .ref q_line, .ref q_order, .int v_orderMany, .ref q_then, .ref q_bestOrder, .ref q_lineThen, .ref q_undos, .ref q_was, .int v_undoMany, .int v_drawn, .ref q_kept, .ref q_isKept])), (q_now, .inl (cJ, 120, .inr (.inl v_now))), (q_row, .inl (cJ, 64, .inr (.inl v_row))), (q_ranks, .inl (cI, 96, .inl o_826.2.2.1)), (q_distinct, .inl (cI, 6, .inl o_826.2.2.2.1)), (q_proper, .inl (cI, 6, .inl o_826.2.2.2.2.1)), (q_line, .inl (cI, 16, .inl o_826.2.2.2.2.2))]) [1, 2, 0, 3, 4, 5, 6] rfl
  replace hD := hD.sub (ws' := [(h0, .inr (8, [.ref q_now, .ref q_text, .int v_typed, .ref q_row, .int v_rowMany, .int (0 : Int32), .int v_length, .int v_at, .int v_wrong, .ref q_read, .ref q_ranks, .ref q_distinct, .ref q_proper, .int o_826.2.1, .ref q_line, .ref q_order, .int v_orderMany, .ref q_then, .ref q_bestOrder, .ref q_lineThen, .ref q_undos, .ref q_was, .int v_undoMany, .int v_drawn, .ref q_kept, .ref q_isKept])), (q_now, .inl (cJ, 120, .inr (.inl v_now))), (q_row, .inl (cJ, 64, .inr (.inl v_row))), (q_ranks, .inl (cI, 96, .inl o_826.2.2.1)), (q_distinct, .inl (cI, 6, .inl o_826.2.2.2.1)), (q_proper, .inl (cI, 6, .inl o_826.2.2.2.2.1)), (q_line, .inl (cI, 16, .inl o_826.2.2.2.2.2))]) [1, 2, 0, 3, 4, 5, 6] (by decide) rfl
  subst e_826
  refine lv_istore_n (lv' := [(1, .int o_826.1), (0, .ref h0)]) hx hb dX10_all_9 rfl hl (by decide) rfl (fun ls hl => ?_)
  refine lv_aload_n hx hb dX10_all_10 rfl (lv_at hl 1 rfl) ?_
  refine lv_iconst (v := 0) hx hb dX10_all_11 (by decide) ?_
  refine va_put (D := (dC, dI)) (ci := 8) (v := .int (0 : Int32)) (ty := .int) (C := RX10) (T := TX10) (N := 26) hx hb hts hi_X10 tyX10 tyX10_ok nmX10 hown hK hP hD hS 0 rfl rfl 4 (by decide) (hts _ (List.mem_of_getElem? (i := 2) rfl)) (fun _ h9 => h9) rfl (by decide +kernel) rfl rfl (Nat.le_of_ble_eq_true rfl) dX10_all_12 (fun H locs hP hD hS => ?_)
  replace hP : va_P (dC, dI) vwCl [(h0, .inr (8, [.ref q_now, .ref q_text, .int v_typed, .ref q_row, .int (0 : Int32), .int (0 : Int32), .int v_length, .int v_at, .int v_wrong, .ref q_read, .ref q_ranks, .ref q_distinct, .ref q_proper, .int o_826.2.1, .ref q_line, .ref q_order, .int v_orderMany, .ref q_then, .ref q_bestOrder, .ref q_lineThen, .ref q_undos, .ref q_was, .int v_undoMany, .int v_drawn, .ref q_kept, .ref q_isKept])), (q_now, .inl (cJ, 120, .inr (.inl v_now))), (q_row, .inl (cJ, 64, .inr (.inl v_row))), (q_ranks, .inl (cI, 96, .inl o_826.2.2.1)), (q_distinct, .inl (cI, 6, .inl o_826.2.2.2.1)), (q_proper, .inl (cI, 6, .inl o_826.2.2.2.2.1)), (q_line, .inl (cI, 16, .inl o_826.2.2.2.2.2))] H := hP
  replace hD : va_D A [(h0, .inr (8, [.ref q_now, .ref q_text, .int v_typed, .ref q_row, .int (0 : Int32), .int (0 : Int32), .int v_length, .int v_at, .int v_wrong, .ref q_read, .ref q_ranks, .ref q_distinct, .ref q_proper, .int o_826.2.1, .ref q_line, .ref q_order, .int v_orderMany, .ref q_then, .ref q_bestOrder, .ref q_lineThen, .ref q_undos, .ref q_was, .int v_undoMany, .int v_drawn, .ref q_kept, .ref q_isKept])), (q_now, .inl (cJ, 120, .inr (.inl v_now))), (q_row, .inl (cJ, 64, .inr (.inl v_row))), (q_ranks, .inl (cI, 96, .inl o_826.2.2.1)), (q_distinct, .inl (cI, 6, .inl o_826.2.2.2.1)), (q_proper, .inl (cI, 6, .inl o_826.2.2.2.2.1)), (q_line, .inl (cI, 16, .inl o_826.2.2.2.2.2))] := hD
  refine lv_aload_n hx hb dX10_all_15 rfl (lv_at hl 1 rfl) ?_
  refine lv_aload_n hx hb dX10_all_16 rfl (lv_at hl 1 rfl) ?_
  obtain ⟨o_828, hr_828, h⟩ := ob h
  refine vp_callSi (va_Run.run (va_runV (As := []) (rest := [.ref h0]) ⟨hx, hb, hml, hown, hts⟩ (c_X10_properBits l dC dI cB cC cI cJ cZ cT h0 q_now q_text q_row q_read q_ranks q_distinct q_proper q_line q_order q_then q_bestOrder q_lineThen q_undos q_was q_kept q_isKept v_typed (0 : Int32) (0 : Int32) v_length v_at v_wrong o_826.2.1 v_orderMany v_undoMany v_drawn v_now o_828 hr_828) (cwV 0 hts gX10_all_X10_properBits rfl rfl rfl (by decide +kernel) ⟨Nat.le_of_ble_eq_true rfl, Nat.le_of_ble_eq_true rfl⟩) ⟨blR, va_recv hK hP (ci := 8) (q0 := 0) rfl rfl, fun U hU hW => ⟨rfl, by rw [hU]; exact hP.sub [0, 1] rfl, va_K.moved hW.alike hK⟩⟩ rfl rfl hl.1 rfl (lv_room (Nat.le_of_ble_eq_true rfl)) dX10_all_17 ⟨Nat.le_of_ble_eq_true rfl, Nat.le_of_ble_eq_true rfl⟩)) (fun r_828 e_828 => ?_)
  subst e_828
  refine lv_i2l (v := (o_828).toInt64) hx hb dX10_all_20 rfl ?_
  obtain ⟨o_830, hr_830, h⟩ := ob h
  have hPc := hP.sub (ws' := [(h0, .inr (8, [.ref q_now, .ref q_text, .int v_typed, .ref q_row, .int (0 : Int32), .int (0 : Int32), .int v_length, .int v_at, .int v_wrong, .ref q_read, .ref q_ranks, .ref q_distinct, .ref q_proper, .int o_826.2.1, .ref q_line, .ref q_order, .int v_orderMany, .ref q_then, .ref q_bestOrder, .ref q_lineThen, .ref q_undos, .ref q_was, .int v_undoMany, .int v_drawn, .ref q_kept, .ref q_isKept])), (q_row, .inl (cJ, 64, .inr (.inl v_row)))]) [0, 2] rfl
  have hDc := hD.sub (ws' := [(h0, .inr (8, [.ref q_now, .ref q_text, .int v_typed, .ref q_row, .int (0 : Int32), .int (0 : Int32), .int v_length, .int v_at, .int v_wrong, .ref q_read, .ref q_ranks, .ref q_distinct, .ref q_proper, .int o_826.2.1, .ref q_line, .ref q_order, .int v_orderMany, .ref q_then, .ref q_bestOrder, .ref q_lineThen, .ref q_undos, .ref q_was, .int v_undoMany, .int v_drawn, .ref q_kept, .ref q_isKept])), (q_row, .inl (cJ, 64, .inr (.inl v_row)))]) [0, 2] (by decide) rfl
  have hFc := va_free (wc := [(h0, .inr (8, [.ref q_now, .ref q_text, .int v_typed, .ref q_row, .int (0 : Int32), .int (0 : Int32), .int v_length, .int v_at, .int v_wrong, .ref q_read, .ref q_ranks, .ref q_distinct, .ref q_proper, .int o_826.2.1, .ref q_line, .ref q_order, .int v_orderMany, .ref q_then, .ref q_bestOrder, .ref q_lineThen, .ref q_undos, .ref q_was, .int v_undoMany, .int v_drawn, .ref q_kept, .ref q_isKept])), (q_row, .inl (cJ, 64, .inr (.inl v_row)))]) hD hS hA [0, 2] rfl
  refine va_callv (va_runV (As := [.long (o_828).toInt64]) (rest := []) ⟨hx, hb, hml, hown, hts⟩ (c_X10_tell l dC dI cB cC cI cJ cZ cT h0 q_now q_text q_row q_read q_ranks q_distinct q_proper q_line q_order q_then q_bestOrder q_lineThen q_undos q_was q_kept q_isKept H.size v_typed (0 : Int32) (0 : Int32) v_length v_at v_wrong o_826.2.1 v_orderMany v_undoMany v_drawn v_row (o_828).toInt64 o_830 hr_830) (cwV 1 hts gX10_all_X10_tell rfl rfl rfl (by decide +kernel) ⟨Nat.le_of_ble_eq_true rfl, Nat.le_of_ble_eq_true rfl⟩) ⟨blW, va_recv hK hP (ci := 8) (q0 := 0) rfl rfl, fun U hU hW => ⟨rfl, by rw [hU], by rw [hU]; exact hPc, va_K.moved hW.alike hK, hDc.weaken (fun _ _ _ _ => trivial)⟩⟩ rfl rfl hl.1 rfl (lv_room (Nat.le_of_ble_eq_true rfl)) dX10_all_21 ⟨Nat.le_of_ble_eq_true rfl, Nat.le_of_ble_eq_true rfl⟩) hS (fun q _ h => hFc q h) hFc (fun u_830 t_830 H locs ht hvm e_830 hB hz1 hk1 hS => ?_)
  obtain ⟨hP1, -, hD1⟩ := hB
  rw [ht] at hP1
  obtain ⟨hP, hD⟩ := va_join (wr := [(q_now, .inl (cJ, 120, .inr (.inl v_now))), (q_ranks, .inl (cI, 96, .inl o_826.2.2.1)), (q_distinct, .inl (cI, 6, .inl o_826.2.2.2.1)), (q_proper, .inl (cI, 6, .inl o_826.2.2.2.2.1)), (q_line, .inl (cI, 16, .inl o_826.2.2.2.2.2))]) (w1 := [(h0, .inr (8, [.ref q_now, .ref q_text, .int v_typed, .ref q_row, .int o_830.1, .int (0 : Int32), .int v_length, .int v_at, .int v_wrong, .ref q_read, .ref q_ranks, .ref q_distinct, .ref q_proper, .int o_826.2.1, .ref q_line, .ref q_order, .int v_orderMany, .ref q_then, .ref q_bestOrder, .ref q_lineThen, .ref q_undos, .ref q_was, .int v_undoMany, .int v_drawn, .ref q_kept, .ref q_isKept])), (q_row, .inl (cJ, 64, .inr (.inl o_830.2)))]) hP hD [0, 2] [1, 3, 4, 5, 6] rfl rfl (by decide) (by decide) hk1 hFc hP1 hD1
  replace hP := hP.sub (ws' := [(h0, .inr (8, [.ref q_now, .ref q_text, .int v_typed, .ref q_row, .int o_830.1, .int (0 : Int32), .int v_length, .int v_at, .int v_wrong, .ref q_read, .ref q_ranks, .ref q_distinct, .ref q_proper, .int o_826.2.1, .ref q_line, .ref q_order, .int v_orderMany, .ref q_then, .ref q_bestOrder, .ref q_lineThen, .ref q_undos, .ref q_was, .int v_undoMany, .int v_drawn, .ref q_kept, .ref q_isKept])), (q_now, .inl (cJ, 120, .inr (.inl v_now))), (q_row, .inl (cJ, 64, .inr (.inl o_830.2))), (q_ranks, .inl (cI, 96, .inl o_826.2.2.1)), (q_distinct, .inl (cI, 6, .inl o_826.2.2.2.1)), (q_proper, .inl (cI, 6, .inl o_826.2.2.2.2.1)), (q_line, .inl (cI, 16, .inl o_826.2.2.2.2.2))]) [5, 0, 6, 1, 2, 3, 4] rfl
  replace hD := hD.sub (ws' := [(h0, .inr (8, [.ref q_now, .ref q_text, .int v_typed, .ref q_row, .int o_830.1, .int (0 : Int32), .int v_length, .int v_at, .int v_wrong, .ref q_read, .ref q_ranks, .ref q_distinct, .ref q_proper, .int o_826.2.1, .ref q_line, .ref q_order, .int v_orderMany, .ref q_then, .ref q_bestOrder, .ref q_lineThen, .ref q_undos, .ref q_was, .int v_undoMany, .int v_drawn, .ref q_kept, .ref q_isKept])), (q_now, .inl (cJ, 120, .inr (.inl v_now))), (q_row, .inl (cJ, 64, .inr (.inl o_830.2))), (q_ranks, .inl (cI, 96, .inl o_826.2.2.1)), (q_distinct, .inl (cI, 6, .inl o_826.2.2.2.1)), (q_proper, .inl (cI, 6, .inl o_826.2.2.2.2.1)), (q_line, .inl (cI, 16, .inl o_826.2.2.2.2.2))]) [5, 0, 6, 1, 2, 3, 4] (by decide) rfl
  refine lv_aload_n hx hb dX10_all_24 rfl (lv_at hl 1 rfl) ?_
  refine lv_aload_n hx hb dX10_all_25 rfl (lv_at hl 1 rfl) ?_
  refine va_get (D := (dC, dI)) (ci := 8) (v := .int o_826.2.1) (C := RX10) (T := TX10) (N := 26) hx hb hts hi_X10 hown hK hP 0 rfl rfl 13 (by decide) (hts _ (List.mem_of_getElem? (i := 3) rfl)) (fun _ h9 => h9) rfl dX10_all_26 ?_
  refine lv_i2l (v := (o_826.2.1).toInt64) hx hb dX10_all_29 rfl ?_
  refine lv_aload_n hx hb dX10_all_30 rfl (lv_at hl 1 rfl) ?_
  obtain ⟨o_832, hr_832, h⟩ := ob h
  refine vp_callSi (va_Run.run (va_runV (As := []) (rest := [.long (o_826.2.1).toInt64, .ref h0]) ⟨hx, hb, hml, hown, hts⟩ (c_X10_rows l dC dI cB cC cI cJ cZ cT h0 q_now q_text q_row q_read q_ranks q_distinct q_proper q_line q_order q_then q_bestOrder q_lineThen q_undos q_was q_kept q_isKept v_typed o_830.1 (0 : Int32) v_length v_at v_wrong o_826.2.1 v_orderMany v_undoMany v_drawn v_now o_832 hr_832) (cwV 0 hts gX10_all_X10_rows rfl rfl rfl (by decide +kernel) ⟨Nat.le_of_ble_eq_true rfl, Nat.le_of_ble_eq_true rfl⟩) ⟨blR, va_recv hK hP (ci := 8) (q0 := 0) rfl rfl, fun U hU hW => ⟨rfl, by rw [hU]; exact hP.sub [0, 1] rfl, va_K.moved hW.alike hK⟩⟩ rfl rfl hl.1 rfl (lv_room (Nat.le_of_ble_eq_true rfl)) dX10_all_31 ⟨Nat.le_of_ble_eq_true rfl, Nat.le_of_ble_eq_true rfl⟩)) (fun r_832 e_832 => ?_)
  subst e_832
  refine lv_i2l (v := (o_832).toInt64) hx hb dX10_all_34 rfl ?_
  refine lv_lmul hx hb dX10_all_35 ?_
  obtain ⟨o_834, hr_834, h⟩ := ob h
  have hPc := hP.sub (ws' := [(h0, .inr (8, [.ref q_now, .ref q_text, .int v_typed, .ref q_row, .int o_830.1, .int (0 : Int32), .int v_length, .int v_at, .int v_wrong, .ref q_read, .ref q_ranks, .ref q_distinct, .ref q_proper, .int o_826.2.1, .ref q_line, .ref q_order, .int v_orderMany, .ref q_then, .ref q_bestOrder, .ref q_lineThen, .ref q_undos, .ref q_was, .int v_undoMany, .int v_drawn, .ref q_kept, .ref q_isKept])), (q_row, .inl (cJ, 64, .inr (.inl o_830.2)))]) [0, 2] rfl
  have hDc := hD.sub (ws' := [(h0, .inr (8, [.ref q_now, .ref q_text, .int v_typed, .ref q_row, .int o_830.1, .int (0 : Int32), .int v_length, .int v_at, .int v_wrong, .ref q_read, .ref q_ranks, .ref q_distinct, .ref q_proper, .int o_826.2.1, .ref q_line, .ref q_order, .int v_orderMany, .ref q_then, .ref q_bestOrder, .ref q_lineThen, .ref q_undos, .ref q_was, .int v_undoMany, .int v_drawn, .ref q_kept, .ref q_isKept])), (q_row, .inl (cJ, 64, .inr (.inl o_830.2)))]) [0, 2] (by decide) rfl
  have hFc := va_free (wc := [(h0, .inr (8, [.ref q_now, .ref q_text, .int v_typed, .ref q_row, .int o_830.1, .int (0 : Int32), .int v_length, .int v_at, .int v_wrong, .ref q_read, .ref q_ranks, .ref q_distinct, .ref q_proper, .int o_826.2.1, .ref q_line, .ref q_order, .int v_orderMany, .ref q_then, .ref q_bestOrder, .ref q_lineThen, .ref q_undos, .ref q_was, .int v_undoMany, .int v_drawn, .ref q_kept, .ref q_isKept])), (q_row, .inl (cJ, 64, .inr (.inl o_830.2)))]) hD hS hA [0, 2] rfl
  refine va_callv (va_runV (As := [.long ((o_826.2.1).toInt64 * (o_832).toInt64)]) (rest := []) ⟨hx, hb, hml, hown, hts⟩ (c_X10_tell l dC dI cB cC cI cJ cZ cT h0 q_now q_text q_row q_read q_ranks q_distinct q_proper q_line q_order q_then q_bestOrder q_lineThen q_undos q_was q_kept q_isKept H.size v_typed o_830.1 (0 : Int32) v_length v_at v_wrong o_826.2.1 v_orderMany v_undoMany v_drawn o_830.2 ((o_826.2.1).toInt64 * (o_832).toInt64) o_834 hr_834) (cwV 1 hts gX10_all_X10_tell rfl rfl rfl (by decide +kernel) ⟨Nat.le_of_ble_eq_true rfl, Nat.le_of_ble_eq_true rfl⟩) ⟨blW, va_recv hK hP (ci := 8) (q0 := 0) rfl rfl, fun U hU hW => ⟨rfl, by rw [hU], by rw [hU]; exact hPc, va_K.moved hW.alike hK, hDc.weaken (fun _ _ _ _ => trivial)⟩⟩ rfl rfl hl.1 rfl (lv_room (Nat.le_of_ble_eq_true rfl)) dX10_all_36 ⟨Nat.le_of_ble_eq_true rfl, Nat.le_of_ble_eq_true rfl⟩) hS (fun q _ h => hFc q h) hFc (fun u_834 t_834 H locs ht hvm e_834 hB hz1 hk1 hS => ?_)
  obtain ⟨hP1, -, hD1⟩ := hB
  rw [ht] at hP1
  obtain ⟨hP, hD⟩ := va_join (wr := [(q_now, .inl (cJ, 120, .inr (.inl v_now))), (q_ranks, .inl (cI, 96, .inl o_826.2.2.1)), (q_distinct, .inl (cI, 6, .inl o_826.2.2.2.1)), (q_proper, .inl (cI, 6, .inl o_826.2.2.2.2.1)), (q_line, .inl (cI, 16, .inl o_826.2.2.2.2.2))]) (w1 := [(h0, .inr (8, [.ref q_now, .ref q_text, .int v_typed, .ref q_row, .int o_834.1, .int (0 : Int32), .int v_length, .int v_at, .int v_wrong, .ref q_read, .ref q_ranks, .ref q_distinct, .ref q_proper, .int o_826.2.1, .ref q_line, .ref q_order, .int v_orderMany, .ref q_then, .ref q_bestOrder, .ref q_lineThen, .ref q_undos, .ref q_was, .int v_undoMany, .int v_drawn, .ref q_kept, .ref q_isKept])), (q_row, .inl (cJ, 64, .inr (.inl o_834.2)))]) hP hD [0, 2] [1, 3, 4, 5, 6] rfl rfl (by decide) (by decide) hk1 hFc hP1 hD1
  replace hP := hP.sub (ws' := [(h0, .inr (8, [.ref q_now, .ref q_text, .int v_typed, .ref q_row, .int o_834.1, .int (0 : Int32), .int v_length, .int v_at, .int v_wrong, .ref q_read, .ref q_ranks, .ref q_distinct, .ref q_proper, .int o_826.2.1, .ref q_line, .ref q_order, .int v_orderMany, .ref q_then, .ref q_bestOrder, .ref q_lineThen, .ref q_undos, .ref q_was, .int v_undoMany, .int v_drawn, .ref q_kept, .ref q_isKept])), (q_now, .inl (cJ, 120, .inr (.inl v_now))), (q_row, .inl (cJ, 64, .inr (.inl o_834.2))), (q_ranks, .inl (cI, 96, .inl o_826.2.2.1)), (q_distinct, .inl (cI, 6, .inl o_826.2.2.2.1)), (q_proper, .inl (cI, 6, .inl o_826.2.2.2.2.1)), (q_line, .inl (cI, 16, .inl o_826.2.2.2.2.2))]) [5, 0, 6, 1, 2, 3, 4] rfl
  replace hD := hD.sub (ws' := [(h0, .inr (8, [.ref q_now, .ref q_text, .int v_typed, .ref q_row, .int o_834.1, .int (0 : Int32), .int v_length, .int v_at, .int v_wrong, .ref q_read, .ref q_ranks, .ref q_distinct, .ref q_proper, .int o_826.2.1, .ref q_line, .ref q_order, .int v_orderMany, .ref q_then, .ref q_bestOrder, .ref q_lineThen, .ref q_undos, .ref q_was, .int v_undoMany, .int v_drawn, .ref q_kept, .ref q_isKept])), (q_now, .inl (cJ, 120, .inr (.inl v_now))), (q_row, .inl (cJ, 64, .inr (.inl o_834.2))), (q_ranks, .inl (cI, 96, .inl o_826.2.2.1)), (q_distinct, .inl (cI, 6, .inl o_826.2.2.2.1)), (q_proper, .inl (cI, 6, .inl o_826.2.2.2.2.1)), (q_line, .inl (cI, 16, .inl o_826.2.2.2.2.2))]) [5, 0, 6, 1, 2, 3, 4] (by decide) rfl
  refine lv_iload_n hx hb dX10_all_39 rfl (lv_at hl 0 rfl) ?_
  rw [hQQ]
  have ho := Option.some.inj h
  subst ho
  exact W.iret hx hb hr (fun t ht hW => ⟨⟨_, (), rfl, rfl, by rw [ht]; exact hP, va_K.moved hW.alike hK, hD⟩, hS.F ht⟩) hS.2.2 dX10_all_40
def f_X10_unlike (v_properMany : Int32) (v_now : Nat → Int64) (v_ranks : Nat → Int32) (v_distinct : Nat → Int32) (v_proper : Nat → Int32) (v_line : Nat → Int32) (x1 : Int32) (x2 : Int32) : Option (Int32 × Int32 × Int32 × (Nat → Int32) × (Nat → Int32) × (Nat → Int32) × (Nat → Int32)) :=
  ((f_X10_isRow v_now x1).bind (fun o_836 => (if (b2i o_836) = 0 then (some ((-1 : Int32), (0 : Int32), v_properMany, v_ranks, v_distinct, v_proper, v_line)) else ((f_X10_isRow v_now x2).bind (fun o_839 => (if (b2i o_839) = 0 then (some ((-1 : Int32), (0 : Int32), v_properMany, v_ranks, v_distinct, v_proper, v_line)) else ((f_X10_layLine v_now v_ranks v_distinct v_proper v_line).bind (fun o_842 => ((f_X10_unlikeOf o_842.1 o_842.2.1 o_842.2.2.2.1 x1 x2).bind (fun o_844 => (some (o_844, (0 : Int32), o_842.1, o_842.2.1, o_842.2.2.1, o_842.2.2.2.1, o_842.2.2.2.2))))))))))))
abbrev rm_X10_unlike : Room := { frames := 6, cells := 0, slots := 0, locals := 137 }
set_option maxHeartbeats 4000000 in
set_option maxRecDepth 100000 in
theorem c_X10_unlike (l : Launch) (dC : Nat → ClassId) (dI : Nat → Nat → Nat) (cB cC cI cJ cZ cT : ClassId) (h0 q_now q_text q_row q_read q_ranks q_distinct q_proper q_line q_order q_then q_bestOrder q_lineThen q_undos q_was q_kept q_isKept : Nat) (sz : Nat) (v_typed : Int32) (v_rowMany : Int32) (v_thrown : Int32) (v_length : Int32) (v_at : Int32) (v_wrong : Int32) (v_properMany : Int32) (v_orderMany : Int32) (v_undoMany : Int32) (v_drawn : Int32) (v_now : Nat → Int64) (v_ranks : Nat → Int32) (v_distinct : Nat → Int32) (v_proper : Nat → Int32) (v_line : Nat → Int32) (x1 : Int32) (x2 : Int32) (o : (Int32 × Int32 × Int32 × (Nat → Int32) × (Nat → Int32) × (Nat → Int32) × (Nat → Int32))) (hf : f_X10_unlike v_properMany v_now v_ranks v_distinct v_proper v_line x1 x2 = some o) : Met l yX10_unlike wsX10_unlike rm_X10_unlike (va_Pc [.ref h0, .int x1, .int x2] (fun U => U.heap.size = sz ∧ va_P (dC, dI) vwCl [(h0, .inr (8, [.ref q_now, .ref q_text, .int v_typed, .ref q_row, .int v_rowMany, .int v_thrown, .int v_length, .int v_at, .int v_wrong, .ref q_read, .ref q_ranks, .ref q_distinct, .ref q_proper, .int v_properMany, .ref q_line, .ref q_order, .int v_orderMany, .ref q_then, .ref q_bestOrder, .ref q_lineThen, .ref q_undos, .ref q_was, .int v_undoMany, .int v_drawn, .ref q_kept, .ref q_isKept])), (q_now, .inl (cJ, 120, .inr (.inl v_now))), (q_ranks, .inl (cI, 96, .inl v_ranks)), (q_distinct, .inl (cI, 6, .inl v_distinct)), (q_proper, .inl (cI, 6, .inl v_proper)), (q_line, .inl (cI, 16, .inl v_line))] U.heap ∧ va_K (dC, dI) vwCl (tyA cB cC cI cJ cZ cT) U ∧ va_D (fun _ => True) [(h0, .inr (8, [.ref q_now, .ref q_text, .int v_typed, .ref q_row, .int v_rowMany, .int v_thrown, .int v_length, .int v_at, .int v_wrong, .ref q_read, .ref q_ranks, .ref q_distinct, .ref q_proper, .int v_properMany, .ref q_line, .ref q_order, .int v_orderMany, .ref q_then, .ref q_bestOrder, .ref q_lineThen, .ref q_undos, .ref q_was, .int v_undoMany, .int v_drawn, .ref q_kept, .ref q_isKept])), (q_now, .inl (cJ, 120, .inr (.inl v_now))), (q_ranks, .inl (cI, 96, .inl v_ranks)), (q_distinct, .inl (cI, 6, .inl v_distinct)), (q_proper, .inl (cI, 6, .inl v_proper)), (q_line, .inl (cI, 16, .inl v_line))])) (va_Qi (fun (r : Int32) (_ : Unit) => o.1 = r) (fun _ t => va_P (dC, dI) vwCl [(h0, .inr (8, [.ref q_now, .ref q_text, .int v_typed, .ref q_row, .int v_rowMany, .int o.2.1, .int v_length, .int v_at, .int v_wrong, .ref q_read, .ref q_ranks, .ref q_distinct, .ref q_proper, .int o.2.2.1, .ref q_line, .ref q_order, .int v_orderMany, .ref q_then, .ref q_bestOrder, .ref q_lineThen, .ref q_undos, .ref q_was, .int v_undoMany, .int v_drawn, .ref q_kept, .ref q_isKept])), (q_now, .inl (cJ, 120, .inr (.inl v_now))), (q_ranks, .inl (cI, 96, .inl o.2.2.2.1)), (q_distinct, .inl (cI, 6, .inl o.2.2.2.2.1)), (q_proper, .inl (cI, 6, .inl o.2.2.2.2.2.1)), (q_line, .inl (cI, 16, .inl o.2.2.2.2.2.2))] t.heap ∧ va_K (dC, dI) vwCl (tyA cB cC cI cJ cZ cT) t ∧ va_D (va_A [(h0, .inr (8, [.ref q_now, .ref q_text, .int v_typed, .ref q_row, .int v_rowMany, .int v_thrown, .int v_length, .int v_at, .int v_wrong, .ref q_read, .ref q_ranks, .ref q_distinct, .ref q_proper, .int v_properMany, .ref q_line, .ref q_order, .int v_orderMany, .ref q_then, .ref q_bestOrder, .ref q_lineThen, .ref q_undos, .ref q_was, .int v_undoMany, .int v_drawn, .ref q_kept, .ref q_isKept])), (q_now, .inl (cJ, 120, .inr (.inl v_now))), (q_ranks, .inl (cI, 96, .inl v_ranks)), (q_distinct, .inl (cI, 6, .inl v_distinct)), (q_proper, .inl (cI, 6, .inl v_proper)), (q_line, .inl (cI, 16, .inl v_line))] sz) [(h0, .inr (8, [.ref q_now, .ref q_text, .int v_typed, .ref q_row, .int v_rowMany, .int o.2.1, .int v_length, .int v_at, .int v_wrong, .ref q_read, .ref q_ranks, .ref q_distinct, .ref q_proper, .int o.2.2.1, .ref q_line, .ref q_order, .int v_orderMany, .ref q_then, .ref q_bestOrder, .ref q_lineThen, .ref q_undos, .ref q_was, .int v_undoMany, .int v_drawn, .ref q_kept, .ref q_isKept])), (q_now, .inl (cJ, 120, .inr (.inl v_now))), (q_ranks, .inl (cI, 96, .inl o.2.2.2.1)), (q_distinct, .inl (cI, 6, .inl o.2.2.2.2.1)), (q_proper, .inl (cI, 6, .inl o.2.2.2.2.2.1)), (q_line, .inl (cI, 16, .inl o.2.2.2.2.2.2))]) (va_A [(h0, .inr (8, [.ref q_now, .ref q_text, .int v_typed, .ref q_row, .int v_rowMany, .int v_thrown, .int v_length, .int v_at, .int v_wrong, .ref q_read, .ref q_ranks, .ref q_distinct, .ref q_proper, .int v_properMany, .ref q_line, .ref q_order, .int v_orderMany, .ref q_then, .ref q_bestOrder, .ref q_lineThen, .ref q_undos, .ref q_was, .int v_undoMany, .int v_drawn, .ref q_kept, .ref q_isKept])), (q_now, .inl (cJ, 120, .inr (.inl v_now))), (q_ranks, .inl (cI, 96, .inl v_ranks)), (q_distinct, .inl (cI, 6, .inl v_distinct)), (q_proper, .inl (cI, 6, .inl v_proper)), (q_line, .inl (cI, 16, .inl v_line))] sz)) 0 0 (va_A [(h0, .inr (8, [.ref q_now, .ref q_text, .int v_typed, .ref q_row, .int v_rowMany, .int v_thrown, .int v_length, .int v_at, .int v_wrong, .ref q_read, .ref q_ranks, .ref q_distinct, .ref q_proper, .int v_properMany, .ref q_line, .ref q_order, .int v_orderMany, .ref q_then, .ref q_bestOrder, .ref q_lineThen, .ref q_undos, .ref q_was, .int v_undoMany, .int v_drawn, .ref q_kept, .ref q_isKept])), (q_now, .inl (cJ, 120, .inr (.inl v_now))), (q_ranks, .inl (cI, 96, .inl v_ranks)), (q_distinct, .inl (cI, 6, .inl v_distinct)), (q_proper, .inl (cI, 6, .inl v_proper)), (q_line, .inl (cI, 16, .inl v_line))] sz) := by
  refine Met.ofW (cc := cX10_unlike) (maxL := 3) (ret := (some .int)) (by decide +kernel) rfl ?_
  intro p e s m args below meth c s₁ B hml hv
  obtain ⟨hav, hsz, hP, hK, hD0⟩ := hv
  have hx := B.exec
  have hb := B.bytes
  have hr := B.returns
  have hts := atoms_spec (ws := wsX10_unlike) B.pre
  have hown : s.vm.findClass RX10 = some m.cls := findClass_of_methodNamed B.named
  have hlocks := B.notSynchronized
  subst hsz
  have hD := hD0.self (sz := s.heap.size)
  generalize hAe : va_A [(h0, .inr (8, [.ref q_now, .ref q_text, .int v_typed, .ref q_row, .int v_rowMany, .int v_thrown, .int v_length, .int v_at, .int v_wrong, .ref q_read, .ref q_ranks, .ref q_distinct, .ref q_proper, .int v_properMany, .ref q_line, .ref q_order, .int v_orderMany, .ref q_then, .ref q_bestOrder, .ref q_lineThen, .ref q_undos, .ref q_was, .int v_undoMany, .int v_drawn, .ref q_kept, .ref q_isKept])), (q_now, .inl (cJ, 120, .inr (.inl v_now))), (q_ranks, .inl (cI, 96, .inl v_ranks)), (q_distinct, .inl (cI, 6, .inl v_distinct)), (q_proper, .inl (cI, 6, .inl v_proper)), (q_line, .inl (cI, 16, .inl v_line))] s.heap.size = A at hD ⊢
  have hA : ∀ q : Nat, s.heap.size ≤ q → A q := fun q h => by rw [← hAe]; exact Or.inr h
  have hS : va_S A s.heap s.heap [] := va_S.rf
  refine wstart (rm := rm_X10_unlike) hav (Nat.le_of_ble_eq_true rfl) (fun QQ ls hQQ hl => ?_)
  have hl : lv_has ls 3 [(0, .ref h0), (1, .int x1), (2, .int x2)] := hl
  have hi_X10 : ∀ w ∈ u_ws RX10 TX10 26, w ∈ wsX10_unlike := by decide +kernel
  have h := hf
  unfold f_X10_unlike at h
  refine lv_aload_n hx hb dX10_unlike_0 rfl (lv_at hl 0 rfl) ?_
  refine lv_iconst (v := 0) hx hb dX10_unlike_1 (by decide) ?_
  refine va_put (D := (dC, dI)) (ci := 8) (v := .int (0 : Int32)) (ty := .int) (C := RX10) (T := TX10) (N := 26) hx hb hts hi_X10 tyX10 tyX10_ok nmX10 hown hK hP hD hS 0 rfl rfl 5 (by decide) (hts _ (List.mem_of_getElem? (i := 1) rfl)) (fun _ h9 => h9) rfl (by decide +kernel) rfl rfl (Nat.le_of_ble_eq_true rfl) dX10_unlike_2 (fun H locs hP hD hS => ?_)
  replace hP : va_P (dC, dI) vwCl [(h0, .inr (8, [.ref q_now, .ref q_text, .int v_typed, .ref q_row, .int v_rowMany, .int (0 : Int32), .int v_length, .int v_at, .int v_wrong, .ref q_read, .ref q_ranks, .ref q_distinct, .ref q_proper, .int v_properMany, .ref q_line, .ref q_order, .int v_orderMany, .ref q_then, .ref q_bestOrder, .ref q_lineThen, .ref q_undos, .ref q_was, .int v_undoMany, .int v_drawn, .ref q_kept, .ref q_isKept])), (q_now, .inl (cJ, 120, .inr (.inl v_now))), (q_ranks, .inl (cI, 96, .inl v_ranks)), (q_distinct, .inl (cI, 6, .inl v_distinct)), (q_proper, .inl (cI, 6, .inl v_proper)), (q_line, .inl (cI, 16, .inl v_line))] H := hP
  replace hD : va_D A [(h0, .inr (8, [.ref q_now, .ref q_text, .int v_typed, .ref q_row, .int v_rowMany, .int (0 : Int32), .int v_length, .int v_at, .int v_wrong, .ref q_read, .ref q_ranks, .ref q_distinct, .ref q_proper, .int v_properMany, .ref q_line, .ref q_order, .int v_orderMany, .ref q_then, .ref q_bestOrder, .ref q_lineThen, .ref q_undos, .ref q_was, .int v_undoMany, .int v_drawn, .ref q_kept, .ref q_isKept])), (q_now, .inl (cJ, 120, .inr (.inl v_now))), (q_ranks, .inl (cI, 96, .inl v_ranks)), (q_distinct, .inl (cI, 6, .inl v_distinct)), (q_proper, .inl (cI, 6, .inl v_proper)), (q_line, .inl (cI, 16, .inl v_line))] := hD
  refine lv_aload_n hx hb dX10_unlike_5 rfl (lv_at hl 0 rfl) ?_
  refine lv_iload_n hx hb dX10_unlike_6 rfl (lv_at hl 1 rfl) ?_
  obtain ⟨o_836, hr_836, h⟩ := ob h
  refine vp_callSi (va_Run.run (va_runV (As := [.int x1]) (rest := []) ⟨hx, hb, hml, hown, hts⟩ (c_X10_isRow l dC dI cB cC cI cJ cZ cT h0 q_now q_text q_row q_read q_ranks q_distinct q_proper q_line q_order q_then q_bestOrder q_lineThen q_undos q_was q_kept q_isKept v_typed v_rowMany (0 : Int32) v_length v_at v_wrong v_properMany v_orderMany v_undoMany v_drawn v_now x1 o_836 hr_836) (cwV 1 hts gX10_unlike_X10_isRow rfl rfl rfl (by decide +kernel) ⟨Nat.le_of_ble_eq_true rfl, Nat.le_of_ble_eq_true rfl⟩) ⟨blR, va_recv hK hP (ci := 8) (q0 := 0) rfl rfl, fun U hU hW => ⟨rfl, by rw [hU]; exact hP.sub [0, 1] rfl, va_K.moved hW.alike hK⟩⟩ rfl rfl hl.1 rfl (lv_room (Nat.le_of_ble_eq_true rfl)) dX10_unlike_7 ⟨Nat.le_of_ble_eq_true rfl, Nat.le_of_ble_eq_true rfl⟩)) (fun r_836 e_836 => ?_)
  subst e_836
  refine lv_if_eq (tgt := 21) hx hb dX10_unlike_10 (by decide) (fun c_838 => ?_) (fun c_838 => ?_)
  · replace h := op c_838 h
    refine lv_iconst (v := -1) hx hb dX10_unlike_21 (by decide) ?_
    rw [hQQ]
    have ho := Option.some.inj h
    subst ho
    exact W.iret hx hb hr (fun t ht hW => ⟨⟨_, (), rfl, rfl, by rw [ht]; exact hP, va_K.moved hW.alike hK, hD⟩, hS.F ht⟩) hS.2.2 dX10_unlike_22
  · replace h := on c_838 h
    refine lv_aload_n hx hb dX10_unlike_13 rfl (lv_at hl 0 rfl) ?_
    refine lv_iload_n hx hb dX10_unlike_14 rfl (lv_at hl 2 rfl) ?_
    obtain ⟨o_839, hr_839, h⟩ := ob h
    refine vp_callSi (va_Run.run (va_runV (As := [.int x2]) (rest := []) ⟨hx, hb, hml, hown, hts⟩ (c_X10_isRow l dC dI cB cC cI cJ cZ cT h0 q_now q_text q_row q_read q_ranks q_distinct q_proper q_line q_order q_then q_bestOrder q_lineThen q_undos q_was q_kept q_isKept v_typed v_rowMany (0 : Int32) v_length v_at v_wrong v_properMany v_orderMany v_undoMany v_drawn v_now x2 o_839 hr_839) (cwV 1 hts gX10_unlike_X10_isRow rfl rfl rfl (by decide +kernel) ⟨Nat.le_of_ble_eq_true rfl, Nat.le_of_ble_eq_true rfl⟩) ⟨blR, va_recv hK hP (ci := 8) (q0 := 0) rfl rfl, fun U hU hW => ⟨rfl, by rw [hU]; exact hP.sub [0, 1] rfl, va_K.moved hW.alike hK⟩⟩ rfl rfl hl.1 rfl (lv_room (Nat.le_of_ble_eq_true rfl)) dX10_unlike_15 ⟨Nat.le_of_ble_eq_true rfl, Nat.le_of_ble_eq_true rfl⟩)) (fun r_839 e_839 => ?_)
    subst e_839
    refine lv_if_ne (tgt := 23) hx hb dX10_unlike_18 (by decide) (fun c_841 => ?_) (fun c_841 => ?_)
    · replace h := on c_841 h
      refine lv_aload_n hx hb dX10_unlike_23 rfl (lv_at hl 0 rfl) ?_
      obtain ⟨o_842, hr_842, h⟩ := ob h
      have hPc := hP.sub (ws' := [(h0, .inr (8, [.ref q_now, .ref q_text, .int v_typed, .ref q_row, .int v_rowMany, .int (0 : Int32), .int v_length, .int v_at, .int v_wrong, .ref q_read, .ref q_ranks, .ref q_distinct, .ref q_proper, .int v_properMany, .ref q_line, .ref q_order, .int v_orderMany, .ref q_then, .ref q_bestOrder, .ref q_lineThen, .ref q_undos, .ref q_was, .int v_undoMany, .int v_drawn, .ref q_kept, .ref q_isKept])), (q_now, .inl (cJ, 120, .inr (.inl v_now))), (q_ranks, .inl (cI, 96, .inl v_ranks)), (q_distinct, .inl (cI, 6, .inl v_distinct)), (q_proper, .inl (cI, 6, .inl v_proper)), (q_line, .inl (cI, 16, .inl v_line))]) [0, 1, 2, 3, 4, 5] rfl
      have hDc := hD.sub (ws' := [(h0, .inr (8, [.ref q_now, .ref q_text, .int v_typed, .ref q_row, .int v_rowMany, .int (0 : Int32), .int v_length, .int v_at, .int v_wrong, .ref q_read, .ref q_ranks, .ref q_distinct, .ref q_proper, .int v_properMany, .ref q_line, .ref q_order, .int v_orderMany, .ref q_then, .ref q_bestOrder, .ref q_lineThen, .ref q_undos, .ref q_was, .int v_undoMany, .int v_drawn, .ref q_kept, .ref q_isKept])), (q_now, .inl (cJ, 120, .inr (.inl v_now))), (q_ranks, .inl (cI, 96, .inl v_ranks)), (q_distinct, .inl (cI, 6, .inl v_distinct)), (q_proper, .inl (cI, 6, .inl v_proper)), (q_line, .inl (cI, 16, .inl v_line))]) [0, 1, 2, 3, 4, 5] (by decide) rfl
      have hFc := va_free (wc := [(h0, .inr (8, [.ref q_now, .ref q_text, .int v_typed, .ref q_row, .int v_rowMany, .int (0 : Int32), .int v_length, .int v_at, .int v_wrong, .ref q_read, .ref q_ranks, .ref q_distinct, .ref q_proper, .int v_properMany, .ref q_line, .ref q_order, .int v_orderMany, .ref q_then, .ref q_bestOrder, .ref q_lineThen, .ref q_undos, .ref q_was, .int v_undoMany, .int v_drawn, .ref q_kept, .ref q_isKept])), (q_now, .inl (cJ, 120, .inr (.inl v_now))), (q_ranks, .inl (cI, 96, .inl v_ranks)), (q_distinct, .inl (cI, 6, .inl v_distinct)), (q_proper, .inl (cI, 6, .inl v_proper)), (q_line, .inl (cI, 16, .inl v_line))]) hD hS hA [0, 1, 2, 3, 4, 5] rfl
      refine va_callv (va_runV (As := []) (rest := []) ⟨hx, hb, hml, hown, hts⟩ (c_X10_layLine l dC dI cB cC cI cJ cZ cT h0 q_now q_text q_row q_read q_ranks q_distinct q_proper q_line q_order q_then q_bestOrder q_lineThen q_undos q_was q_kept q_isKept H.size v_typed v_rowMany (0 : Int32) v_length v_at v_wrong v_properMany v_orderMany v_undoMany v_drawn v_now v_ranks v_distinct v_proper v_line o_842 hr_842) (cwV 0 hts gX10_unlike_X10_layLine rfl rfl rfl (by decide +kernel) ⟨Nat.le_of_ble_eq_true rfl, Nat.le_of_ble_eq_true rfl⟩) ⟨blW, va_recv hK hP (ci := 8) (q0 := 0) rfl rfl, fun U hU hW => ⟨rfl, by rw [hU], by rw [hU]; exact hPc, va_K.moved hW.alike hK, hDc.weaken (fun _ _ _ _ => trivial)⟩⟩ rfl rfl hl.1 rfl (lv_room (Nat.le_of_ble_eq_true rfl)) dX10_unlike_24 ⟨Nat.le_of_ble_eq_true rfl, Nat.le_of_ble_eq_true rfl⟩) hS (fun q _ h => hFc q h) hFc (fun u_842 t_842 H locs ht hvm e_842 hB hz1 hk1 hS => ?_)
      obtain ⟨hP1, -, hD1⟩ := hB
      rw [ht] at hP1
      obtain ⟨hP, hD⟩ := va_join (wr := []) (w1 := [(h0, .inr (8, [.ref q_now, .ref q_text, .int v_typed, .ref q_row, .int v_rowMany, .int (0 : Int32), .int v_length, .int v_at, .int v_wrong, .ref q_read, .ref q_ranks, .ref q_distinct, .ref q_proper, .int o_842.1, .ref q_line, .ref q_order, .int v_orderMany, .ref q_then, .ref q_bestOrder, .ref q_lineThen, .ref q_undos, .ref q_was, .int v_undoMany, .int v_drawn, .ref q_kept, .ref q_isKept])), (q_now, .inl (cJ, 120, .inr (.inl v_now))), (q_ranks, .inl (cI, 96, .inl o_842.2.1)), (q_distinct, .inl (cI, 6, .inl o_842.2.2.1)), (q_proper, .inl (cI, 6, .inl o_842.2.2.2.1)), (q_line, .inl (cI, 16, .inl o_842.2.2.2.2))]) hP hD [0, 1, 2, 3, 4, 5] [] rfl rfl (by decide) (by decide) hk1 hFc hP1 hD1
      replace hP := hP.sub (ws' := [(h0, .inr (8, [.ref q_now, .ref q_text, .int v_typed, .ref q_row, .int v_rowMany, .int (0 : Int32), .int v_length, .int v_at, .int v_wrong, .ref q_read, .ref q_ranks, .ref q_distinct, .ref q_proper, .int o_842.1, .ref q_line, .ref q_order, .int v_orderMany, .ref q_then, .ref q_bestOrder, .ref q_lineThen, .ref q_undos, .ref q_was, .int v_undoMany, .int v_drawn, .ref q_kept, .ref q_isKept])), (q_now, .inl (cJ, 120, .inr (.inl v_now))), (q_ranks, .inl (cI, 96, .inl o_842.2.1)), (q_distinct, .inl (cI, 6, .inl o_842.2.2.1)), (q_proper, .inl (cI, 6, .inl o_842.2.2.2.1)), (q_line, .inl (cI, 16, .inl o_842.2.2.2.2))]) [0, 1, 2, 3, 4, 5] rfl
      replace hD := hD.sub (ws' := [(h0, .inr (8, [.ref q_now, .ref q_text, .int v_typed, .ref q_row, .int v_rowMany, .int (0 : Int32), .int v_length, .int v_at, .int v_wrong, .ref q_read, .ref q_ranks, .ref q_distinct, .ref q_proper, .int o_842.1, .ref q_line, .ref q_order, .int v_orderMany, .ref q_then, .ref q_bestOrder, .ref q_lineThen, .ref q_undos, .ref q_was, .int v_undoMany, .int v_drawn, .ref q_kept, .ref q_isKept])), (q_now, .inl (cJ, 120, .inr (.inl v_now))), (q_ranks, .inl (cI, 96, .inl o_842.2.1)), (q_distinct, .inl (cI, 6, .inl o_842.2.2.1)), (q_proper, .inl (cI, 6, .inl o_842.2.2.2.1)), (q_line, .inl (cI, 16, .inl o_842.2.2.2.2))]) [0, 1, 2, 3, 4, 5] (by decide) rfl
      refine lv_aload_n hx hb dX10_unlike_27 rfl (lv_at hl 0 rfl) ?_
      refine lv_iload_n hx hb dX10_unlike_28 rfl (lv_at hl 1 rfl) ?_
      refine lv_iload_n hx hb dX10_unlike_29 rfl (lv_at hl 2 rfl) ?_
      obtain ⟨o_844, hr_844, h⟩ := ob h
      refine vp_callSi (va_Run.run (va_runV (As := [.int x1, .int x2]) (rest := []) ⟨hx, hb, hml, hown, hts⟩ (c_X10_unlikeOf l dC dI cB cC cI cJ cZ cT h0 q_now q_text q_row q_read q_ranks q_distinct q_proper q_line q_order q_then q_bestOrder q_lineThen q_undos q_was q_kept q_isKept v_typed v_rowMany (0 : Int32) v_length v_at v_wrong o_842.1 v_orderMany v_undoMany v_drawn o_842.2.1 o_842.2.2.2.1 x1 x2 o_844 hr_844) (cwV 2 hts gX10_unlike_X10_unlikeOf rfl rfl rfl (by decide +kernel) ⟨Nat.le_of_ble_eq_true rfl, Nat.le_of_ble_eq_true rfl⟩) ⟨blR, va_recv hK hP (ci := 8) (q0 := 0) rfl rfl, fun U hU hW => ⟨rfl, by rw [hU]; exact hP.sub [0, 2, 4] rfl, va_K.moved hW.alike hK⟩⟩ rfl rfl hl.1 rfl (lv_room (Nat.le_of_ble_eq_true rfl)) dX10_unlike_30 ⟨Nat.le_of_ble_eq_true rfl, Nat.le_of_ble_eq_true rfl⟩)) (fun r_844 e_844 => ?_)
      subst e_844
      rw [hQQ]
      have ho := Option.some.inj h
      subst ho
      exact W.iret hx hb hr (fun t ht hW => ⟨⟨_, (), rfl, rfl, by rw [ht]; exact hP, va_K.moved hW.alike hK, hD⟩, hS.F ht⟩) hS.2.2 dX10_unlike_33
    · replace h := op c_841 h
      refine lv_iconst (v := -1) hx hb dX10_unlike_21 (by decide) ?_
      rw [hQQ]
      have ho := Option.some.inj h
      subst ho
      exact W.iret hx hb hr (fun t ht hW => ⟨⟨_, (), rfl, rfl, by rw [ht]; exact hP, va_K.moved hW.alike hK, hD⟩, hS.F ht⟩) hS.2.2 dX10_unlike_22
