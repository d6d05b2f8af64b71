def f_X1_nearest (x0 : Int64) (x2 : Int32) (x3 : Int32) (x4 : Int32) : Option Int64 :=
  (if (lg_cmp x0 (0 : Int64)) = 0 then (some (0 : Int64)) else (((if 0 ≤ (lg_cmp x0 (0 : Int64)) then (some x0) else (some (-x0)))).bind (fun v_1619 => ((f_J13_numberOfLeadingZeros_95d88 v_1619).bind (fun o_1622 => (((if (((63 : Int32) - o_1622) - x3) ≤ 0 then (some (v_1619 <<< (((-(((63 : Int32) - o_1622) - x3))).toInt64 &&& 63))) else (some (lus v_1619 (((63 : Int32) - o_1622) - x3))))).bind (fun v_1624 => (if (((63 : Int32) - o_1622) - x3) ≤ 0 then (some (((((((63 : Int32) - o_1622) - x2) + x4) - (1 : Int32)).toInt64 <<< ((x3).toInt64 &&& 63)) + v_1624)) else (if 0 < (lg_cmp (v_1619 &&& (((1 : Int64) <<< (((((63 : Int32) - o_1622) - x3)).toInt64 &&& 63)) - (1 : Int64))) ((1 : Int64) <<< ((((((63 : Int32) - o_1622) - x3) - (1 : Int32))).toInt64 &&& 63))) then (some (((((((63 : Int32) - o_1622) - x2) + x4) - (1 : Int32)).toInt64 <<< ((x3).toInt64 &&& 63)) + (v_1624 + (1 : Int64)))) else (if (lg_cmp (v_1619 &&& (((1 : Int64) <<< (((((63 : Int32) - o_1622) - x3)).toInt64 &&& 63)) - (1 : Int64))) ((1 : Int64) <<< ((((((63 : Int32) - o_1622) - x3) - (1 : Int32))).toInt64 &&& 63))) = 0 then (if (lg_cmp (v_1624 &&& (1 : Int64)) (1 : Int64)) = 0 then (some (((((((63 : Int32) - o_1622) - x2) + x4) - (1 : Int32)).toInt64 <<< ((x3).toInt64 &&& 63)) + (v_1624 + (1 : Int64)))) else (some (((((((63 : Int32) - o_1622) - x2) + x4) - (1 : Int32)).toInt64 <<< ((x3).toInt64 &&& 63)) + v_1624))) else (some (((((((63 : Int32) - o_1622) - x2) + x4) - (1 : Int32)).toInt64 <<< ((x3).toInt64 &&& 63)) + v_1624))))))))))))
abbrev rm_X1_nearest : Room := { frames := 2, cells := 0, slots := 0, locals := 43 }
set_option maxHeartbeats 4000000 in
set_option maxRecDepth 100000 in
theorem c_X1_nearest (l : Launch) (dC : Nat → ClassId) (dI : Nat → Nat → Nat) (cB cC cI cJ cZ cT : ClassId) (x0 : Int64) (x2 : Int32) (x3 : Int32) (x4 : Int32) (o : Int64) (hf : f_X1_nearest x0 x2 x3 x4 = some o) : Met l yX1_nearest wsX1_nearest rm_X1_nearest (va_Pc [.long x0, .int x2, .int x3, .int x4] (fun _ => True)) (vp_Sl (fun r => o = r)) 0 0 (fun _ => False) := by
  refine Met.ofW (cc := cX1_nearest) (maxL := 15) (ret := (some .long)) (by decide +kernel) rfl ?_
  intro p e s m args below meth c s₁ B hml hv
  obtain ⟨hav, -⟩ := hv
  have hx := B.exec
  have hb := B.bytes
  have hr := B.returns
  have hts := atoms_spec (ws := wsX1_nearest) B.pre
  have hown : s.vm.findClass RX1 = some m.cls := findClass_of_methodNamed B.named
  have hlocks := B.notSynchronized
  refine wstart (rm := rm_X1_nearest) hav (Nat.le_of_ble_eq_true rfl) (fun QQ ls hQQ hl => ?_)
  have hl : lv_has ls 15 [(0, .long x0), (2, .int x2), (3, .int x3), (4, .int x4)] := hl
  have h := hf
  unfold f_X1_nearest at h
  refine lv_lload_n hx hb dX1_nearest_0 rfl (lv_at hl 0 rfl) ?_
  refine lv_lconst (v := 0) hx hb dX1_nearest_1 (by decide) ?_
  refine W.lcmp hx hb dX1_nearest_2 ?_
  refine lv_if_ne (tgt := 8) hx hb dX1_nearest_3 (by decide) (fun c_1618 => ?_) (fun c_1618 => ?_)
  · replace h := on c_1618 h
    refine lv_lload_n hx hb dX1_nearest_8 rfl (lv_at hl 0 rfl) ?_
    refine lv_lconst (v := 0) hx hb dX1_nearest_9 (by decide) ?_
    refine W.lcmp hx hb dX1_nearest_10 ?_
    obtain ⟨v_1619, hv_1619, h⟩ := ob h
    have J_1619 : ∀ (ls : Array Slot), lv_has ls 15 [(2, .int x2), (3, .int x3), (4, .int x4)] → W p l e rm_X1_nearest s m args below meth c s.heap [] 0 0 QQ (F0 m 20 ls [.long v_1619]) := by
      intro ls hl
      refine lv_lstore (lv' := [(5, .long v_1619), (2, .int x2), (3, .int x3), (4, .int x4)]) hx hb dX1_nearest_20 hl (by decide) rfl (fun ls hl => ?_)
      refine lv_bipush (v := 63) hx hb dX1_nearest_22 (by decide) ?_
      refine lv_lload hx hb dX1_nearest_24 (lv_at hl 0 rfl) ?_
      obtain ⟨o_1622, hr_1622, h⟩ := ob h
      refine vp_callSi (va_Run.run (va_runS (As := [.long v_1619]) (rest := [.int (63 : Int32)]) ⟨hx, hb, hml, hown, hts⟩ (c_J13_numberOfLeadingZeros_95d88 l dC dI cB cC cI cJ cZ cT v_1619 o_1622 hr_1622) (va_cwS 1 hts gX1_nearest_J13_numberOfLeadingZeros_95d88 rfl rfl rfl (by decide +kernel) ⟨Nat.le_of_ble_eq_true rfl, Nat.le_of_ble_eq_true rfl⟩) ⟨blT, fun U hU hW => ⟨rfl, trivial⟩⟩ rfl rfl hl.1 rfl (lv_room (Nat.le_of_ble_eq_true rfl)) dX1_nearest_26 ⟨Nat.le_of_ble_eq_true rfl, Nat.le_of_ble_eq_true rfl⟩)) (fun r_1622 e_1622 => ?_)
      subst e_1622
      refine lv_isub hx hb dX1_nearest_29 ?_
      refine lv_istore (lv' := [(7, .int ((63 : Int32) - o_1622)), (5, .long v_1619), (2, .int x2), (3, .int x3), (4, .int x4)]) hx hb dX1_nearest_30 hl (by decide) rfl (fun ls hl => ?_)
      refine lv_iload hx hb dX1_nearest_32 (lv_at hl 0 rfl) ?_
      refine lv_iload_n hx hb dX1_nearest_34 rfl (lv_at hl 3 rfl) ?_
      refine lv_isub hx hb dX1_nearest_35 ?_
      refine lv_istore (lv' := [(8, .int (((63 : Int32) - o_1622) - x3)), (7, .int ((63 : Int32) - o_1622)), (5, .long v_1619), (2, .int x2), (3, .int x3), (4, .int x4)]) hx hb dX1_nearest_36 hl (by decide) rfl (fun ls hl => ?_)
      refine lv_iload hx hb dX1_nearest_38 (lv_at hl 0 rfl) ?_
      obtain ⟨v_1624, hv_1624, h⟩ := ob h
      have J_1624 : ∀ (ls : Array Slot), lv_has ls 15 [(2, .int x2), (3, .int x3), (4, .int x4), (5, .long v_1619), (7, .int ((63 : Int32) - o_1622)), (8, .int (((63 : Int32) - o_1622) - x3))] → W p l e rm_X1_nearest s m args below meth c s.heap [] 0 0 QQ (F0 m 57 ls [.long v_1624]) := by
        intro ls hl
        refine lv_lstore (lv' := [(9, .long v_1624), (2, .int x2), (3, .int x3), (4, .int x4), (5, .long v_1619), (7, .int ((63 : Int32) - o_1622)), (8, .int (((63 : Int32) - o_1622) - x3))]) hx hb dX1_nearest_57 hl (by decide) rfl (fun ls hl => ?_)
        refine lv_iload hx hb dX1_nearest_59 (lv_at hl 6 rfl) ?_
        refine lv_if_le (tgt := 114) hx hb dX1_nearest_61 (by decide) (fun c_1627 => ?_) (fun c_1627 => ?_)
        · replace h := op c_1627 h
          refine lv_iload hx hb dX1_nearest_114 (lv_at hl 5 rfl) ?_
          refine lv_iload_n hx hb dX1_nearest_116 rfl (lv_at hl 1 rfl) ?_
          refine lv_isub hx hb dX1_nearest_117 ?_
          refine lv_iload hx hb dX1_nearest_118 (lv_at hl 3 rfl) ?_
          refine lv_iadd hx hb dX1_nearest_120 ?_
          refine lv_iconst (v := 1) hx hb dX1_nearest_121 (by decide) ?_
          refine lv_isub hx hb dX1_nearest_122 ?_
          refine lv_i2l (v := (((((63 : Int32) - o_1622) - x2) + x4) - (1 : Int32)).toInt64) hx hb dX1_nearest_123 rfl ?_
          refine lv_iload_n hx hb dX1_nearest_124 rfl (lv_at hl 2 rfl) ?_
          refine lv_lshl (v := ((((((63 : Int32) - o_1622) - x2) + x4) - (1 : Int32)).toInt64 <<< ((x3).toInt64 &&& 63))) hx hb dX1_nearest_125 rfl ?_
          refine lv_lload hx hb dX1_nearest_126 (lv_at hl 0 rfl) ?_
          refine lv_ladd hx hb dX1_nearest_128 ?_
          rw [hQQ]
          exact W.lret hx hb hr (fun t ht hW => ⟨_, rfl, (Option.some.inj h).symm, ht⟩) (fun q hq => absurd hq List.not_mem_nil) dX1_nearest_129
        · replace h := on c_1627 h
          refine lv_lload hx hb dX1_nearest_64 (lv_at hl 4 rfl) ?_
          refine lv_lconst (v := 1) hx hb dX1_nearest_66 (by decide) ?_
          refine lv_iload hx hb dX1_nearest_67 (lv_at hl 6 rfl) ?_
          refine lv_lshl (v := ((1 : Int64) <<< (((((63 : Int32) - o_1622) - x3)).toInt64 &&& 63))) hx hb dX1_nearest_69 rfl ?_
          refine lv_lconst (v := 1) hx hb dX1_nearest_70 (by decide) ?_
          refine lv_lsub hx hb dX1_nearest_71 ?_
          refine lv_land hx hb dX1_nearest_72 ?_
          refine lv_lstore (lv' := [(11, .long (v_1619 &&& (((1 : Int64) <<< (((((63 : Int32) - o_1622) - x3)).toInt64 &&& 63)) - (1 : Int64)))), (9, .long v_1624), (2, .int x2), (3, .int x3), (4, .int x4), (5, .long v_1619), (7, .int ((63 : Int32) - o_1622)), (8, .int (((63 : Int32) - o_1622) - x3))]) hx hb dX1_nearest_73 hl (by decide) rfl (fun ls hl => ?_)
          refine lv_lconst (v := 1) hx hb dX1_nearest_75 (by decide) ?_
          refine lv_iload hx hb dX1_nearest_76 (lv_at hl 7 rfl) ?_
          refine lv_iconst (v := 1) hx hb dX1_nearest_78 (by decide) ?_
          refine lv_isub hx hb dX1_nearest_79 ?_
          refine lv_lshl (v := ((1 : Int64) <<< ((((((63 : Int32) - o_1622) - x3) - (1 : Int32))).toInt64 &&& 63))) hx hb dX1_nearest_80 rfl ?_
          refine lv_lstore (lv' := [(13, .long ((1 : Int64) <<< ((((((63 : Int32) - o_1622) - x3) - (1 : Int32))).toInt64 &&& 63))), (11, .long (v_1619 &&& (((1 : Int64) <<< (((((63 : Int32) - o_1622) - x3)).toInt64 &&& 63)) - (1 : Int64)))), (9, .long v_1624), (2, .int x2), (3, .int x3), (4, .int x4), (5, .long v_1619), (7, .int ((63 : Int32) - o_1622)), (8, .int (((63 : Int32) - o_1622) - x3))]) hx hb dX1_nearest_81 hl (by decide) rfl (fun ls hl => ?_)
          refine lv_lload hx hb dX1_nearest_83 (lv_at hl 1 rfl) ?_
          refine lv_lload hx hb dX1_nearest_85 (lv_at hl 0 rfl) ?_
          refine W.lcmp hx hb dX1_nearest_87 ?_
          refine lv_if_gt (tgt := 108) hx hb dX1_nearest_88 (by decide) (fun c_1628 => ?_) (fun c_1628 => ?_)
          · replace h := op c_1628 h
            refine lv_lload hx hb dX1_nearest_108 (lv_at hl 2 rfl) ?_
            refine lv_lconst (v := 1) hx hb dX1_nearest_110 (by decide) ?_
            refine lv_ladd hx hb dX1_nearest_111 ?_
            refine lv_lstore (lv' := [(9, .long (v_1624 + (1 : Int64))), (13, .long ((1 : Int64) <<< ((((((63 : Int32) - o_1622) - x3) - (1 : Int32))).toInt64 &&& 63))), (11, .long (v_1619 &&& (((1 : Int64) <<< (((((63 : Int32) - o_1622) - x3)).toInt64 &&& 63)) - (1 : Int64)))), (2, .int x2), (3, .int x3), (4, .int x4), (5, .long v_1619), (7, .int ((63 : Int32) - o_1622)), (8, .int (((63 : Int32) - o_1622) - x3))]) hx hb dX1_nearest_112 hl (by decide) rfl (fun ls hl => ?_)
            refine lv_iload hx hb dX1_nearest_114 (lv_at hl 7 rfl) ?_
            refine lv_iload_n hx hb dX1_nearest_116 rfl (lv_at hl 3 rfl) ?_
            refine lv_isub hx hb dX1_nearest_117 ?_
            refine lv_iload hx hb dX1_nearest_118 (lv_at hl 5 rfl) ?_
            refine lv_iadd hx hb dX1_nearest_120 ?_
            refine lv_iconst (v := 1) hx hb dX1_nearest_121 (by decide) ?_
            refine lv_isub hx hb dX1_nearest_122 ?_
            refine lv_i2l (v := (((((63 : Int32) - o_1622) - x2) + x4) - (1 : Int32)).toInt64) hx hb dX1_nearest_123 rfl ?_
            refine lv_iload_n hx hb dX1_nearest_124 rfl (lv_at hl 4 rfl) ?_
            refine lv_lshl (v := ((((((63 : Int32) - o_1622) - x2) + x4) - (1 : Int32)).toInt64 <<< ((x3).toInt64 &&& 63))) hx hb dX1_nearest_125 rfl ?_
            refine lv_lload hx hb dX1_nearest_126 (lv_at hl 0 rfl) ?_
            refine lv_ladd hx hb dX1_nearest_128 ?_
            rw [hQQ]
            exact W.lret hx hb hr (fun t ht hW => ⟨_, rfl, (Option.some.inj h).symm, ht⟩) (fun q hq => absurd hq List.not_mem_nil) dX1_nearest_129
          · replace h := on c_1628 h
            refine lv_lload hx hb dX1_nearest_91 (lv_at hl 1 rfl) ?_
            refine lv_lload hx hb dX1_nearest_93 (lv_at hl 0 rfl) ?_
            refine W.lcmp hx hb dX1_nearest_95 ?_
            refine lv_if_ne (tgt := 114) hx hb dX1_nearest_96 (by decide) (fun c_1629 => ?_) (fun c_1629 => ?_)
            · replace h := on c_1629 h
              refine lv_iload hx hb dX1_nearest_114 (lv_at hl 7 rfl) ?_
              refine lv_iload_n hx hb dX1_nearest_116 rfl (lv_at hl 3 rfl) ?_
              refine lv_isub hx hb dX1_nearest_117 ?_
              refine lv_iload hx hb dX1_nearest_118 (lv_at hl 5 rfl) ?_
              refine lv_iadd hx hb dX1_nearest_120 ?_
              refine lv_iconst (v := 1) hx hb dX1_nearest_121 (by decide) ?_
              refine lv_isub hx hb dX1_nearest_122 ?_
              refine lv_i2l (v := (((((63 : Int32) - o_1622) - x2) + x4) - (1 : Int32)).toInt64) hx hb dX1_nearest_123 rfl ?_
              refine lv_iload_n hx hb dX1_nearest_124 rfl (lv_at hl 4 rfl) ?_
              refine lv_lshl (v := ((((((63 : Int32) - o_1622) - x2) + x4) - (1 : Int32)).toInt64 <<< ((x3).toInt64 &&& 63))) hx hb dX1_nearest_125 rfl ?_
              refine lv_lload hx hb dX1_nearest_126 (lv_at hl 2 rfl) ?_
              refine lv_ladd hx hb dX1_nearest_128 ?_
              rw [hQQ]
              exact W.lret hx hb hr (fun t ht hW => ⟨_, rfl, (Option.some.inj h).symm, ht⟩) (fun q hq => absurd hq List.not_mem_nil) dX1_nearest_129
            · replace h := op c_1629 h
              refine lv_lload hx hb dX1_nearest_99 (lv_at hl 2 rfl) ?_
              refine lv_lconst (v := 1) hx hb dX1_nearest_101 (by decide) ?_
              refine lv_land hx hb dX1_nearest_102 ?_
              refine lv_lconst (v := 1) hx hb dX1_nearest_103 (by decide) ?_
              refine W.lcmp hx hb dX1_nearest_104 ?_
              refine lv_if_ne (tgt := 114) hx hb dX1_nearest_105 (by decide) (fun c_1630 => ?_) (fun c_1630 => ?_)
              · replace h := on c_1630 h
                refine lv_iload hx hb dX1_nearest_114 (lv_at hl 7 rfl) ?_
                refine lv_iload_n hx hb dX1_nearest_116 rfl (lv_at hl 3 rfl) ?_
                refine lv_isub hx hb dX1_nearest_117 ?_
                refine lv_iload hx hb dX1_nearest_118 (lv_at hl 5 rfl) ?_
                refine lv_iadd hx hb dX1_nearest_120 ?_
                refine lv_iconst (v := 1) hx hb dX1_nearest_121 (by decide) ?_
                refine lv_isub hx hb dX1_nearest_122 ?_
                refine lv_i2l (v := (((((63 : Int32) - o_1622) - x2) + x4) - (1 : Int32)).toInt64) hx hb dX1_nearest_123 rfl ?_
                refine lv_iload_n hx hb dX1_nearest_124 rfl (lv_at hl 4 rfl) ?_
                refine lv_lshl (v := ((((((63 : Int32) - o_1622) - x2) + x4) - (1 : Int32)).toInt64 <<< ((x3).toInt64 &&& 63))) hx hb dX1_nearest_125 rfl ?_
                refine lv_lload hx hb dX1_nearest_126 (lv_at hl 2 rfl) ?_
                refine lv_ladd hx hb dX1_nearest_128 ?_
                rw [hQQ]
                exact W.lret hx hb hr (fun t ht hW => ⟨_, rfl, (Option.some.inj h).symm, ht⟩) (fun q hq => absurd hq List.not_mem_nil) dX1_nearest_129
              · replace h := op c_1630 h
                refine lv_lload hx hb dX1_nearest_108 (lv_at hl 2 rfl) ?_
                refine lv_lconst (v := 1) hx hb dX1_nearest_110 (by decide) ?_
                refine lv_ladd hx hb dX1_nearest_111 ?_
                refine lv_lstore (lv' := [(9, .long (v_1624 + (1 : Int64))), (13, .long ((1 : Int64) <<< ((((((63 : Int32) - o_1622) - x3) - (1 : Int32))).toInt64 &&& 63))), (11, .long (v_1619 &&& (((1 : Int64) <<< (((((63 : Int32) - o_1622) - x3)).toInt64 &&& 63)) - (1 : Int64)))), (2, .int x2), (3, .int x3), (4, .int x4), (5, .long v_1619), (7, .int ((63 : Int32) - o_1622)), (8, .int (((63 : Int32) - o_1622) - x3))]) hx hb dX1_nearest_112 hl (by decide) rfl (fun ls hl => ?_)
                refine lv_iload hx hb dX1_nearest_114 (lv_at hl 7 rfl) ?_
                refine lv_iload_n hx hb dX1_nearest_116 rfl (lv_at hl 3 rfl) ?_
                refine lv_isub hx hb dX1_nearest_117 ?_
                refine lv_iload hx hb dX1_nearest_118 (lv_at hl 5 rfl) ?_
                refine lv_iadd hx hb dX1_nearest_120 ?_
                refine lv_iconst (v := 1) hx hb dX1_nearest_121 (by decide) ?_
                refine lv_isub hx hb dX1_nearest_122 ?_
                refine lv_i2l (v := (((((63 : Int32) - o_1622) - x2) + x4) - (1 : Int32)).toInt64) hx hb dX1_nearest_123 rfl ?_
                refine lv_iload_n hx hb dX1_nearest_124 rfl (lv_at hl 4 rfl) ?_
                refine lv_lshl (v := ((((((63 : Int32) - o_1622) - x2) + x4) - (1 : Int32)).toInt64 <<< ((x3).toInt64 &&& 63))) hx hb dX1_nearest_125 rfl ?_
                refine lv_lload hx hb dX1_nearest_126 (lv_at hl 0 rfl) ?_
                refine lv_ladd hx hb dX1_nearest_128 ?_
                rw [hQQ]
                exact W.lret hx hb hr (fun t ht hW => ⟨_, rfl, (Option.some.inj h).symm, ht⟩) (fun q hq => absurd hq List.not_mem_nil) dX1_nearest_129
      replace h := hv_1624
      refine lv_if_le (tgt := 51) hx hb dX1_nearest_40 (by decide) (fun c_1626 => ?_) (fun c_1626 => ?_)
      · replace h := op c_1626 h
        refine lv_lload hx hb dX1_nearest_51 (lv_at hl 2 rfl) ?_
        refine lv_iload hx hb dX1_nearest_53 (lv_at hl 0 rfl) ?_
        refine lv_ineg hx hb dX1_nearest_55 ?_
        refine lv_lshl (v := (v_1619 <<< (((-(((63 : Int32) - o_1622) - x3))).toInt64 &&& 63))) hx hb dX1_nearest_56 rfl ?_
        have ho := Option.some.inj h
        subst ho
        exact J_1624 ls (lv_sub hl [3, 4, 5, 2, 1, 0] rfl)
      · replace h := on c_1626 h
        refine lv_lload hx hb dX1_nearest_43 (lv_at hl 2 rfl) ?_
        refine lv_iload hx hb dX1_nearest_45 (lv_at hl 0 rfl) ?_
        refine lv_lushr (v := (lus v_1619 (((63 : Int32) - o_1622) - x3))) hx hb dX1_nearest_47 rfl ?_
        refine lv_goto (tgt := 57) hx hb dX1_nearest_48 (by decide) ?_
        have ho := Option.some.inj h
        subst ho
        exact J_1624 ls (lv_sub hl [3, 4, 5, 2, 1, 0] rfl)
    replace h := hv_1619
    refine lv_if_ge (tgt := 19) hx hb dX1_nearest_11 (by decide) (fun c_1621 => ?_) (fun c_1621 => ?_)
    · replace h := op c_1621 h
      refine lv_lload_n hx hb dX1_nearest_19 rfl (lv_at hl 0 rfl) ?_
      have ho := Option.some.inj h
      subst ho
      exact J_1619 ls (lv_sub hl [1, 2, 3] rfl)
    · replace h := on c_1621 h
      refine lv_lload_n hx hb dX1_nearest_14 rfl (lv_at hl 0 rfl) ?_
      refine lv_lneg hx hb dX1_nearest_15 ?_
      refine lv_goto (tgt := 20) hx hb dX1_nearest_16 (by decide) ?_
      have ho := Option.some.inj h
      subst ho
      exact J_1619 ls (lv_sub hl [1, 2, 3] rfl)
  · replace h := op c_1618 h
    refine lv_lconst (v := 0) hx hb dX1_nearest_6 (by decide) ?_
    rw [hQQ]
    exact W.lret hx hb hr (fun t ht hW => ⟨_, rfl, (Option.some.inj h).symm, ht⟩) (fun q hq => absurd hq List.not_mem_nil) dX1_nearest_7
def f_X1_nearestFloat (x0 : Int64) (x2 : Int32) : Option Int64 :=
  ((f_X1_nearest x0 x2 (23 : Int32) (127 : Int32)).bind (fun o_1631 => (if 0 ≤ (lg_cmp x0 (0 : Int64)) then (some o_1631) else (some (o_1631 ||| (-2147483648 : Int64))))))
abbrev rm_X1_nearestFloat : Room := { frames := 3, cells := 0, slots := 0, locals := 77 }
set_option maxHeartbeats 4000000 in
set_option maxRecDepth 100000 in
theorem c_X1_nearestFloat (l : Launch) (dC : Nat → ClassId) (dI : Nat → Nat → Nat) (cB cC cI cJ cZ cT : ClassId) (x0 : Int64) (x2 : Int32) (o : Int64) (hf : f_X1_nearestFloat x0 x2 = some o) : Met l yX1_nearestFloat wsX1_nearestFloat rm_X1_nearestFloat (va_Pc [.long x0, .int x2] (fun _ => True)) (vp_Sl (fun r => o = r)) 0 0 (fun _ => False) := by
  refine Met.ofW (cc := cX1_nearestFloat) (maxL := 5) (ret := (some .long)) (by decide +kernel) rfl ?_
  intro p e s m args below meth c s₁ B hml hv
  obtain ⟨hav, -⟩ := hv
  have hx := B.exec
  have hb := B.bytes
  have hr := B.returns
  have hts := atoms_spec (ws := wsX1_nearestFloat) B.pre
  have hown : s.vm.findClass RX1 = some m.cls := findClass_of_methodNamed B.named
  have hlocks := B.notSynchronized
  refine wstart (rm := rm_X1_nearestFloat) hav (Nat.le_of_ble_eq_true rfl) (fun QQ ls hQQ hl => ?_)
  have hl : lv_has ls 5 [(0, .long x0), (2, .int x2)] := hl
  have h := hf
  unfold f_X1_nearestFloat at h
  refine lv_lload_n hx hb dX1_nearestFloat_0 rfl (lv_at hl 0 rfl) ?_
  refine lv_iload_n hx hb dX1_nearestFloat_1 rfl (lv_at hl 1 rfl) ?_
  refine lv_bipush (v := 23) hx hb dX1_nearestFloat_2 (by decide) ?_
  refine lv_bipush (v := 127) hx hb dX1_nearestFloat_4 (by decide) ?_
  obtain ⟨o_1631, hr_1631, h⟩ := ob h
  refine vp_callSl (va_Run.run (va_runS (As := [.long x0, .int x2, .int (23 : Int32), .int (127 : Int32)]) (rest := []) ⟨hx, hb, hml, hown, hts⟩ (c_X1_nearest l dC dI cB cC cI cJ cZ cT x0 x2 (23 : Int32) (127 : Int32) o_1631 hr_1631) (va_cwS 4 hts gX1_nearestFloat_X1_nearest rfl rfl rfl (by decide +kernel) ⟨Nat.le_of_ble_eq_true rfl, Nat.le_of_ble_eq_true rfl⟩) ⟨blT, fun U hU hW => ⟨rfl, trivial⟩⟩ rfl rfl hl.1 rfl (lv_room (Nat.le_of_ble_eq_true rfl)) dX1_nearestFloat_6 ⟨Nat.le_of_ble_eq_true rfl, Nat.le_of_ble_eq_true rfl⟩)) (fun r_1631 e_1631 => ?_)
  subst e_1631
  refine lv_lstore_n (lv' := [(3, .long o_1631), (0, .long x0), (2, .int x2)]) hx hb dX1_nearestFloat_9 rfl hl (by decide) rfl (fun ls hl => ?_)
  refine lv_lload_n hx hb dX1_nearestFloat_10 rfl (lv_at hl 1 rfl) ?_
  refine lv_lconst (v := 0) hx hb dX1_nearestFloat_11 (by decide) ?_
  refine W.lcmp hx hb dX1_nearestFloat_12 ?_
  refine lv_if_ge (tgt := 24) hx hb dX1_nearestFloat_13 (by decide) (fun c_1633 => ?_) (fun c_1633 => ?_)
  · replace h := op c_1633 h
    refine lv_lload_n hx hb dX1_nearestFloat_24 rfl (lv_at hl 0 rfl) ?_
    rw [hQQ]
    exact W.lret hx hb hr (fun t ht hW => ⟨_, rfl, (Option.some.inj h).symm, ht⟩) (fun q hq => absurd hq List.not_mem_nil) dX1_nearestFloat_25
  · replace h := on c_1633 h
    refine lv_lload_n hx hb dX1_nearestFloat_16 rfl (lv_at hl 0 rfl) ?_
    refine lv_ldc2 (v := -2147483648) hx hb hown (hts _ (List.mem_of_getElem? (i := 1) rfl)) dX1_nearestFloat_17 ?_
    refine lv_lor hx hb dX1_nearestFloat_20 ?_
    refine lv_goto (tgt := 25) hx hb dX1_nearestFloat_21 (by decide) ?_
    rw [hQQ]
    exact W.lret hx hb hr (fun t ht hW => ⟨_, rfl, (Option.some.inj h).symm, ht⟩) (fun q hq => absurd hq List.not_mem_nil) dX1_nearestFloat_25
def f_X1_nearestDouble (x0 : Int64) (x2 : Int32) : Option Int64 :=
  ((f_X1_nearest x0 x2 (52 : Int32) (1023 : Int32)).bind (fun o_1634 => (if 0 ≤ (lg_cmp x0 (0 : Int64)) then (some o_1634) else (some (o_1634 ||| (-9223372036854775808 : Int64))))))
abbrev rm_X1_nearestDouble : Room := { frames := 3, cells := 0, slots := 0, locals := 77 }
set_option maxHeartbeats 4000000 in
set_option maxRecDepth 100000 in
theorem c_X1_nearestDouble (l : Launch) (dC : Nat → ClassId) (dI : Nat → Nat → Nat) (cB cC cI cJ cZ cT : ClassId) (x0 : Int64) (x2 : Int32) (o : Int64) (hf : f_X1_nearestDouble x0 x2 = some o) : Met l yX1_nearestDouble wsX1_nearestDouble rm_X1_nearestDouble (va_Pc [.long x0, .int x2] (fun _ => True)) (vp_Sl (fun r => o = r)) 0 0 (fun _ => False) := by
  refine Met.ofW (cc := cX1_nearestDouble) (maxL := 5) (ret := (some .long)) (by decide +kernel) rfl ?_
  intro p e s m args below meth c s₁ B hml hv
  obtain ⟨hav, -⟩ := hv
  have hx := B.exec
  have hb := B.bytes
  have hr := B.returns
  have hts := atoms_spec (ws := wsX1_nearestDouble) B.pre
  have hown : s.vm.findClass RX1 = some m.cls := findClass_of_methodNamed B.named
  have hlocks := B.notSynchronized
  refine wstart (rm := rm_X1_nearestDouble) hav (Nat.le_of_ble_eq_true rfl) (fun QQ ls hQQ hl => ?_)
  have hl : lv_has ls 5 [(0, .long x0), (2, .int x2)] := hl
  have h := hf
  unfold f_X1_nearestDouble at h
  refine lv_lload_n hx hb dX1_nearestDouble_0 rfl (lv_at hl 0 rfl) ?_
  refine lv_iload_n hx hb dX1_nearestDouble_1 rfl (lv_at hl 1 rfl) ?_
  refine lv_bipush (v := 52) hx hb dX1_nearestDouble_2 (by decide) ?_
  refine lv_sipush (v := 1023) hx hb dX1_nearestDouble_4 (by decide) ?_
  obtain ⟨o_1634, hr_1634, h⟩ := ob h
  refine vp_callSl (va_Run.run (va_runS (As := [.long x0, .int x2, .int (52 : Int32), .int (1023 : Int32)]) (rest := []) ⟨hx, hb, hml, hown, hts⟩ (c_X1_nearest l dC dI cB cC cI cJ cZ cT x0 x2 (52 : Int32) (1023 : Int32) o_1634 hr_1634) (va_cwS 4 hts gX1_nearestDouble_X1_nearest rfl rfl rfl (by decide +kernel) ⟨Nat.le_of_ble_eq_true rfl, Nat.le_of_ble_eq_true rfl⟩) ⟨blT, fun U hU hW => ⟨rfl, trivial⟩⟩ rfl rfl hl.1 rfl (lv_room (Nat.le_of_ble_eq_true rfl)) dX1_nearestDouble_7 ⟨Nat.le_of_ble_eq_true rfl, Nat.le_of_ble_eq_true rfl⟩)) (fun r_1634 e_1634 => ?_)
  subst e_1634
  refine lv_lstore_n (lv' := [(3, .long o_1634), (0, .long x0), (2, .int x2)]) hx hb dX1_nearestDouble_10 rfl hl (by decide) rfl (fun ls hl => ?_)
  refine lv_lload_n hx hb dX1_nearestDouble_11 rfl (lv_at hl 1 rfl) ?_
  refine lv_lconst (v := 0) hx hb dX1_nearestDouble_12 (by decide) ?_
  refine W.lcmp hx hb dX1_nearestDouble_13 ?_
  refine lv_if_ge (tgt := 25) hx hb dX1_nearestDouble_14 (by decide) (fun c_1636 => ?_) (fun c_1636 => ?_)
  · replace h := op c_1636 h
    refine lv_lload_n hx hb dX1_nearestDouble_25 rfl (lv_at hl 0 rfl) ?_
    rw [hQQ]
    exact W.lret hx hb hr (fun t ht hW => ⟨_, rfl, (Option.some.inj h).symm, ht⟩) (fun q hq => absurd hq List.not_mem_nil) dX1_nearestDouble_26
  · replace h := on c_1636 h
    refine lv_lload_n hx hb dX1_nearestDouble_17 rfl (lv_at hl 0 rfl) ?_
    refine lv_ldc2 (v := -9223372036854775808) hx hb hown (hts _ (List.mem_of_getElem? (i := 1) rfl)) dX1_nearestDouble_18 ?_
    refine lv_lor hx hb dX1_nearestDouble_21 ?_
    refine lv_goto (tgt := 26) hx hb dX1_nearestDouble_22 (by decide) ?_
    rw [hQQ]
    exact W.lret hx hb hr (fun t ht hW => ⟨_, rfl, (Option.some.inj h).symm, ht⟩) (fun q hq => absurd hq List.not_mem_nil) dX1_nearestDouble_26
def f_X1_doubleOfFloat (x0 : Int64) : Option Int64 :=
  (if (lg_cmp x0 (0 : Int64)) = 0 then (some (0 : Int64)) else (if 0 ≤ (lg_cmp x0 (0 : Int64)) then (some ((((((x0 >>> (((23 : Int32)).toInt64 &&& 63)) &&& (255 : Int64)) + (1023 : Int64)) - (127 : Int64)) <<< (((52 : Int32)).toInt64 &&& 63)) ||| ((x0 &&& (8388607 : Int64)) <<< (((29 : Int32)).toInt64 &&& 63)))) else (some (((((((x0 >>> (((23 : Int32)).toInt64 &&& 63)) &&& (255 : Int64)) + (1023 : Int64)) - (127 : Int64)) <<< (((52 : Int32)).toInt64 &&& 63)) ||| ((x0 &&& (8388607 : Int64)) <<< (((29 : Int32)).toInt64 &&& 63))) ||| (-9223372036854775808 : Int64)))))
abbrev rm_X1_doubleOfFloat : Room := { frames := 0, cells := 0, slots := 0, locals := 0 }
set_option maxHeartbeats 4000000 in
set_option maxRecDepth 100000 in
theorem c_X1_doubleOfFloat (l : Launch) (dC : Nat → ClassId) (dI : Nat → Nat → Nat) (cB cC cI cJ cZ cT : ClassId) (x0 : Int64) (o : Int64) (hf : f_X1_doubleOfFloat x0 = some o) : Met l yX1_doubleOfFloat wsX1_doubleOfFloat rm_X1_doubleOfFloat (va_Pc [.long x0] (fun _ => True)) (vp_Sl (fun r => o = r)) 0 0 (fun _ => False) := by
  refine Met.ofW (cc := cX1_doubleOfFloat) (maxL := 8) (ret := (some .long)) (by decide +kernel) rfl ?_
  intro p e s m args below meth c s₁ B hml hv
  obtain ⟨hav, -⟩ := hv
  have hx := B.exec
  have hb := B.bytes
  have hr := B.returns
  have hts := atoms_spec (ws := wsX1_doubleOfFloat) B.pre
  have hown : s.vm.findClass RX1 = some m.cls := findClass_of_methodNamed B.named
  have hlocks := B.notSynchronized
  refine wstart (rm := rm_X1_doubleOfFloat) hav (Nat.le_of_ble_eq_true rfl) (fun QQ ls hQQ hl => ?_)
  have hl : lv_has ls 8 [(0, .long x0)] := hl
  have h := hf
  unfold f_X1_doubleOfFloat at h
  refine lv_lload_n hx hb dX1_doubleOfFloat_0 rfl (lv_at hl 0 rfl) ?_
  refine lv_lconst (v := 0) hx hb dX1_doubleOfFloat_1 (by decide) ?_
  refine W.lcmp hx hb dX1_doubleOfFloat_2 ?_
  refine lv_if_ne (tgt := 8) hx hb dX1_doubleOfFloat_3 (by decide) (fun c_1637 => ?_) (fun c_1637 => ?_)
  · replace h := on c_1637 h
    refine lv_lload_n hx hb dX1_doubleOfFloat_8 rfl (lv_at hl 0 rfl) ?_
    refine lv_bipush (v := 23) hx hb dX1_doubleOfFloat_9 (by decide) ?_
    refine lv_lshr (v := (x0 >>> (((23 : Int32)).toInt64 &&& 63))) hx hb dX1_doubleOfFloat_11 rfl ?_
    refine lv_ldc2 (v := 255) hx hb hown (hts _ (List.mem_of_getElem? (i := 1) rfl)) dX1_doubleOfFloat_12 ?_
    refine lv_land hx hb dX1_doubleOfFloat_15 ?_
    refine lv_ldc2 (v := 1023) hx hb hown (hts _ (List.mem_of_getElem? (i := 2) rfl)) dX1_doubleOfFloat_16 ?_
    refine lv_ladd hx hb dX1_doubleOfFloat_19 ?_
    refine lv_ldc2 (v := 127) hx hb hown (hts _ (List.mem_of_getElem? (i := 3) rfl)) dX1_doubleOfFloat_20 ?_
    refine lv_lsub hx hb dX1_doubleOfFloat_23 ?_
    refine lv_lstore_n (lv' := [(2, .long ((((x0 >>> (((23 : Int32)).toInt64 &&& 63)) &&& (255 : Int64)) + (1023 : Int64)) - (127 : Int64))), (0, .long x0)]) hx hb dX1_doubleOfFloat_24 rfl hl (by decide) rfl (fun ls hl => ?_)
    refine lv_lload_n hx hb dX1_doubleOfFloat_25 rfl (lv_at hl 1 rfl) ?_
    refine lv_ldc2 (v := 8388607) hx hb hown (hts _ (List.mem_of_getElem? (i := 4) rfl)) dX1_doubleOfFloat_26 ?_
    refine lv_land hx hb dX1_doubleOfFloat_29 ?_
    refine lv_lstore (lv' := [(4, .long (x0 &&& (8388607 : Int64))), (2, .long ((((x0 >>> (((23 : Int32)).toInt64 &&& 63)) &&& (255 : Int64)) + (1023 : Int64)) - (127 : Int64))), (0, .long x0)]) hx hb dX1_doubleOfFloat_30 hl (by decide) rfl (fun ls hl => ?_)
    refine lv_lload_n hx hb dX1_doubleOfFloat_32 rfl (lv_at hl 1 rfl) ?_
    refine lv_bipush (v := 52) hx hb dX1_doubleOfFloat_33 (by decide) ?_
    refine lv_lshl (v := (((((x0 >>> (((23 : Int32)).toInt64 &&& 63)) &&& (255 : Int64)) + (1023 : Int64)) - (127 : Int64)) <<< (((52 : Int32)).toInt64 &&& 63))) hx hb dX1_doubleOfFloat_35 rfl ?_
    refine lv_lload hx hb dX1_doubleOfFloat_36 (lv_at hl 0 rfl) ?_
    refine lv_bipush (v := 29) hx hb dX1_doubleOfFloat_38 (by decide) ?_
    refine lv_lshl (v := ((x0 &&& (8388607 : Int64)) <<< (((29 : Int32)).toInt64 &&& 63))) hx hb dX1_doubleOfFloat_40 rfl ?_
    refine lv_lor hx hb dX1_doubleOfFloat_41 ?_
    refine lv_lstore (lv' := [(6, .long ((((((x0 >>> (((23 : Int32)).toInt64 &&& 63)) &&& (255 : Int64)) + (1023 : Int64)) - (127 : Int64)) <<< (((52 : Int32)).toInt64 &&& 63)) ||| ((x0 &&& (8388607 : Int64)) <<< (((29 : Int32)).toInt64 &&& 63)))), (4, .long (x0 &&& (8388607 : Int64))), (2, .long ((((x0 >>> (((23 : Int32)).toInt64 &&& 63)) &&& (255 : Int64)) + (1023 : Int64)) - (127 : Int64))), (0, .long x0)]) hx hb dX1_doubleOfFloat_42 hl (by decide) rfl (fun ls hl => ?_)
    refine lv_lload_n hx hb dX1_doubleOfFloat_44 rfl (lv_at hl 3 rfl) ?_
    refine lv_lconst (v := 0) hx hb dX1_doubleOfFloat_45 (by decide) ?_
    refine W.lcmp hx hb dX1_doubleOfFloat_46 ?_
    refine lv_if_ge (tgt := 59) hx hb dX1_doubleOfFloat_47 (by decide) (fun c_1638 => ?_) (fun c_1638 => ?_)
    · replace h := op c_1638 h
      refine lv_lload hx hb dX1_doubleOfFloat_59 (lv_at hl 0 rfl) ?_
      rw [hQQ]
      exact W.lret hx hb hr (fun t ht hW => ⟨_, rfl, (Option.some.inj h).symm, ht⟩) (fun q hq => absurd hq List.not_mem_nil) dX1_doubleOfFloat_61
    · replace h := on c_1638 h
      refine lv_lload hx hb dX1_doubleOfFloat_50 (lv_at hl 0 rfl) ?_
      refine lv_ldc2 (v := -9223372036854775808) hx hb hown (hts _ (List.mem_of_getElem? (i := 5) rfl)) dX1_doubleOfFloat_52 ?_
      refine lv_lor hx hb dX1_doubleOfFloat_55 ?_
      refine lv_goto (tgt := 61) hx hb dX1_doubleOfFloat_56 (by decide) ?_
      rw [hQQ]
      exact W.lret hx hb hr (fun t ht hW => ⟨_, rfl, (Option.some.inj h).symm, ht⟩) (fun q hq => absurd hq List.not_mem_nil) dX1_doubleOfFloat_61
  · replace h := op c_1637 h
    refine lv_lconst (v := 0) hx hb dX1_doubleOfFloat_6 (by decide) ?_
    rw [hQQ]
    exact W.lret hx hb hr (fun t ht hW => ⟨_, rfl, (Option.some.inj h).symm, ht⟩) (fun q hq => absurd hq List.not_mem_nil) dX1_doubleOfFloat_7
