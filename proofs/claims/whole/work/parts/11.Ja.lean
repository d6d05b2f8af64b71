def f_J6_numberOfLeadingZeros_0f7a4 (x0 : Int32) : Option Int32 :=
  (if 0 < x0 then (((if x0 < (65536 : Int32) then (some (x0, (31 : Int32))) else (some ((ius x0 (16 : Int32)), (15 : Int32))))).bind (fun v_2 => (((if v_2.1 < (256 : Int32) then (some (v_2.1, v_2.2)) else (some ((ius v_2.1 (8 : Int32)), (v_2.2 + (-8)))))).bind (fun v_5 => (if v_5.1 < (16 : Int32) then (if v_5.1 < (4 : Int32) then (some (v_5.2 - (ius v_5.1 (1 : Int32)))) else (some ((v_5.2 + (-2)) - (ius (ius v_5.1 (2 : Int32)) (1 : Int32))))) else (if (ius v_5.1 (4 : Int32)) < (4 : Int32) then (some ((v_5.2 + (-4)) - (ius (ius v_5.1 (4 : Int32)) (1 : Int32)))) else (some (((v_5.2 + (-4)) + (-2)) - (ius (ius (ius v_5.1 (4 : Int32)) (2 : Int32)) (1 : Int32)))))))))) else (if x0 = 0 then (some (32 : Int32)) else (some (0 : Int32))))
abbrev rm_J6_numberOfLeadingZeros_0f7a4 : Room := { frames := 0, cells := 0, slots := 0, locals := 0 }
set_option maxHeartbeats 4000000 in
set_option maxRecDepth 100000 in
theorem c_J6_numberOfLeadingZeros_0f7a4 (l : Launch) (dC : Nat → ClassId) (dI : Nat → Nat → Nat) (cB cC cI cJ cZ cT : ClassId) (x0 : Int32) (o : Int32) (hf : f_J6_numberOfLeadingZeros_0f7a4 x0 = some o) : Met l yJ6_numberOfLeadingZeros_0f7a4 wsJ6_numberOfLeadingZeros_0f7a4 rm_J6_numberOfLeadingZeros_0f7a4 (va_Pc [.int x0] (fun _ => True)) (vp_Si (fun r => o = r)) 0 0 (fun _ => False) := by
  refine Met.ofW (cc := cJ6_numberOfLeadingZeros_0f7a4) (maxL := 2) (ret := (some .int)) (by decide +kernel) rfl ?_
  intro p e s m args below meth c s₁ B hml hv
  obtain ⟨hav, -⟩ := hv
  have hx := B.exec
  have hb := B.bytes
  have hr := B.returns
  have hts := atoms_spec (ws := wsJ6_numberOfLeadingZeros_0f7a4) B.pre
  have hown : s.vm.findClass RJ6 = some m.cls := findClass_of_methodNamed B.named
  have hlocks := B.notSynchronized
  refine wstart (rm := rm_J6_numberOfLeadingZeros_0f7a4) hav (Nat.le_of_ble_eq_true rfl) (fun QQ ls hQQ hl => ?_)
  have hl : lv_has ls 2 [(0, .int x0)] := hl
  have h := hf
  unfold f_J6_numberOfLeadingZeros_0f7a4 at h
  refine lv_iload_n hx hb dJ6_numberOfLeadingZeros_0f7a4_0 rfl (lv_at hl 0 rfl) ?_
  refine lv_if_gt (tgt := 15) hx hb dJ6_numberOfLeadingZeros_0f7a4_1 (by decide) (fun c_1 => ?_) (fun c_1 => ?_)
  · replace h := op c_1 h
    refine lv_bipush (v := 31) hx hb dJ6_numberOfLeadingZeros_0f7a4_15 (by decide) ?_
    refine lv_istore_n (lv' := [(1, .int (31 : Int32)), (0, .int x0)]) hx hb dJ6_numberOfLeadingZeros_0f7a4_17 rfl hl (by decide) rfl (fun ls hl => ?_)
    refine lv_iload_n hx hb dJ6_numberOfLeadingZeros_0f7a4_18 rfl (lv_at hl 1 rfl) ?_
    refine lv_ldcw (v := 65536) hx hb hown (hts _ (List.mem_of_getElem? (i := 1) rfl)) dJ6_numberOfLeadingZeros_0f7a4_19 ?_
    obtain ⟨v_2, hv_2, h⟩ := ob h
    have J_2 : ∀ (ls : Array Slot), lv_has ls 2 [(0, .int v_2.1), (1, .int v_2.2)] → W p l e rm_J6_numberOfLeadingZeros_0f7a4 s m args below meth c s.heap [] 0 0 QQ (F0 m 33 ls []) := by
      intro ls hl
      refine lv_iload_n hx hb dJ6_numberOfLeadingZeros_0f7a4_33 rfl (lv_at hl 0 rfl) ?_
      refine lv_sipush (v := 256) hx hb dJ6_numberOfLeadingZeros_0f7a4_34 (by decide) ?_
      obtain ⟨v_5, hv_5, h⟩ := ob h
      have J_5 : ∀ (ls : Array Slot), lv_has ls 2 [(0, .int v_5.1), (1, .int v_5.2)] → W p l e rm_J6_numberOfLeadingZeros_0f7a4 s m args below meth c s.heap [] 0 0 QQ (F0 m 48 ls []) := by
        intro ls hl
        refine lv_iload_n hx hb dJ6_numberOfLeadingZeros_0f7a4_48 rfl (lv_at hl 0 rfl) ?_
        refine lv_bipush (v := 16) hx hb dJ6_numberOfLeadingZeros_0f7a4_49 (by decide) ?_
        refine lv_icmp_lt (tgt := 61) hx hb dJ6_numberOfLeadingZeros_0f7a4_51 (by decide) (fun c_8 => ?_) (fun c_8 => ?_)
        · replace h := op c_8 h
          refine lv_iload_n hx hb dJ6_numberOfLeadingZeros_0f7a4_61 rfl (lv_at hl 0 rfl) ?_
          refine lv_iconst (v := 4) hx hb dJ6_numberOfLeadingZeros_0f7a4_62 (by decide) ?_
          refine lv_icmp_lt (tgt := 73) hx hb dJ6_numberOfLeadingZeros_0f7a4_63 (by decide) (fun c_9 => ?_) (fun c_9 => ?_)
          · replace h := op c_9 h
            refine lv_iload_n hx hb dJ6_numberOfLeadingZeros_0f7a4_73 rfl (lv_at hl 1 rfl) ?_
            refine lv_iload_n hx hb dJ6_numberOfLeadingZeros_0f7a4_74 rfl (lv_at hl 0 rfl) ?_
            refine lv_iconst (v := 1) hx hb dJ6_numberOfLeadingZeros_0f7a4_75 (by decide) ?_
            refine lv_iushr (v := (ius v_5.1 (1 : Int32))) hx hb dJ6_numberOfLeadingZeros_0f7a4_76 rfl ?_
            refine lv_isub hx hb dJ6_numberOfLeadingZeros_0f7a4_77 ?_
            rw [hQQ]
            exact W.iret hx hb hr (fun t ht hW => ⟨_, rfl, (Option.some.inj h).symm, ht⟩) (fun q hq => absurd hq List.not_mem_nil) dJ6_numberOfLeadingZeros_0f7a4_78
          · replace h := on c_9 h
            refine lv_iinc (v := (v_5.2 + (-2))) (lv' := [(1, .int (v_5.2 + (-2))), (0, .int v_5.1)]) hx hb dJ6_numberOfLeadingZeros_0f7a4_66 hl (k := 1) rfl (by rfl) (by decide) rfl (fun ls hl => ?_)
            refine lv_iload_n hx hb dJ6_numberOfLeadingZeros_0f7a4_69 rfl (lv_at hl 1 rfl) ?_
            refine lv_iconst (v := 2) hx hb dJ6_numberOfLeadingZeros_0f7a4_70 (by decide) ?_
            refine lv_iushr (v := (ius v_5.1 (2 : Int32))) hx hb dJ6_numberOfLeadingZeros_0f7a4_71 rfl ?_
            refine lv_istore_n (lv' := [(0, .int (ius v_5.1 (2 : Int32))), (1, .int (v_5.2 + (-2)))]) hx hb dJ6_numberOfLeadingZeros_0f7a4_72 rfl hl (by decide) rfl (fun ls hl => ?_)
            refine lv_iload_n hx hb dJ6_numberOfLeadingZeros_0f7a4_73 rfl (lv_at hl 1 rfl) ?_
            refine lv_iload_n hx hb dJ6_numberOfLeadingZeros_0f7a4_74 rfl (lv_at hl 0 rfl) ?_
            refine lv_iconst (v := 1) hx hb dJ6_numberOfLeadingZeros_0f7a4_75 (by decide) ?_
            refine lv_iushr (v := (ius (ius v_5.1 (2 : Int32)) (1 : Int32))) hx hb dJ6_numberOfLeadingZeros_0f7a4_76 rfl ?_
            refine lv_isub hx hb dJ6_numberOfLeadingZeros_0f7a4_77 ?_
            rw [hQQ]
            exact W.iret hx hb hr (fun t ht hW => ⟨_, rfl, (Option.some.inj h).symm, ht⟩) (fun q hq => absurd hq List.not_mem_nil) dJ6_numberOfLeadingZeros_0f7a4_78
        · replace h := on c_8 h
          refine lv_iinc (v := (v_5.2 + (-4))) (lv' := [(1, .int (v_5.2 + (-4))), (0, .int v_5.1)]) hx hb dJ6_numberOfLeadingZeros_0f7a4_54 hl (k := 1) rfl (by rfl) (by decide) rfl (fun ls hl => ?_)
          refine lv_iload_n hx hb dJ6_numberOfLeadingZeros_0f7a4_57 rfl (lv_at hl 1 rfl) ?_
          refine lv_iconst (v := 4) hx hb dJ6_numberOfLeadingZeros_0f7a4_58 (by decide) ?_
          refine lv_iushr (v := (ius v_5.1 (4 : Int32))) hx hb dJ6_numberOfLeadingZeros_0f7a4_59 rfl ?_
          refine lv_istore_n (lv' := [(0, .int (ius v_5.1 (4 : Int32))), (1, .int (v_5.2 + (-4)))]) hx hb dJ6_numberOfLeadingZeros_0f7a4_60 rfl hl (by decide) rfl (fun ls hl => ?_)
          refine lv_iload_n hx hb dJ6_numberOfLeadingZeros_0f7a4_61 rfl (lv_at hl 0 rfl) ?_
          refine lv_iconst (v := 4) hx hb dJ6_numberOfLeadingZeros_0f7a4_62 (by decide) ?_
          refine lv_icmp_lt (tgt := 73) hx hb dJ6_numberOfLeadingZeros_0f7a4_63 (by decide) (fun c_10 => ?_) (fun c_10 => ?_)
          · replace h := op c_10 h
            refine lv_iload_n hx hb dJ6_numberOfLeadingZeros_0f7a4_73 rfl (lv_at hl 1 rfl) ?_
            refine lv_iload_n hx hb dJ6_numberOfLeadingZeros_0f7a4_74 rfl (lv_at hl 0 rfl) ?_
            refine lv_iconst (v := 1) hx hb dJ6_numberOfLeadingZeros_0f7a4_75 (by decide) ?_
            refine lv_iushr (v := (ius (ius v_5.1 (4 : Int32)) (1 : Int32))) hx hb dJ6_numberOfLeadingZeros_0f7a4_76 rfl ?_
            refine lv_isub hx hb dJ6_numberOfLeadingZeros_0f7a4_77 ?_
            rw [hQQ]
            exact W.iret hx hb hr (fun t ht hW => ⟨_, rfl, (Option.some.inj h).symm, ht⟩) (fun q hq => absurd hq List.not_mem_nil) dJ6_numberOfLeadingZeros_0f7a4_78
          · replace h := on c_10 h
            refine lv_iinc (v := ((v_5.2 + (-4)) + (-2))) (lv' := [(1, .int ((v_5.2 + (-4)) + (-2))), (0, .int (ius v_5.1 (4 : Int32)))]) hx hb dJ6_numberOfLeadingZeros_0f7a4_66 hl (k := 1) rfl (by rfl) (by decide) rfl (fun ls hl => ?_)
            refine lv_iload_n hx hb dJ6_numberOfLeadingZeros_0f7a4_69 rfl (lv_at hl 1 rfl) ?_
            refine lv_iconst (v := 2) hx hb dJ6_numberOfLeadingZeros_0f7a4_70 (by decide) ?_
            refine lv_iushr (v := (ius (ius v_5.1 (4 : Int32)) (2 : Int32))) hx hb dJ6_numberOfLeadingZeros_0f7a4_71 rfl ?_
            refine lv_istore_n (lv' := [(0, .int (ius (ius v_5.1 (4 : Int32)) (2 : Int32))), (1, .int ((v_5.2 + (-4)) + (-2)))]) hx hb dJ6_numberOfLeadingZeros_0f7a4_72 rfl hl (by decide) rfl (fun ls hl => ?_)
            refine lv_iload_n hx hb dJ6_numberOfLeadingZeros_0f7a4_73 rfl (lv_at hl 1 rfl) ?_
            refine lv_iload_n hx hb dJ6_numberOfLeadingZeros_0f7a4_74 rfl (lv_at hl 0 rfl) ?_
            refine lv_iconst (v := 1) hx hb dJ6_numberOfLeadingZeros_0f7a4_75 (by decide) ?_
            refine lv_iushr (v := (ius (ius (ius v_5.1 (4 : Int32)) (2 : Int32)) (1 : Int32))) hx hb dJ6_numberOfLeadingZeros_0f7a4_76 rfl ?_
            refine lv_isub hx hb dJ6_numberOfLeadingZeros_0f7a4_77 ?_
            rw [hQQ]
            exact W.iret hx hb hr (fun t ht hW => ⟨_, rfl, (Option.some.inj h).symm, ht⟩) (fun q hq => absurd hq List.not_mem_nil) dJ6_numberOfLeadingZeros_0f7a4_78
      replace h := hv_5
      refine lv_icmp_lt (tgt := 48) hx hb dJ6_numberOfLeadingZeros_0f7a4_37 (by decide) (fun c_7 => ?_) (fun c_7 => ?_)
      · replace h := op c_7 h
        have ho := Option.some.inj h
        subst ho
        exact J_5 ls (lv_sub hl [0, 1] rfl)
      · replace h := on c_7 h
        refine lv_iinc (v := (v_2.2 + (-8))) (lv' := [(1, .int (v_2.2 + (-8))), (0, .int v_2.1)]) hx hb dJ6_numberOfLeadingZeros_0f7a4_40 hl (k := 1) rfl (by rfl) (by decide) rfl (fun ls hl => ?_)
        refine lv_iload_n hx hb dJ6_numberOfLeadingZeros_0f7a4_43 rfl (lv_at hl 1 rfl) ?_
        refine lv_bipush (v := 8) hx hb dJ6_numberOfLeadingZeros_0f7a4_44 (by decide) ?_
        refine lv_iushr (v := (ius v_2.1 (8 : Int32))) hx hb dJ6_numberOfLeadingZeros_0f7a4_46 rfl ?_
        refine lv_istore_n (lv' := [(0, .int (ius v_2.1 (8 : Int32))), (1, .int (v_2.2 + (-8)))]) hx hb dJ6_numberOfLeadingZeros_0f7a4_47 rfl hl (by decide) rfl (fun ls hl => ?_)
        have ho := Option.some.inj h
        subst ho
        exact J_5 ls (lv_sub hl [0, 1] rfl)
    replace h := hv_2
    refine lv_icmp_lt (tgt := 33) hx hb dJ6_numberOfLeadingZeros_0f7a4_22 (by decide) (fun c_4 => ?_) (fun c_4 => ?_)
    · replace h := op c_4 h
      have ho := Option.some.inj h
      subst ho
      exact J_2 ls (lv_sub hl [1, 0] rfl)
    · replace h := on c_4 h
      refine lv_iinc (v := (15 : Int32)) (lv' := [(1, .int (15 : Int32)), (0, .int x0)]) hx hb dJ6_numberOfLeadingZeros_0f7a4_25 hl (k := 0) rfl (by rfl) (by decide) rfl (fun ls hl => ?_)
      refine lv_iload_n hx hb dJ6_numberOfLeadingZeros_0f7a4_28 rfl (lv_at hl 1 rfl) ?_
      refine lv_bipush (v := 16) hx hb dJ6_numberOfLeadingZeros_0f7a4_29 (by decide) ?_
      refine lv_iushr (v := (ius x0 (16 : Int32))) hx hb dJ6_numberOfLeadingZeros_0f7a4_31 rfl ?_
      refine lv_istore_n (lv' := [(0, .int (ius x0 (16 : Int32))), (1, .int (15 : Int32))]) hx hb dJ6_numberOfLeadingZeros_0f7a4_32 rfl hl (by decide) rfl (fun ls hl => ?_)
      have ho := Option.some.inj h
      subst ho
      exact J_2 ls (lv_sub hl [0, 1] rfl)
  · replace h := on c_1 h
    refine lv_iload_n hx hb dJ6_numberOfLeadingZeros_0f7a4_4 rfl (lv_at hl 0 rfl) ?_
    refine lv_if_ne (tgt := 13) hx hb dJ6_numberOfLeadingZeros_0f7a4_5 (by decide) (fun c_11 => ?_) (fun c_11 => ?_)
    · replace h := on c_11 h
      refine lv_iconst (v := 0) hx hb dJ6_numberOfLeadingZeros_0f7a4_13 (by decide) ?_
      rw [hQQ]
      exact W.iret hx hb hr (fun t ht hW => ⟨_, rfl, (Option.some.inj h).symm, ht⟩) (fun q hq => absurd hq List.not_mem_nil) dJ6_numberOfLeadingZeros_0f7a4_14
    · replace h := op c_11 h
      refine lv_bipush (v := 32) hx hb dJ6_numberOfLeadingZeros_0f7a4_8 (by decide) ?_
      refine lv_goto (tgt := 14) hx hb dJ6_numberOfLeadingZeros_0f7a4_10 (by decide) ?_
      rw [hQQ]
      exact W.iret hx hb hr (fun t ht hW => ⟨_, rfl, (Option.some.inj h).symm, ht⟩) (fun q hq => absurd hq List.not_mem_nil) dJ6_numberOfLeadingZeros_0f7a4_14
def f_J13_numberOfLeadingZeros_95d88 (x0 : Int64) : Option Int32 :=
  (if ((lus x0 (32 : Int32))).toInt32 = 0 then ((f_J6_numberOfLeadingZeros_0f7a4 (x0).toInt32).bind (fun o_15 => (some ((32 : Int32) + o_15)))) else ((f_J6_numberOfLeadingZeros_0f7a4 ((lus x0 (32 : Int32))).toInt32).bind (fun o_13 => (some o_13))))
abbrev rm_J13_numberOfLeadingZeros_95d88 : Room := { frames := 1, cells := 0, slots := 0, locals := 21 }
set_option maxHeartbeats 4000000 in
set_option maxRecDepth 100000 in
theorem c_J13_numberOfLeadingZeros_95d88 (l : Launch) (dC : Nat → ClassId) (dI : Nat → Nat → Nat) (cB cC cI cJ cZ cT : ClassId) (x0 : Int64) (o : Int32) (hf : f_J13_numberOfLeadingZeros_95d88 x0 = some o) : Met l yJ13_numberOfLeadingZeros_95d88 wsJ13_numberOfLeadingZeros_95d88 rm_J13_numberOfLeadingZeros_95d88 (va_Pc [.long x0] (fun _ => True)) (vp_Si (fun r => o = r)) 0 0 (fun _ => False) := by
  refine Met.ofW (cc := cJ13_numberOfLeadingZeros_95d88) (maxL := 3) (ret := (some .int)) (by decide +kernel) rfl ?_
  intro p e s m args below meth c s₁ B hml hv
  obtain ⟨hav, -⟩ := hv
  have hx := B.exec
  have hb := B.bytes
  have hr := B.returns
  have hts := atoms_spec (ws := wsJ13_numberOfLeadingZeros_95d88) B.pre
  have hown : s.vm.findClass RJ13 = some m.cls := findClass_of_methodNamed B.named
  have hlocks := B.notSynchronized
  refine wstart (rm := rm_J13_numberOfLeadingZeros_95d88) hav (Nat.le_of_ble_eq_true rfl) (fun QQ ls hQQ hl => ?_)
  have hl : lv_has ls 3 [(0, .long x0)] := hl
  have h := hf
  unfold f_J13_numberOfLeadingZeros_95d88 at h
  refine lv_lload_n hx hb dJ13_numberOfLeadingZeros_95d88_0 rfl (lv_at hl 0 rfl) ?_
  refine lv_bipush (v := 32) hx hb dJ13_numberOfLeadingZeros_95d88_1 (by decide) ?_
  refine lv_lushr (v := (lus x0 (32 : Int32))) hx hb dJ13_numberOfLeadingZeros_95d88_3 rfl ?_
  refine lv_l2i (v := ((lus x0 (32 : Int32))).toInt32) hx hb dJ13_numberOfLeadingZeros_95d88_4 rfl ?_
  refine lv_istore_n (lv' := [(2, .int ((lus x0 (32 : Int32))).toInt32), (0, .long x0)]) hx hb dJ13_numberOfLeadingZeros_95d88_5 rfl hl (by decide) rfl (fun ls hl => ?_)
  refine lv_iload_n hx hb dJ13_numberOfLeadingZeros_95d88_6 rfl (lv_at hl 0 rfl) ?_
  refine lv_if_ne (tgt := 21) hx hb dJ13_numberOfLeadingZeros_95d88_7 (by decide) (fun c_12 => ?_) (fun c_12 => ?_)
  · replace h := on c_12 h
    refine lv_iload_n hx hb dJ13_numberOfLeadingZeros_95d88_21 rfl (lv_at hl 0 rfl) ?_
    obtain ⟨o_13, hr_13, h⟩ := ob h
    refine vp_callSi (va_Run.run (va_runS (As := [.int ((lus x0 (32 : Int32))).toInt32]) (rest := []) ⟨hx, hb, hml, hown, hts⟩ (c_J6_numberOfLeadingZeros_0f7a4 l dC dI cB cC cI cJ cZ cT ((lus x0 (32 : Int32))).toInt32 o_13 hr_13) (va_cwS 1 hts gJ13_numberOfLeadingZeros_95d88_J6_numberOfLeadingZeros_0f7a4 rfl rfl rfl (by decide +kernel) ⟨Nat.le_of_ble_eq_true rfl, Nat.le_of_ble_eq_true rfl⟩) ⟨blT, fun U hU hW => ⟨rfl, trivial⟩⟩ rfl rfl hl.1 rfl (lv_room (Nat.le_of_ble_eq_true rfl)) dJ13_numberOfLeadingZeros_95d88_22 ⟨Nat.le_of_ble_eq_true rfl, Nat.le_of_ble_eq_true rfl⟩)) (fun r_13 e_13 => ?_)
    subst e_13
    rw [hQQ]
    exact W.iret hx hb hr (fun t ht hW => ⟨_, rfl, (Option.some.inj h).symm, ht⟩) (fun q hq => absurd hq List.not_mem_nil) dJ13_numberOfLeadingZeros_95d88_25
  · replace h := op c_12 h
    refine lv_bipush (v := 32) hx hb dJ13_numberOfLeadingZeros_95d88_10 (by decide) ?_
    refine lv_lload_n hx hb dJ13_numberOfLeadingZeros_95d88_12 rfl (lv_at hl 1 rfl) ?_
    refine lv_l2i (v := (x0).toInt32) hx hb dJ13_numberOfLeadingZeros_95d88_13 rfl ?_
    obtain ⟨o_15, hr_15, h⟩ := ob h
    refine vp_callSi (va_Run.run (va_runS (As := [.int (x0).toInt32]) (rest := [.int (32 : Int32)]) ⟨hx, hb, hml, hown, hts⟩ (c_J6_numberOfLeadingZeros_0f7a4 l dC dI cB cC cI cJ cZ cT (x0).toInt32 o_15 hr_15) (va_cwS 1 hts gJ13_numberOfLeadingZeros_95d88_J6_numberOfLeadingZeros_0f7a4 rfl rfl rfl (by decide +kernel) ⟨Nat.le_of_ble_eq_true rfl, Nat.le_of_ble_eq_true rfl⟩) ⟨blT, fun U hU hW => ⟨rfl, trivial⟩⟩ rfl rfl hl.1 rfl (lv_room (Nat.le_of_ble_eq_true rfl)) dJ13_numberOfLeadingZeros_95d88_14 ⟨Nat.le_of_ble_eq_true rfl, Nat.le_of_ble_eq_true rfl⟩)) (fun r_15 e_15 => ?_)
    subst e_15
    refine lv_iadd hx hb dJ13_numberOfLeadingZeros_95d88_17 ?_
    refine lv_goto (tgt := 25) hx hb dJ13_numberOfLeadingZeros_95d88_18 (by decide) ?_
    rw [hQQ]
    exact W.iret hx hb hr (fun t ht hW => ⟨_, rfl, (Option.some.inj h).symm, ht⟩) (fun q hq => absurd hq List.not_mem_nil) dJ13_numberOfLeadingZeros_95d88_25
def f_J0_isLatin1_aae02  : Option Bool :=
  (if (1 : Int32) = 0 then (some false) else (if (0 : Int32) = 0 then (some true) else (some false)))
abbrev rm_J0_isLatin1_aae02 : Room := { frames := 0, cells := 0, slots := 0, locals := 0 }
set_option maxHeartbeats 4000000 in
set_option maxRecDepth 100000 in
theorem c_J0_isLatin1_aae02 (l : Launch) (dC : Nat → ClassId) (dI : Nat → Nat → Nat) (cB cC cI cJ cZ cT : ClassId) (a v : Nat) (o : Bool) (hf : f_J0_isLatin1_aae02 = some o) : Met l yJ0_isLatin1_aae02 wsJ0_isLatin1_aae02 rm_J0_isLatin1_aae02 (va_Pc [.ref a] (fun U => STR a v (fun _ => False) U U.heap)) (vp_Si (fun r => b2i o = r)) 0 0 (fun _ => False) := by
  refine Met.ofW (cc := cJ0_isLatin1_aae02) (maxL := 1) (ret := (some .boolean)) (by decide +kernel) rfl ?_
  intro p e s m args below meth c s₁ B hml hv
  obtain ⟨hav, hE⟩ := hv
  have hS : va_S (fun _ => False) s.heap s.heap [] := va_S.rf
  obtain ⟨hE1, hE2, hE3, hE4, hE5, hE6⟩ := id hE
  have hx := B.exec
  have hb := B.bytes
  have hr := B.returns
  have hts := atoms_spec (ws := wsJ0_isLatin1_aae02) B.pre
  have hown : s.vm.findClass RJ0 = some m.cls := findClass_of_methodNamed B.named
  have hlocks := B.notSynchronized
  refine wstart (rm := rm_J0_isLatin1_aae02) hav (Nat.le_of_ble_eq_true rfl) (fun QQ ls hQQ hl => ?_)
  have hl : lv_has ls 1 [(0, .ref a)] := hl
  have h := hf
  unfold f_J0_isLatin1_aae02 at h
  refine va_gets hx hb hE5 hS hown (hts _ (List.mem_of_getElem? (i := 1) rfl)) (fun _ h9 => h9) dJ0_isLatin1_aae02_0 ?_
  refine lv_if_eq (tgt := 17) hx hb dJ0_isLatin1_aae02_3 (by decide) (fun c_17 => ?_) (fun c_17 => ?_)
  · replace h := op c_17 h
    refine lv_iconst (v := 0) hx hb dJ0_isLatin1_aae02_17 (by decide) ?_
    rw [hQQ]
    exact W.zret hx hb hr rfl (fun t ht hW => ⟨_, rfl, (congrArg b2i (Option.some.inj h).symm), ht⟩) (fun q hq => absurd hq List.not_mem_nil) dJ0_isLatin1_aae02_18
  · replace h := on c_17 h
    refine lv_aload_n hx hb dJ0_isLatin1_aae02_6 rfl (lv_at hl 0 rfl) ?_
    refine vk_getf hx hb hE2 hS hown (hts _ (List.mem_of_getElem? (i := 2) rfl)) (fun _ h9 => h9) dJ0_isLatin1_aae02_7 ?_
    refine lv_if_ne (tgt := 17) hx hb dJ0_isLatin1_aae02_10 (by decide) (fun c_18 => ?_) (fun c_18 => ?_)
    · replace h := on c_18 h
      refine lv_iconst (v := 0) hx hb dJ0_isLatin1_aae02_17 (by decide) ?_
      rw [hQQ]
      exact W.zret hx hb hr rfl (fun t ht hW => ⟨_, rfl, (congrArg b2i (Option.some.inj h).symm), ht⟩) (fun q hq => absurd hq List.not_mem_nil) dJ0_isLatin1_aae02_18
    · replace h := op c_18 h
      refine lv_iconst (v := 1) hx hb dJ0_isLatin1_aae02_13 (by decide) ?_
      refine lv_goto (tgt := 18) hx hb dJ0_isLatin1_aae02_14 (by decide) ?_
      rw [hQQ]
      exact W.zret hx hb hr rfl (fun t ht hW => ⟨_, rfl, (congrArg b2i (Option.some.inj h).symm), ht⟩) (fun q hq => absurd hq List.not_mem_nil) dJ0_isLatin1_aae02_18
def f_J0_coder_7d493  : Option Int32 :=
  (if (1 : Int32) = 0 then (some (1 : Int32)) else (some (0 : Int32)))
abbrev rm_J0_coder_7d493 : Room := { frames := 0, cells := 0, slots := 0, locals := 0 }
set_option maxHeartbeats 4000000 in
set_option maxRecDepth 100000 in
theorem c_J0_coder_7d493 (l : Launch) (dC : Nat → ClassId) (dI : Nat → Nat → Nat) (cB cC cI cJ cZ cT : ClassId) (a v : Nat) (o : Int32) (hf : f_J0_coder_7d493 = some o) : Met l yJ0_coder_7d493 wsJ0_coder_7d493 rm_J0_coder_7d493 (va_Pc [.ref a] (fun U => STR a v (fun _ => False) U U.heap)) (vp_Si (fun r => o = r)) 0 0 (fun _ => False) := by
  refine Met.ofW (cc := cJ0_coder_7d493) (maxL := 1) (ret := (some .byte)) (by decide +kernel) rfl ?_
  intro p e s m args below meth c s₁ B hml hv
  obtain ⟨hav, hE⟩ := hv
  have hS : va_S (fun _ => False) s.heap s.heap [] := va_S.rf
  obtain ⟨hE1, hE2, hE3, hE4, hE5, hE6⟩ := id hE
  have hx := B.exec
  have hb := B.bytes
  have hr := B.returns
  have hts := atoms_spec (ws := wsJ0_coder_7d493) B.pre
  have hown : s.vm.findClass RJ0 = some m.cls := findClass_of_methodNamed B.named
  have hlocks := B.notSynchronized
  refine wstart (rm := rm_J0_coder_7d493) hav (Nat.le_of_ble_eq_true rfl) (fun QQ ls hQQ hl => ?_)
  have hl : lv_has ls 1 [(0, .ref a)] := hl
  have h := hf
  unfold f_J0_coder_7d493 at h
  refine va_gets hx hb hE5 hS hown (hts _ (List.mem_of_getElem? (i := 1) rfl)) (fun _ h9 => h9) dJ0_coder_7d493_0 ?_
  refine lv_if_eq (tgt := 13) hx hb dJ0_coder_7d493_3 (by decide) (fun c_19 => ?_) (fun c_19 => ?_)
  · replace h := op c_19 h
    refine lv_iconst (v := 1) hx hb dJ0_coder_7d493_13 (by decide) ?_
    rw [hQQ]
    exact W.zret hx hb hr rfl (fun t ht hW => ⟨_, rfl, (Option.some.inj h).symm, ht⟩) (fun q hq => absurd hq List.not_mem_nil) dJ0_coder_7d493_14
  · replace h := on c_19 h
    refine lv_aload_n hx hb dJ0_coder_7d493_6 rfl (lv_at hl 0 rfl) ?_
    refine vk_getf hx hb hE2 hS hown (hts _ (List.mem_of_getElem? (i := 2) rfl)) (fun _ h9 => h9) dJ0_coder_7d493_7 ?_
    refine lv_goto (tgt := 14) hx hb dJ0_coder_7d493_10 (by decide) ?_
    rw [hQQ]
    exact W.zret hx hb hr rfl (fun t ht hW => ⟨_, rfl, (Option.some.inj h).symm, ht⟩) (fun q hq => absurd hq List.not_mem_nil) dJ0_coder_7d493_14
def f_J0_length_8abf5  : Option Int32 :=
  ((f_J0_coder_7d493).bind (fun o_20 => (some ((14 : Int32) >>> (o_20 &&& 31)))))
abbrev rm_J0_length_8abf5 : Room := { frames := 1, cells := 0, slots := 0, locals := 20 }
set_option maxHeartbeats 4000000 in
set_option maxRecDepth 100000 in
theorem c_J0_length_8abf5 (l : Launch) (dC : Nat → ClassId) (dI : Nat → Nat → Nat) (cB cC cI cJ cZ cT : ClassId) (a v : Nat) (o : Int32) (hf : f_J0_length_8abf5 = some o) : Met l yJ0_length_8abf5 wsJ0_length_8abf5 rm_J0_length_8abf5 (va_Pc [.ref a] (fun U => STR a v (fun _ => False) U U.heap)) (vp_Si (fun r => o = r)) 0 0 (fun _ => False) := by
  refine Met.ofW (cc := cJ0_length_8abf5) (maxL := 1) (ret := (some .int)) (by decide +kernel) rfl ?_
  intro p e s m args below meth c s₁ B hml hv
  obtain ⟨hav, hE⟩ := hv
  have hS : va_S (fun _ => False) s.heap s.heap [] := va_S.rf
  obtain ⟨hE1, hE2, hE3, hE4, hE5, hE6⟩ := id hE
  have hx := B.exec
  have hb := B.bytes
  have hr := B.returns
  have hts := atoms_spec (ws := wsJ0_length_8abf5) B.pre
  have hown : s.vm.findClass RJ0 = some m.cls := findClass_of_methodNamed B.named
  have hlocks := B.notSynchronized
  refine wstart (rm := rm_J0_length_8abf5) hav (Nat.le_of_ble_eq_true rfl) (fun QQ ls hQQ hl => ?_)
  have hl : lv_has ls 1 [(0, .ref a)] := hl
  have h := hf
  unfold f_J0_length_8abf5 at h
  refine lv_aload_n hx hb dJ0_length_8abf5_0 rfl (lv_at hl 0 rfl) ?_
  refine vk_getf hx hb hE1 hS hown (hts _ (List.mem_of_getElem? (i := 1) rfl)) (fun _ h9 => h9) dJ0_length_8abf5_1 ?_
  refine va_tlen (v := 14) hx hb hE3 hS (by decide) dJ0_length_8abf5_4 ?_
  refine lv_aload_n hx hb dJ0_length_8abf5_5 rfl (lv_at hl 0 rfl) ?_
  obtain ⟨o_20, hr_20, h⟩ := ob h
  refine vp_callSi (va_Run.run (va_runV (As := []) (rest := [.int (14 : Int32)]) ⟨hx, hb, hml, hown, hts⟩ (c_J0_coder_7d493 l dC dI cB cC cI cJ cZ cT a v o_20 hr_20) (cwV 0 hts gJ0_length_8abf5_J0_coder_7d493 rfl rfl rfl (by decide +kernel) ⟨Nat.le_of_ble_eq_true rfl, Nat.le_of_ble_eq_true rfl⟩) ⟨blS, va_Orecv hE4 hS, fun U hU hW => ⟨rfl, by show STR _ _ (fun _ => False) U U.heap; rw [hU]; exact hE.go hW.alike hS.2.1 (fun _ q => q.elim)⟩⟩ rfl rfl hl.1 rfl (lv_room (Nat.le_of_ble_eq_true rfl)) dJ0_length_8abf5_6 ⟨Nat.le_of_ble_eq_true rfl, Nat.le_of_ble_eq_true rfl⟩)) (fun r_20 e_20 => ?_)
  subst e_20
  refine lv_ishr hx hb dJ0_length_8abf5_9 ?_
  rw [hQQ]
  exact W.iret hx hb hr (fun t ht hW => ⟨_, rfl, (Option.some.inj h).symm, ht⟩) (fun q hq => absurd hq List.not_mem_nil) dJ0_length_8abf5_10
def f_J1_canEncode_9a6ad (x0 : Int32) : Option Bool :=
  (if x0 < 0 then (some false) else (if (255 : Int32) < x0 then (some false) else (some true)))
abbrev rm_J1_canEncode_9a6ad : Room := { frames := 0, cells := 0, slots := 0, locals := 0 }
set_option maxHeartbeats 4000000 in
set_option maxRecDepth 100000 in
theorem c_J1_canEncode_9a6ad (l : Launch) (dC : Nat → ClassId) (dI : Nat → Nat → Nat) (cB cC cI cJ cZ cT : ClassId) (x0 : Int32) (o : Bool) (hf : f_J1_canEncode_9a6ad x0 = some o) : Met l yJ1_canEncode_9a6ad wsJ1_canEncode_9a6ad rm_J1_canEncode_9a6ad (va_Pc [.int x0] (fun _ => True)) (vp_Si (fun r => b2i o = r)) 0 0 (fun _ => False) := by
  refine Met.ofW (cc := cJ1_canEncode_9a6ad) (maxL := 1) (ret := (some .boolean)) (by decide +kernel) rfl ?_
  intro p e s m args below meth c s₁ B hml hv
  obtain ⟨hav, -⟩ := hv
  have hx := B.exec
  have hb := B.bytes
  have hr := B.returns
  have hts := atoms_spec (ws := wsJ1_canEncode_9a6ad) B.pre
  have hown : s.vm.findClass RJ1 = some m.cls := findClass_of_methodNamed B.named
  have hlocks := B.notSynchronized
  refine wstart (rm := rm_J1_canEncode_9a6ad) hav (Nat.le_of_ble_eq_true rfl) (fun QQ ls hQQ hl => ?_)
  have hl : lv_has ls 1 [(0, .int x0)] := hl
  have h := hf
  unfold f_J1_canEncode_9a6ad at h
  refine lv_iload_n hx hb dJ1_canEncode_9a6ad_0 rfl (lv_at hl 0 rfl) ?_
  refine lv_if_lt (tgt := 15) hx hb dJ1_canEncode_9a6ad_1 (by decide) (fun c_22 => ?_) (fun c_22 => ?_)
  · replace h := op c_22 h
    refine lv_iconst (v := 0) hx hb dJ1_canEncode_9a6ad_15 (by decide) ?_
    rw [hQQ]
    exact W.zret hx hb hr rfl (fun t ht hW => ⟨_, rfl, (congrArg b2i (Option.some.inj h).symm), ht⟩) (fun q hq => absurd hq List.not_mem_nil) dJ1_canEncode_9a6ad_16
  · replace h := on c_22 h
    refine lv_iload_n hx hb dJ1_canEncode_9a6ad_4 rfl (lv_at hl 0 rfl) ?_
    refine lv_sipush (v := 255) hx hb dJ1_canEncode_9a6ad_5 (by decide) ?_
    refine lv_icmp_gt (tgt := 15) hx hb dJ1_canEncode_9a6ad_8 (by decide) (fun c_23 => ?_) (fun c_23 => ?_)
    · replace h := op c_23 h
      refine lv_iconst (v := 0) hx hb dJ1_canEncode_9a6ad_15 (by decide) ?_
      rw [hQQ]
      exact W.zret hx hb hr rfl (fun t ht hW => ⟨_, rfl, (congrArg b2i (Option.some.inj h).symm), ht⟩) (fun q hq => absurd hq List.not_mem_nil) dJ1_canEncode_9a6ad_16
    · replace h := on c_23 h
      refine lv_iconst (v := 1) hx hb dJ1_canEncode_9a6ad_11 (by decide) ?_
      refine lv_goto (tgt := 16) hx hb dJ1_canEncode_9a6ad_12 (by decide) ?_
      rw [hQQ]
      exact W.zret hx hb hr rfl (fun t ht hW => ⟨_, rfl, (congrArg b2i (Option.some.inj h).symm), ht⟩) (fun q hq => absurd hq List.not_mem_nil) dJ1_canEncode_9a6ad_16
def L_J1_indexOfChar_4cfef_7 (x1 : Int32) (x3 : Int32) : Nat → Int32 → Option (Unit ⊕ Int32)
  | 0, _ => none
  | n+1, x5_7 => (if x3 ≤ x5_7 then (some (.inl ())) else (if x5_7 < 0 ∨ 14 ≤ (x5_7).toNatClampNeg then none else (if (ltr (x5_7).toNatClampNeg) = (to_b x1) then (some (.inr x5_7)) else (L_J1_indexOfChar_4cfef_7 x1 x3 n (x5_7 + 1)))))
def f_J1_indexOfChar_4cfef (x1 : Int32) (x2 : Int32) (x3 : Int32) : Option Int32 :=
  ((L_J1_indexOfChar_4cfef_7 x1 x3 fu x2).bind (sm (fun u_27 => (some (-1 : Int32)))))
abbrev rm_J1_indexOfChar_4cfef : Room := { frames := 0, cells := 0, slots := 0, locals := 0 }
set_option maxHeartbeats 4000000 in
set_option maxRecDepth 100000 in
theorem c_J1_indexOfChar_4cfef (l : Launch) (dC : Nat → ClassId) (dI : Nat → Nat → Nat) (cB cC cI cJ cZ cT : ClassId) (a v : Nat) (x1 : Int32) (x2 : Int32) (x3 : Int32) (o : Int32) (hf : f_J1_indexOfChar_4cfef x1 x2 x3 = some o) : Met l yJ1_indexOfChar_4cfef wsJ1_indexOfChar_4cfef rm_J1_indexOfChar_4cfef (va_Pc [.ref v, .int x1, .int x2, .int x3] (fun U => STR a v (fun _ => False) U U.heap)) (vp_Si (fun r => o = r)) 0 0 (fun _ => False) := by
  refine Met.ofW (cc := cJ1_indexOfChar_4cfef) (maxL := 6) (ret := (some .int)) (by decide +kernel) rfl ?_
  intro p e s m args below meth c s₁ B hml hv
  obtain ⟨hav, hE⟩ := hv
  have hS : va_S (fun _ => False) s.heap s.heap [] := va_S.rf
  obtain ⟨hE1, hE2, hE3, hE4, hE5, hE6⟩ := id hE
  have hx := B.exec
  have hb := B.bytes
  have hr := B.returns
  have hts := atoms_spec (ws := wsJ1_indexOfChar_4cfef) B.pre
  have hown : s.vm.findClass RJ1 = some m.cls := findClass_of_methodNamed B.named
  have hlocks := B.notSynchronized
  refine wstart (rm := rm_J1_indexOfChar_4cfef) hav (Nat.le_of_ble_eq_true rfl) (fun QQ ls hQQ hl => ?_)
  have hl : lv_has ls 6 [(0, .ref v), (1, .int x1), (2, .int x2), (3, .int x3)] := hl
  have h := hf
  unfold f_J1_indexOfChar_4cfef at h
  refine lv_iload_n hx hb dJ1_indexOfChar_4cfef_0 rfl (lv_at hl 1 rfl) ?_
  refine lv_i2b (v := (to_b x1)) hx hb dJ1_indexOfChar_4cfef_1 rfl ?_
  refine lv_istore (lv' := [(4, .int (to_b x1)), (0, .ref v), (1, .int x1), (2, .int x2), (3, .int x3)]) hx hb dJ1_indexOfChar_4cfef_2 hl (by decide) rfl (fun ls hl => ?_)
  refine lv_iload_n hx hb dJ1_indexOfChar_4cfef_4 rfl (lv_at hl 3 rfl) ?_
  refine lv_istore (lv' := [(5, .int x2), (4, .int (to_b x1)), (0, .ref v), (1, .int x1), (2, .int x2), (3, .int x3)]) hx hb dJ1_indexOfChar_4cfef_5 hl (by decide) rfl (fun ls hl => ?_)
  have LP_27 : ∀ (n : Nat) (x5_7 : Int32) (w : (Unit ⊕ Int32)) (ls : Array Slot), L_J1_indexOfChar_4cfef_7 x1 x3 n x5_7 = some w → lv_has ls 6 [(0, .ref v), (3, .int x3), (4, .int (to_b x1)), (5, .int x5_7)] → (∀ u : Unit, w = .inl u → ∀ (ls : Array Slot), lv_has ls 6 [] → W p l e rm_J1_indexOfChar_4cfef s m args below meth c s.heap [] 0 0 QQ (F0 m 31 ls [])) → (∀ r : Int32, w = .inr r → some r = some o) → W p l e rm_J1_indexOfChar_4cfef s m args below meth c s.heap [] 0 0 QQ (F0 m 7 ls []) := by
    intro n
    induction n with
    | zero => intro x5_7 w ls h; exact absurd (show none = some w from h) nofun
    | succ n ih =>
      intro x5_7 w ls h hl K KR
      rw [L_J1_indexOfChar_4cfef_7] at h
      refine lv_iload hx hb dJ1_indexOfChar_4cfef_7 (lv_at hl 3 rfl) ?_
      refine lv_iload_n hx hb dJ1_indexOfChar_4cfef_9 rfl (lv_at hl 1 rfl) ?_
      refine lv_icmp_ge (tgt := 31) hx hb dJ1_indexOfChar_4cfef_10 (by decide) (fun c_24 => ?_) (fun c_24 => ?_)
      · replace h := op c_24 h
        have ho := Option.some.inj h
        subst ho
        exact K _ rfl ls (lv_sub hl [] rfl)
      · replace h := on c_24 h
        refine lv_aload_n hx hb dJ1_indexOfChar_4cfef_13 rfl (lv_at hl 0 rfl) ?_
        refine lv_iload hx hb dJ1_indexOfChar_4cfef_14 (lv_at hl 3 rfl) ?_
        obtain ⟨hi_25, h⟩ := og h
        refine va_tb (v := .int (ltr (x5_7).toNatClampNeg)) hx hb hE3 hS hi_25 rfl dJ1_indexOfChar_4cfef_16 ?_
        refine lv_iload hx hb dJ1_indexOfChar_4cfef_17 (lv_at hl 2 rfl) ?_
        refine lv_icmp_ne (tgt := 25) hx hb dJ1_indexOfChar_4cfef_19 (by decide) (fun c_26 => ?_) (fun c_26 => ?_)
        · replace h := on c_26 h
          refine lv_iinc (v := (x5_7 + 1)) (lv' := [(5, .int (x5_7 + 1)), (0, .ref v), (3, .int x3), (4, .int (to_b x1))]) hx hb dJ1_indexOfChar_4cfef_25 hl (k := 3) rfl (by rfl) (by decide) rfl (fun ls hl => ?_)
          refine lv_goto (tgt := 7) hx hb dJ1_indexOfChar_4cfef_28 (by decide) ?_
          exact ih (x5_7 + 1) w ls h (lv_sub hl [1, 2, 3, 0] rfl) K KR
        · replace h := op c_26 h
          refine lv_iload hx hb dJ1_indexOfChar_4cfef_22 (lv_at hl 3 rfl) ?_
          replace h := KR _ (Option.some.inj h).symm
          rw [hQQ]
          exact W.iret hx hb hr (fun t ht hW => ⟨_, rfl, (Option.some.inj h).symm, ht⟩) (fun q hq => absurd hq List.not_mem_nil) dJ1_indexOfChar_4cfef_24
  obtain ⟨w_27, hw_27, h⟩ := ob h
  refine LP_27 fu x2 w_27 ls hw_27 (lv_sub hl [2, 5, 1, 0] rfl) (fun u_27 e_27 ls hl => ?_) (fun r_27 e_27 => by subst e_27; exact h)
  subst e_27
  replace h := sm_l h
  refine lv_iconst (v := -1) hx hb dJ1_indexOfChar_4cfef_31 (by decide) ?_
  rw [hQQ]
  exact W.iret hx hb hr (fun t ht hW => ⟨_, rfl, (Option.some.inj h).symm, ht⟩) (fun q hq => absurd hq List.not_mem_nil) dJ1_indexOfChar_4cfef_32
def f_J1_indexOf_4cfef (x1 : Int32) (x2 : Int32) (x3 : Int32) : Option Int32 :=
  ((f_J1_canEncode_9a6ad x1).bind (fun o_28 => (if (b2i o_28) = 0 then (some (-1 : Int32)) else (if (mmax x2 (0 : Int32)) < (mmin x3 (14 : Int32)) then ((f_J1_indexOfChar_4cfef x1 (mmax x2 (0 : Int32)) (mmin x3 (14 : Int32))).bind (fun o_32 => (some o_32))) else (some (-1 : Int32))))))
abbrev rm_J1_indexOf_4cfef : Room := { frames := 1, cells := 0, slots := 0, locals := 25 }
set_option maxHeartbeats 4000000 in
set_option maxRecDepth 100000 in
theorem c_J1_indexOf_4cfef (l : Launch) (dC : Nat → ClassId) (dI : Nat → Nat → Nat) (cB cC cI cJ cZ cT : ClassId) (a v : Nat) (x1 : Int32) (x2 : Int32) (x3 : Int32) (o : Int32) (hf : f_J1_indexOf_4cfef x1 x2 x3 = some o) : Met l yJ1_indexOf_4cfef wsJ1_indexOf_4cfef rm_J1_indexOf_4cfef (va_Pc [.ref v, .int x1, .int x2, .int x3] (fun U => STR a v (fun _ => False) U U.heap)) (vp_Si (fun r => o = r)) 0 0 (fun _ => False) := by
  refine Met.ofW (cc := cJ1_indexOf_4cfef) (maxL := 4) (ret := (some .int)) (by decide +kernel) rfl ?_
  intro p e s m args below meth c s₁ B hml hv
  obtain ⟨hav, hE⟩ := hv
  have hS : va_S (fun _ => False) s.heap s.heap [] := va_S.rf
  obtain ⟨hE1, hE2, hE3, hE4, hE5, hE6⟩ := id hE
  have hx := B.exec
  have hb := B.bytes
  have hr := B.returns
  have hts := atoms_spec (ws := wsJ1_indexOf_4cfef) B.pre
  have hown : s.vm.findClass RJ1 = some m.cls := findClass_of_methodNamed B.named
  have hlocks := B.notSynchronized
  refine wstart (rm := rm_J1_indexOf_4cfef) hav (Nat.le_of_ble_eq_true rfl) (fun QQ ls hQQ hl => ?_)
  have hl : lv_has ls 4 [(0, .ref v), (1, .int x1), (2, .int x2), (3, .int x3)] := hl
  have h := hf
  unfold f_J1_indexOf_4cfef at h
  refine lv_iload_n hx hb dJ1_indexOf_4cfef_0 rfl (lv_at hl 1 rfl) ?_
  obtain ⟨o_28, hr_28, h⟩ := ob h
  refine vp_callSi (va_Run.run (va_runS (As := [.int x1]) (rest := []) ⟨hx, hb, hml, hown, hts⟩ (c_J1_canEncode_9a6ad l dC dI cB cC cI cJ cZ cT x1 o_28 hr_28) (va_cwS 1 hts gJ1_indexOf_4cfef_J1_canEncode_9a6ad rfl rfl rfl (by decide +kernel) ⟨Nat.le_of_ble_eq_true rfl, Nat.le_of_ble_eq_true rfl⟩) ⟨blT, fun U hU hW => ⟨rfl, trivial⟩⟩ rfl rfl hl.1 rfl (lv_room (Nat.le_of_ble_eq_true rfl)) dJ1_indexOf_4cfef_1 ⟨Nat.le_of_ble_eq_true rfl, Nat.le_of_ble_eq_true rfl⟩)) (fun r_28 e_28 => ?_)
  subst e_28
  refine lv_if_ne (tgt := 9) hx hb dJ1_indexOf_4cfef_4 (by decide) (fun c_30 => ?_) (fun c_30 => ?_)
  · replace h := on c_30 h
    refine lv_iload_n hx hb dJ1_indexOf_4cfef_9 rfl (lv_at hl 2 rfl) ?_
    refine lv_iconst (v := 0) hx hb dJ1_indexOf_4cfef_10 (by decide) ?_
    refine va_mmax hx hb (hml.trans hl.1.symm) hown (hts _ (List.mem_of_getElem? (i := 1) rfl)) (hts _ (List.mem_of_getElem? (i := 2) rfl)) (hts _ (List.mem_of_getElem? (i := 3) rfl)) (hts _ (List.mem_of_getElem? (i := 4) rfl)) (Nat.le_of_ble_eq_true rfl) (Nat.le_of_ble_eq_true rfl) (Nat.le_of_ble_eq_true rfl) (Nat.le_of_ble_eq_true rfl) dJ1_indexOf_4cfef_11 ?_
    refine lv_istore_n (lv' := [(2, .int (mmax x2 (0 : Int32))), (0, .ref v), (1, .int x1), (3, .int x3)]) hx hb dJ1_indexOf_4cfef_14 rfl hl (by decide) rfl (fun ls hl => ?_)
    refine lv_iload_n hx hb dJ1_indexOf_4cfef_15 rfl (lv_at hl 3 rfl) ?_
    refine lv_aload_n hx hb dJ1_indexOf_4cfef_16 rfl (lv_at hl 1 rfl) ?_
    refine va_tlen (v := 14) hx hb hE3 hS (by decide) dJ1_indexOf_4cfef_17 ?_
    refine va_mmin hx hb (hml.trans hl.1.symm) hown (hts _ (List.mem_of_getElem? (i := 5) rfl)) (hts _ (List.mem_of_getElem? (i := 6) rfl)) (hts _ (List.mem_of_getElem? (i := 3) rfl)) (hts _ (List.mem_of_getElem? (i := 7) rfl)) (Nat.le_of_ble_eq_true rfl) (Nat.le_of_ble_eq_true rfl) (Nat.le_of_ble_eq_true rfl) (Nat.le_of_ble_eq_true rfl) dJ1_indexOf_4cfef_18 ?_
    refine lv_istore_n (lv' := [(3, .int (mmin x3 (14 : Int32))), (2, .int (mmax x2 (0 : Int32))), (0, .ref v), (1, .int x1)]) hx hb dJ1_indexOf_4cfef_21 rfl hl (by decide) rfl (fun ls hl => ?_)
    refine lv_iload_n hx hb dJ1_indexOf_4cfef_22 rfl (lv_at hl 1 rfl) ?_
    refine lv_iload_n hx hb dJ1_indexOf_4cfef_23 rfl (lv_at hl 0 rfl) ?_
    refine lv_icmp_lt (tgt := 29) hx hb dJ1_indexOf_4cfef_24 (by decide) (fun c_31 => ?_) (fun c_31 => ?_)
    · replace h := op c_31 h
      refine lv_aload_n hx hb dJ1_indexOf_4cfef_29 rfl (lv_at hl 2 rfl) ?_
      refine lv_iload_n hx hb dJ1_indexOf_4cfef_30 rfl (lv_at hl 3 rfl) ?_
      refine lv_iload_n hx hb dJ1_indexOf_4cfef_31 rfl (lv_at hl 1 rfl) ?_
      refine lv_iload_n hx hb dJ1_indexOf_4cfef_32 rfl (lv_at hl 0 rfl) ?_
      obtain ⟨o_32, hr_32, h⟩ := ob h
      refine vp_callSi (va_Run.run (va_runS (As := [.ref v, .int x1, .int (mmax x2 (0 : Int32)), .int (mmin x3 (14 : Int32))]) (rest := []) ⟨hx, hb, hml, hown, hts⟩ (c_J1_indexOfChar_4cfef l dC dI cB cC cI cJ cZ cT a v x1 (mmax x2 (0 : Int32)) (mmin x3 (14 : Int32)) o_32 hr_32) (va_cwS 4 hts gJ1_indexOf_4cfef_J1_indexOfChar_4cfef rfl rfl rfl (by decide +kernel) ⟨Nat.le_of_ble_eq_true rfl, Nat.le_of_ble_eq_true rfl⟩) ⟨blS, fun U hU hW => ⟨rfl, by show STR _ _ (fun _ => False) U U.heap; rw [hU]; exact hE.go hW.alike hS.2.1 (fun _ q => q.elim)⟩⟩ rfl rfl hl.1 rfl (lv_room (Nat.le_of_ble_eq_true rfl)) dJ1_indexOf_4cfef_33 ⟨Nat.le_of_ble_eq_true rfl, Nat.le_of_ble_eq_true rfl⟩)) (fun r_32 e_32 => ?_)
      subst e_32
      rw [hQQ]
      exact W.iret hx hb hr (fun t ht hW => ⟨_, rfl, (Option.some.inj h).symm, ht⟩) (fun q hq => absurd hq List.not_mem_nil) dJ1_indexOf_4cfef_36
    · replace h := on c_31 h
      refine lv_iconst (v := -1) hx hb dJ1_indexOf_4cfef_27 (by decide) ?_
      rw [hQQ]
      exact W.iret hx hb hr (fun t ht hW => ⟨_, rfl, (Option.some.inj h).symm, ht⟩) (fun q hq => absurd hq List.not_mem_nil) dJ1_indexOf_4cfef_28
  · replace h := op c_30 h
    refine lv_iconst (v := -1) hx hb dJ1_indexOf_4cfef_7 (by decide) ?_
    rw [hQQ]
    exact W.iret hx hb hr (fun t ht hW => ⟨_, rfl, (Option.some.inj h).symm, ht⟩) (fun q hq => absurd hq List.not_mem_nil) dJ1_indexOf_4cfef_8
def f_J0_indexOf_7cf53 (x1 : Int32) (x2 : Int32) : Option Int32 :=
  ((f_J0_isLatin1_aae02).bind (fun o_34 => (if (b2i o_34) = 0 then ((f_J0_length_8abf5).bind (fun o_37 => (none))) else ((f_J0_length_8abf5).bind (fun o_39 => ((f_J1_indexOf_4cfef x1 x2 o_39).bind (fun o_41 => (some o_41))))))))
abbrev rm_J0_indexOf_7cf53 : Room := { frames := 2, cells := 0, slots := 0, locals := 48 }
set_option maxHeartbeats 4000000 in
set_option maxRecDepth 100000 in
theorem c_J0_indexOf_7cf53 (l : Launch) (dC : Nat → ClassId) (dI : Nat → Nat → Nat) (cB cC cI cJ cZ cT : ClassId) (a v : Nat) (x1 : Int32) (x2 : Int32) (o : Int32) (hf : f_J0_indexOf_7cf53 x1 x2 = some o) : Met l yJ0_indexOf_7cf53 wsJ0_indexOf_7cf53 rm_J0_indexOf_7cf53 (va_Pc [.ref a, .int x1, .int x2] (fun U => STR a v (fun _ => False) U U.heap)) (vp_Si (fun r => o = r)) 0 0 (fun _ => False) := by
  refine Met.ofW (cc := cJ0_indexOf_7cf53) (maxL := 3) (ret := (some .int)) (by decide +kernel) rfl ?_
  intro p e s m args below meth c s₁ B hml hv
  obtain ⟨hav, hE⟩ := hv
  have hS : va_S (fun _ => False) s.heap s.heap [] := va_S.rf
  obtain ⟨hE1, hE2, hE3, hE4, hE5, hE6⟩ := id hE
  have hx := B.exec
  have hb := B.bytes
  have hr := B.returns
  have hts := atoms_spec (ws := wsJ0_indexOf_7cf53) B.pre
  have hown : s.vm.findClass RJ0 = some m.cls := findClass_of_methodNamed B.named
  have hlocks := B.notSynchronized
  refine wstart (rm := rm_J0_indexOf_7cf53) hav (Nat.le_of_ble_eq_true rfl) (fun QQ ls hQQ hl => ?_)
  have hl : lv_has ls 3 [(0, .ref a), (1, .int x1), (2, .int x2)] := hl
  have h := hf
  unfold f_J0_indexOf_7cf53 at h
  refine lv_aload_n hx hb dJ0_indexOf_7cf53_0 rfl (lv_at hl 0 rfl) ?_
  obtain ⟨o_34, hr_34, h⟩ := ob h
  refine vp_callSi (va_Run.run (va_runV (As := []) (rest := []) ⟨hx, hb, hml, hown, hts⟩ (c_J0_isLatin1_aae02 l dC dI cB cC cI cJ cZ cT a v o_34 hr_34) (cwV 0 hts gJ0_indexOf_7cf53_J0_isLatin1_aae02 rfl rfl rfl (by decide +kernel) ⟨Nat.le_of_ble_eq_true rfl, Nat.le_of_ble_eq_true rfl⟩) ⟨blS, va_Orecv hE4 hS, fun U hU hW => ⟨rfl, by show STR _ _ (fun _ => False) U U.heap; rw [hU]; exact hE.go hW.alike hS.2.1 (fun _ q => q.elim)⟩⟩ rfl rfl hl.1 rfl (lv_room (Nat.le_of_ble_eq_true rfl)) dJ0_indexOf_7cf53_1 ⟨Nat.le_of_ble_eq_true rfl, Nat.le_of_ble_eq_true rfl⟩)) (fun r_34 e_34 => ?_)
  subst e_34
  refine lv_if_eq (tgt := 23) hx hb dJ0_indexOf_7cf53_4 (by decide) (fun c_36 => ?_) (fun c_36 => ?_)
  · replace h := op c_36 h
    refine lv_aload_n hx hb dJ0_indexOf_7cf53_23 rfl (lv_at hl 0 rfl) ?_
    refine vk_getf hx hb hE1 hS hown (hts _ (List.mem_of_getElem? (i := 1) rfl)) (fun _ h9 => h9) dJ0_indexOf_7cf53_24 ?_
    refine lv_iload_n hx hb dJ0_indexOf_7cf53_27 rfl (lv_at hl 1 rfl) ?_
    refine lv_iload_n hx hb dJ0_indexOf_7cf53_28 rfl (lv_at hl 2 rfl) ?_
    refine lv_aload_n hx hb dJ0_indexOf_7cf53_29 rfl (lv_at hl 0 rfl) ?_
    obtain ⟨o_37, hr_37, h⟩ := ob h
    refine vp_callSi (va_Run.run (va_runV (As := []) (rest := [.int x2, .int x1, .ref v]) ⟨hx, hb, hml, hown, hts⟩ (c_J0_length_8abf5 l dC dI cB cC cI cJ cZ cT a v o_37 hr_37) (cwV 0 hts gJ0_indexOf_7cf53_J0_length_8abf5 rfl rfl rfl (by decide +kernel) ⟨Nat.le_of_ble_eq_true rfl, Nat.le_of_ble_eq_true rfl⟩) ⟨blS, va_Orecv hE4 hS, fun U hU hW => ⟨rfl, by show STR _ _ (fun _ => False) U U.heap; rw [hU]; exact hE.go hW.alike hS.2.1 (fun _ q => q.elim)⟩⟩ rfl rfl hl.1 rfl (lv_room (Nat.le_of_ble_eq_true rfl)) dJ0_indexOf_7cf53_30 ⟨Nat.le_of_ble_eq_true rfl, Nat.le_of_ble_eq_true rfl⟩)) (fun r_37 e_37 => ?_)
    subst e_37
    exact absurd h nofun
  · replace h := on c_36 h
    refine lv_aload_n hx hb dJ0_indexOf_7cf53_7 rfl (lv_at hl 0 rfl) ?_
    refine vk_getf hx hb hE1 hS hown (hts _ (List.mem_of_getElem? (i := 1) rfl)) (fun _ h9 => h9) dJ0_indexOf_7cf53_8 ?_
    refine lv_iload_n hx hb dJ0_indexOf_7cf53_11 rfl (lv_at hl 1 rfl) ?_
    refine lv_iload_n hx hb dJ0_indexOf_7cf53_12 rfl (lv_at hl 2 rfl) ?_
    refine lv_aload_n hx hb dJ0_indexOf_7cf53_13 rfl (lv_at hl 0 rfl) ?_
    obtain ⟨o_39, hr_39, h⟩ := ob h
    refine vp_callSi (va_Run.run (va_runV (As := []) (rest := [.int x2, .int x1, .ref v]) ⟨hx, hb, hml, hown, hts⟩ (c_J0_length_8abf5 l dC dI cB cC cI cJ cZ cT a v o_39 hr_39) (cwV 0 hts gJ0_indexOf_7cf53_J0_length_8abf5 rfl rfl rfl (by decide +kernel) ⟨Nat.le_of_ble_eq_true rfl, Nat.le_of_ble_eq_true rfl⟩) ⟨blS, va_Orecv hE4 hS, fun U hU hW => ⟨rfl, by show STR _ _ (fun _ => False) U U.heap; rw [hU]; exact hE.go hW.alike hS.2.1 (fun _ q => q.elim)⟩⟩ rfl rfl hl.1 rfl (lv_room (Nat.le_of_ble_eq_true rfl)) dJ0_indexOf_7cf53_14 ⟨Nat.le_of_ble_eq_true rfl, Nat.le_of_ble_eq_true rfl⟩)) (fun r_39 e_39 => ?_)
    subst e_39
    obtain ⟨o_41, hr_41, h⟩ := ob h
    refine vp_callSi (va_Run.run (va_runS (As := [.ref v, .int x1, .int x2, .int o_39]) (rest := []) ⟨hx, hb, hml, hown, hts⟩ (c_J1_indexOf_4cfef l dC dI cB cC cI cJ cZ cT a v x1 x2 o_39 o_41 hr_41) (va_cwS 4 hts gJ0_indexOf_7cf53_J1_indexOf_4cfef rfl rfl rfl (by decide +kernel) ⟨Nat.le_of_ble_eq_true rfl, Nat.le_of_ble_eq_true rfl⟩) ⟨blS, fun U hU hW => ⟨rfl, by show STR _ _ (fun _ => False) U U.heap; rw [hU]; exact hE.go hW.alike hS.2.1 (fun _ q => q.elim)⟩⟩ rfl rfl hl.1 rfl (lv_room (Nat.le_of_ble_eq_true rfl)) dJ0_indexOf_7cf53_17 ⟨Nat.le_of_ble_eq_true rfl, Nat.le_of_ble_eq_true rfl⟩)) (fun r_41 e_41 => ?_)
    subst e_41
    refine lv_goto (tgt := 36) hx hb dJ0_indexOf_7cf53_20 (by decide) ?_
    rw [hQQ]
    exact W.iret hx hb hr (fun t ht hW => ⟨_, rfl, (Option.some.inj h).symm, ht⟩) (fun q hq => absurd hq List.not_mem_nil) dJ0_indexOf_7cf53_36
def f_J0_indexOf_0f7a4 (x1 : Int32) : Option Int32 :=
  ((f_J0_indexOf_7cf53 x1 (0 : Int32)).bind (fun o_43 => (some o_43)))
abbrev rm_J0_indexOf_0f7a4 : Room := { frames := 3, cells := 0, slots := 0, locals := 70 }
set_option maxHeartbeats 4000000 in
set_option maxRecDepth 100000 in
theorem c_J0_indexOf_0f7a4 (l : Launch) (dC : Nat → ClassId) (dI : Nat → Nat → Nat) (cB cC cI cJ cZ cT : ClassId) (a v : Nat) (x1 : Int32) (o : Int32) (hf : f_J0_indexOf_0f7a4 x1 = some o) : Met l yJ0_indexOf_0f7a4 wsJ0_indexOf_0f7a4 rm_J0_indexOf_0f7a4 (va_Pc [.ref a, .int x1] (fun U => STR a v (fun _ => False) U U.heap)) (vp_Si (fun r => o = r)) 0 0 (fun _ => False) := by
  refine Met.ofW (cc := cJ0_indexOf_0f7a4) (maxL := 2) (ret := (some .int)) (by decide +kernel) rfl ?_
  intro p e s m args below meth c s₁ B hml hv
  obtain ⟨hav, hE⟩ := hv
  have hS : va_S (fun _ => False) s.heap s.heap [] := va_S.rf
  obtain ⟨hE1, hE2, hE3, hE4, hE5, hE6⟩ := id hE
  have hx := B.exec
  have hb := B.bytes
  have hr := B.returns
  have hts := atoms_spec (ws := wsJ0_indexOf_0f7a4) B.pre
  have hown : s.vm.findClass RJ0 = some m.cls := findClass_of_methodNamed B.named
  have hlocks := B.notSynchronized
  refine wstart (rm := rm_J0_indexOf_0f7a4) hav (Nat.le_of_ble_eq_true rfl) (fun QQ ls hQQ hl => ?_)
  have hl : lv_has ls 2 [(0, .ref a), (1, .int x1)] := hl
  have h := hf
  unfold f_J0_indexOf_0f7a4 at h
  refine lv_aload_n hx hb dJ0_indexOf_0f7a4_0 rfl (lv_at hl 0 rfl) ?_
  refine lv_iload_n hx hb dJ0_indexOf_0f7a4_1 rfl (lv_at hl 1 rfl) ?_
  refine lv_iconst (v := 0) hx hb dJ0_indexOf_0f7a4_2 (by decide) ?_
  obtain ⟨o_43, hr_43, h⟩ := ob h
  refine vp_callSi (va_Run.run (va_runV (As := [.int x1, .int (0 : Int32)]) (rest := []) ⟨hx, hb, hml, hown, hts⟩ (c_J0_indexOf_7cf53 l dC dI cB cC cI cJ cZ cT a v x1 (0 : Int32) o_43 hr_43) (cwV 2 hts gJ0_indexOf_0f7a4_J0_indexOf_7cf53 rfl rfl rfl (by decide +kernel) ⟨Nat.le_of_ble_eq_true rfl, Nat.le_of_ble_eq_true rfl⟩) ⟨blS, va_Orecv hE4 hS, fun U hU hW => ⟨rfl, by show STR _ _ (fun _ => False) U U.heap; rw [hU]; exact hE.go hW.alike hS.2.1 (fun _ q => q.elim)⟩⟩ rfl rfl hl.1 rfl (lv_room (Nat.le_of_ble_eq_true rfl)) dJ0_indexOf_0f7a4_3 ⟨Nat.le_of_ble_eq_true rfl, Nat.le_of_ble_eq_true rfl⟩)) (fun r_43 e_43 => ?_)
  subst e_43
  rw [hQQ]
  exact W.iret hx hb hr (fun t ht hW => ⟨_, rfl, (Option.some.inj h).symm, ht⟩) (fun q hq => absurd hq List.not_mem_nil) dJ0_indexOf_0f7a4_6
def f_J6_bitCount_0f7a4 (x0 : Int32) : Option Int32 :=
  (some ((((((((x0 - ((ius x0 (1 : Int32)) &&& (1431655765 : Int32))) &&& (858993459 : Int32)) + ((ius (x0 - ((ius x0 (1 : Int32)) &&& (1431655765 : Int32))) (2 : Int32)) &&& (858993459 : Int32))) + (ius (((x0 - ((ius x0 (1 : Int32)) &&& (1431655765 : Int32))) &&& (858993459 : Int32)) + ((ius (x0 - ((ius x0 (1 : Int32)) &&& (1431655765 : Int32))) (2 : Int32)) &&& (858993459 : Int32))) (4 : Int32))) &&& (252645135 : Int32)) + (ius (((((x0 - ((ius x0 (1 : Int32)) &&& (1431655765 : Int32))) &&& (858993459 : Int32)) + ((ius (x0 - ((ius x0 (1 : Int32)) &&& (1431655765 : Int32))) (2 : Int32)) &&& (858993459 : Int32))) + (ius (((x0 - ((ius x0 (1 : Int32)) &&& (1431655765 : Int32))) &&& (858993459 : Int32)) + ((ius (x0 - ((ius x0 (1 : Int32)) &&& (1431655765 : Int32))) (2 : Int32)) &&& (858993459 : Int32))) (4 : Int32))) &&& (252645135 : Int32)) (8 : Int32))) + (ius ((((((x0 - ((ius x0 (1 : Int32)) &&& (1431655765 : Int32))) &&& (858993459 : Int32)) + ((ius (x0 - ((ius x0 (1 : Int32)) &&& (1431655765 : Int32))) (2 : Int32)) &&& (858993459 : Int32))) + (ius (((x0 - ((ius x0 (1 : Int32)) &&& (1431655765 : Int32))) &&& (858993459 : Int32)) + ((ius (x0 - ((ius x0 (1 : Int32)) &&& (1431655765 : Int32))) (2 : Int32)) &&& (858993459 : Int32))) (4 : Int32))) &&& (252645135 : Int32)) + (ius (((((x0 - ((ius x0 (1 : Int32)) &&& (1431655765 : Int32))) &&& (858993459 : Int32)) + ((ius (x0 - ((ius x0 (1 : Int32)) &&& (1431655765 : Int32))) (2 : Int32)) &&& (858993459 : Int32))) + (ius (((x0 - ((ius x0 (1 : Int32)) &&& (1431655765 : Int32))) &&& (858993459 : Int32)) + ((ius (x0 - ((ius x0 (1 : Int32)) &&& (1431655765 : Int32))) (2 : Int32)) &&& (858993459 : Int32))) (4 : Int32))) &&& (252645135 : Int32)) (8 : Int32))) (16 : Int32))) &&& (63 : Int32)))
abbrev rm_J6_bitCount_0f7a4 : Room := { frames := 0, cells := 0, slots := 0, locals := 0 }
set_option maxHeartbeats 4000000 in
set_option maxRecDepth 100000 in
theorem c_J6_bitCount_0f7a4 (l : Launch) (dC : Nat → ClassId) (dI : Nat → Nat → Nat) (cB cC cI cJ cZ cT : ClassId) (x0 : Int32) (o : Int32) (hf : f_J6_bitCount_0f7a4 x0 = some o) : Met l yJ6_bitCount_0f7a4 wsJ6_bitCount_0f7a4 rm_J6_bitCount_0f7a4 (va_Pc [.int x0] (fun _ => True)) (vp_Si (fun r => o = r)) 0 0 (fun _ => False) := by
  refine Met.ofW (cc := cJ6_bitCount_0f7a4) (maxL := 1) (ret := (some .int)) (by decide +kernel) rfl ?_
  intro p e s m args below meth c s₁ B hml hv
  obtain ⟨hav, -⟩ := hv
  have hx := B.exec
  have hb := B.bytes
  have hr := B.returns
  have hts := atoms_spec (ws := wsJ6_bitCount_0f7a4) B.pre
  have hown : s.vm.findClass RJ6 = some m.cls := findClass_of_methodNamed B.named
  have hlocks := B.notSynchronized
  refine wstart (rm := rm_J6_bitCount_0f7a4) hav (Nat.le_of_ble_eq_true rfl) (fun QQ ls hQQ hl => ?_)
  have hl : lv_has ls 1 [(0, .int x0)] := hl
  have h := hf
  unfold f_J6_bitCount_0f7a4 at h
  refine lv_iload_n hx hb dJ6_bitCount_0f7a4_0 rfl (lv_at hl 0 rfl) ?_
  refine lv_iload_n hx hb dJ6_bitCount_0f7a4_1 rfl (lv_at hl 0 rfl) ?_
  refine lv_iconst (v := 1) hx hb dJ6_bitCount_0f7a4_2 (by decide) ?_
  refine lv_iushr (v := (ius x0 (1 : Int32))) hx hb dJ6_bitCount_0f7a4_3 rfl ?_
  refine lv_ldcw (v := 1431655765) hx hb hown (hts _ (List.mem_of_getElem? (i := 1) rfl)) dJ6_bitCount_0f7a4_4 ?_
  refine lv_iand hx hb dJ6_bitCount_0f7a4_7 ?_
  refine lv_isub hx hb dJ6_bitCount_0f7a4_8 ?_
  refine lv_istore_n (lv' := [(0, .int (x0 - ((ius x0 (1 : Int32)) &&& (1431655765 : Int32))))]) hx hb dJ6_bitCount_0f7a4_9 rfl hl (by decide) rfl (fun ls hl => ?_)
  refine lv_iload_n hx hb dJ6_bitCount_0f7a4_10 rfl (lv_at hl 0 rfl) ?_
  refine lv_ldcw (v := 858993459) hx hb hown (hts _ (List.mem_of_getElem? (i := 2) rfl)) dJ6_bitCount_0f7a4_11 ?_
  refine lv_iand hx hb dJ6_bitCount_0f7a4_14 ?_
  refine lv_iload_n hx hb dJ6_bitCount_0f7a4_15 rfl (lv_at hl 0 rfl) ?_
  refine lv_iconst (v := 2) hx hb dJ6_bitCount_0f7a4_16 (by decide) ?_
  refine lv_iushr (v := (ius (x0 - ((ius x0 (1 : Int32)) &&& (1431655765 : Int32))) (2 : Int32))) hx hb dJ6_bitCount_0f7a4_17 rfl ?_
  refine lv_ldcw (v := 858993459) hx hb hown (hts _ (List.mem_of_getElem? (i := 2) rfl)) dJ6_bitCount_0f7a4_18 ?_
  refine lv_iand hx hb dJ6_bitCount_0f7a4_21 ?_
  refine lv_iadd hx hb dJ6_bitCount_0f7a4_22 ?_
  refine lv_istore_n (lv' := [(0, .int (((x0 - ((ius x0 (1 : Int32)) &&& (1431655765 : Int32))) &&& (858993459 : Int32)) + ((ius (x0 - ((ius x0 (1 : Int32)) &&& (1431655765 : Int32))) (2 : Int32)) &&& (858993459 : Int32))))]) hx hb dJ6_bitCount_0f7a4_23 rfl hl (by decide) rfl (fun ls hl => ?_)
  refine lv_iload_n hx hb dJ6_bitCount_0f7a4_24 rfl (lv_at hl 0 rfl) ?_
  refine lv_iload_n hx hb dJ6_bitCount_0f7a4_25 rfl (lv_at hl 0 rfl) ?_
  refine lv_iconst (v := 4) hx hb dJ6_bitCount_0f7a4_26 (by decide) ?_
  refine lv_iushr (v := (ius (((x0 - ((ius x0 (1 : Int32)) &&& (1431655765 : Int32))) &&& (858993459 : Int32)) + ((ius (x0 - ((ius x0 (1 : Int32)) &&& (1431655765 : Int32))) (2 : Int32)) &&& (858993459 : Int32))) (4 : Int32))) hx hb dJ6_bitCount_0f7a4_27 rfl ?_
  refine lv_iadd hx hb dJ6_bitCount_0f7a4_28 ?_
  refine lv_ldcw (v := 252645135) hx hb hown (hts _ (List.mem_of_getElem? (i := 3) rfl)) dJ6_bitCount_0f7a4_29 ?_
  refine lv_iand hx hb dJ6_bitCount_0f7a4_32 ?_
  refine lv_istore_n (lv' := [(0, .int (((((x0 - ((ius x0 (1 : Int32)) &&& (1431655765 : Int32))) &&& (858993459 : Int32)) + ((ius (x0 - ((ius x0 (1 : Int32)) &&& (1431655765 : Int32))) (2 : Int32)) &&& (858993459 : Int32))) + (ius (((x0 - ((ius x0 (1 : Int32)) &&& (1431655765 : Int32))) &&& (858993459 : Int32)) + ((ius (x0 - ((ius x0 (1 : Int32)) &&& (1431655765 : Int32))) (2 : Int32)) &&& (858993459 : Int32))) (4 : Int32))) &&& (252645135 : Int32)))]) hx hb dJ6_bitCount_0f7a4_33 rfl hl (by decide) rfl (fun ls hl => ?_)
  refine lv_iload_n hx hb dJ6_bitCount_0f7a4_34 rfl (lv_at hl 0 rfl) ?_
  refine lv_iload_n hx hb dJ6_bitCount_0f7a4_35 rfl (lv_at hl 0 rfl) ?_
  refine lv_bipush (v := 8) hx hb dJ6_bitCount_0f7a4_36 (by decide) ?_
  refine lv_iushr (v := (ius (((((x0 - ((ius x0 (1 : Int32)) &&& (1431655765 : Int32))) &&& (858993459 : Int32)) + ((ius (x0 - ((ius x0 (1 : Int32)) &&& (1431655765 : Int32))) (2 : Int32)) &&& (858993459 : Int32))) + (ius (((x0 - ((ius x0 (1 : Int32)) &&& (1431655765 : Int32))) &&& (858993459 : Int32)) + ((ius (x0 - ((ius x0 (1 : Int32)) &&& (1431655765 : Int32))) (2 : Int32)) &&& (858993459 : Int32))) (4 : Int32))) &&& (252645135 : Int32)) (8 : Int32))) hx hb dJ6_bitCount_0f7a4_38 rfl ?_
  refine lv_iadd hx hb dJ6_bitCount_0f7a4_39 ?_
  refine lv_istore_n (lv' := [(0, .int ((((((x0 - ((ius x0 (1 : Int32)) &&& (1431655765 : Int32))) &&& (858993459 : Int32)) + ((ius (x0 - ((ius x0 (1 : Int32)) &&& (1431655765 : Int32))) (2 : Int32)) &&& (858993459 : Int32))) + (ius (((x0 - ((ius x0 (1 : Int32)) &&& (1431655765 : Int32))) &&& (858993459 : Int32)) + ((ius (x0 - ((ius x0 (1 : Int32)) &&& (1431655765 : Int32))) (2 : Int32)) &&& (858993459 : Int32))) (4 : Int32))) &&& (252645135 : Int32)) + (ius (((((x0 - ((ius x0 (1 : Int32)) &&& (1431655765 : Int32))) &&& (858993459 : Int32)) + ((ius (x0 - ((ius x0 (1 : Int32)) &&& (1431655765 : Int32))) (2 : Int32)) &&& (858993459 : Int32))) + (ius (((x0 - ((ius x0 (1 : Int32)) &&& (1431655765 : Int32))) &&& (858993459 : Int32)) + ((ius (x0 - ((ius x0 (1 : Int32)) &&& (1431655765 : Int32))) (2 : Int32)) &&& (858993459 : Int32))) (4 : Int32))) &&& (252645135 : Int32)) (8 : Int32))))]) hx hb dJ6_bitCount_0f7a4_40 rfl hl (by decide) rfl (fun ls hl => ?_)
  refine lv_iload_n hx hb dJ6_bitCount_0f7a4_41 rfl (lv_at hl 0 rfl) ?_
  refine lv_iload_n hx hb dJ6_bitCount_0f7a4_42 rfl (lv_at hl 0 rfl) ?_
  refine lv_bipush (v := 16) hx hb dJ6_bitCount_0f7a4_43 (by decide) ?_
  refine lv_iushr (v := (ius ((((((x0 - ((ius x0 (1 : Int32)) &&& (1431655765 : Int32))) &&& (858993459 : Int32)) + ((ius (x0 - ((ius x0 (1 : Int32)) &&& (1431655765 : Int32))) (2 : Int32)) &&& (858993459 : Int32))) + (ius (((x0 - ((ius x0 (1 : Int32)) &&& (1431655765 : Int32))) &&& (858993459 : Int32)) + ((ius (x0 - ((ius x0 (1 : Int32)) &&& (1431655765 : Int32))) (2 : Int32)) &&& (858993459 : Int32))) (4 : Int32))) &&& (252645135 : Int32)) + (ius (((((x0 - ((ius x0 (1 : Int32)) &&& (1431655765 : Int32))) &&& (858993459 : Int32)) + ((ius (x0 - ((ius x0 (1 : Int32)) &&& (1431655765 : Int32))) (2 : Int32)) &&& (858993459 : Int32))) + (ius (((x0 - ((ius x0 (1 : Int32)) &&& (1431655765 : Int32))) &&& (858993459 : Int32)) + ((ius (x0 - ((ius x0 (1 : Int32)) &&& (1431655765 : Int32))) (2 : Int32)) &&& (858993459 : Int32))) (4 : Int32))) &&& (252645135 : Int32)) (8 : Int32))) (16 : Int32))) hx hb dJ6_bitCount_0f7a4_45 rfl ?_
  refine lv_iadd hx hb dJ6_bitCount_0f7a4_46 ?_
  refine lv_istore_n (lv' := [(0, .int (((((((x0 - ((ius x0 (1 : Int32)) &&& (1431655765 : Int32))) &&& (858993459 : Int32)) + ((ius (x0 - ((ius x0 (1 : Int32)) &&& (1431655765 : Int32))) (2 : Int32)) &&& (858993459 : Int32))) + (ius (((x0 - ((ius x0 (1 : Int32)) &&& (1431655765 : Int32))) &&& (858993459 : Int32)) + ((ius (x0 - ((ius x0 (1 : Int32)) &&& (1431655765 : Int32))) (2 : Int32)) &&& (858993459 : Int32))) (4 : Int32))) &&& (252645135 : Int32)) + (ius (((((x0 - ((ius x0 (1 : Int32)) &&& (1431655765 : Int32))) &&& (858993459 : Int32)) + ((ius (x0 - ((ius x0 (1 : Int32)) &&& (1431655765 : Int32))) (2 : Int32)) &&& (858993459 : Int32))) + (ius (((x0 - ((ius x0 (1 : Int32)) &&& (1431655765 : Int32))) &&& (858993459 : Int32)) + ((ius (x0 - ((ius x0 (1 : Int32)) &&& (1431655765 : Int32))) (2 : Int32)) &&& (858993459 : Int32))) (4 : Int32))) &&& (252645135 : Int32)) (8 : Int32))) + (ius ((((((x0 - ((ius x0 (1 : Int32)) &&& (1431655765 : Int32))) &&& (858993459 : Int32)) + ((ius (x0 - ((ius x0 (1 : Int32)) &&& (1431655765 : Int32))) (2 : Int32)) &&& (858993459 : Int32))) + (ius (((x0 - ((ius x0 (1 : Int32)) &&& (1431655765 : Int32))) &&& (858993459 : Int32)) + ((ius (x0 - ((ius x0 (1 : Int32)) &&& (1431655765 : Int32))) (2 : Int32)) &&& (858993459 : Int32))) (4 : Int32))) &&& (252645135 : Int32)) + (ius (((((x0 - ((ius x0 (1 : Int32)) &&& (1431655765 : Int32))) &&& (858993459 : Int32)) + ((ius (x0 - ((ius x0 (1 : Int32)) &&& (1431655765 : Int32))) (2 : Int32)) &&& (858993459 : Int32))) + (ius (((x0 - ((ius x0 (1 : Int32)) &&& (1431655765 : Int32))) &&& (858993459 : Int32)) + ((ius (x0 - ((ius x0 (1 : Int32)) &&& (1431655765 : Int32))) (2 : Int32)) &&& (858993459 : Int32))) (4 : Int32))) &&& (252645135 : Int32)) (8 : Int32))) (16 : Int32))))]) hx hb dJ6_bitCount_0f7a4_47 rfl hl (by decide) rfl (fun ls hl => ?_)
  refine lv_iload_n hx hb dJ6_bitCount_0f7a4_48 rfl (lv_at hl 0 rfl) ?_
  refine lv_bipush (v := 63) hx hb dJ6_bitCount_0f7a4_49 (by decide) ?_
  refine lv_iand hx hb dJ6_bitCount_0f7a4_51 ?_
  rw [hQQ]
  exact W.iret hx hb hr (fun t ht hW => ⟨_, rfl, (Option.some.inj h).symm, ht⟩) (fun q hq => absurd hq List.not_mem_nil) dJ6_bitCount_0f7a4_52
def f_J3_checkIndex_8e157 (x0 : Int32) (x1 : Int32) : Option Int32 :=
  (if x0 < 0 then (none) else (if x0 < x1 then (some x0) else (none)))
abbrev rm_J3_checkIndex_8e157 : Room := { frames := 0, cells := 0, slots := 0, locals := 0 }
set_option maxHeartbeats 4000000 in
set_option maxRecDepth 100000 in
theorem c_J3_checkIndex_8e157 (l : Launch) (dC : Nat → ClassId) (dI : Nat → Nat → Nat) (cB cC cI cJ cZ cT : ClassId) (t : Option Nat) (x0 : Int32) (x1 : Int32) (o : Int32) (hf : f_J3_checkIndex_8e157 x0 x1 = some o) : Met l yJ3_checkIndex_8e157 wsJ3_checkIndex_8e157 rm_J3_checkIndex_8e157 (va_Pc [.int x0, .int x1, va_rf t] (fun _ => True)) (vp_Si (fun r => o = r)) 0 0 (fun _ => False) := by
  refine Met.ofW (cc := cJ3_checkIndex_8e157) (maxL := 3) (ret := (some .int)) (by decide +kernel) rfl ?_
  intro p e s m args below meth c s₁ B hml hv
  obtain ⟨hav, -⟩ := hv
  have hx := B.exec
  have hb := B.bytes
  have hr := B.returns
  have hts := atoms_spec (ws := wsJ3_checkIndex_8e157) B.pre
  have hown : s.vm.findClass RJ3 = some m.cls := findClass_of_methodNamed B.named
  have hlocks := B.notSynchronized
  rcases t with _ | t
  all_goals
    refine wstart (rm := rm_J3_checkIndex_8e157) hav (Nat.le_of_ble_eq_true rfl) (fun QQ ls hQQ hl => ?_)
    have hl : lv_has ls 3 [(0, .int x0), (1, .int x1)] := lv_sub hl [0, 1] rfl
    have h := hf
    unfold f_J3_checkIndex_8e157 at h
    refine lv_iload_n hx hb dJ3_checkIndex_8e157_0 rfl (lv_at hl 0 rfl) ?_
    refine lv_if_lt (tgt := 9) hx hb dJ3_checkIndex_8e157_1 (by decide) (fun c_45 => ?_) (fun c_45 => ?_)
    · replace h := op c_45 h
      exact absurd h nofun
    · replace h := on c_45 h
      refine lv_iload_n hx hb dJ3_checkIndex_8e157_4 rfl (lv_at hl 0 rfl) ?_
      refine lv_iload_n hx hb dJ3_checkIndex_8e157_5 rfl (lv_at hl 1 rfl) ?_
      refine lv_icmp_lt (tgt := 16) hx hb dJ3_checkIndex_8e157_6 (by decide) (fun c_46 => ?_) (fun c_46 => ?_)
      · replace h := op c_46 h
        refine lv_iload_n hx hb dJ3_checkIndex_8e157_16 rfl (lv_at hl 0 rfl) ?_
        rw [hQQ]
        exact W.iret hx hb hr (fun t ht hW => ⟨_, rfl, (Option.some.inj h).symm, ht⟩) (fun q hq => absurd hq List.not_mem_nil) dJ3_checkIndex_8e157_17
      · replace h := on c_46 h
        exact absurd h nofun
def f_J0_checkIndex_df160 (x0 : Int32) (x1 : Int32) : Option Unit :=
  ((f_J3_checkIndex_8e157 x0 x1).bind (fun o_47 => (some ())))
abbrev rm_J0_checkIndex_df160 : Room := { frames := 1, cells := 0, slots := 0, locals := 22 }
set_option maxHeartbeats 4000000 in
set_option maxRecDepth 100000 in
theorem c_J0_checkIndex_df160 (l : Launch) (dC : Nat → ClassId) (dI : Nat → Nat → Nat) (cB cC cI cJ cZ cT : ClassId) (a v : Nat) (x0 : Int32) (x1 : Int32) (o : Unit) (hf : f_J0_checkIndex_df160 x0 x1 = some o) : Met l yJ0_checkIndex_df160 wsJ0_checkIndex_df160 rm_J0_checkIndex_df160 (va_Pc [.int x0, .int x1] (fun U => STR a v (fun _ => False) U U.heap)) (va_Sv (fun _ => True)) 0 0 (fun _ => False) := by
  refine Met.ofW (cc := cJ0_checkIndex_df160) (maxL := 2) (ret := none) (by decide +kernel) rfl ?_
  intro p e s m args below meth c s₁ B hml hv
  obtain ⟨hav, hE⟩ := hv
  have hS : va_S (fun _ => False) s.heap s.heap [] := va_S.rf
  obtain ⟨hE1, hE2, hE3, hE4, hE5, hE6⟩ := id hE
  have hx := B.exec
  have hb := B.bytes
  have hr := B.returns
  have hts := atoms_spec (ws := wsJ0_checkIndex_df160) B.pre
  have hown : s.vm.findClass RJ0 = some m.cls := findClass_of_methodNamed B.named
  have hlocks := B.notSynchronized
  refine wstart (rm := rm_J0_checkIndex_df160) hav (Nat.le_of_ble_eq_true rfl) (fun QQ ls hQQ hl => ?_)
  have hl : lv_has ls 2 [(0, .int x0), (1, .int x1)] := hl
  have h := hf
  unfold f_J0_checkIndex_df160 at h
  refine lv_iload_n hx hb dJ0_checkIndex_df160_0 rfl (lv_at hl 0 rfl) ?_
  refine lv_iload_n hx hb dJ0_checkIndex_df160_1 rfl (lv_at hl 1 rfl) ?_
  obtain ⟨tf, hZF⟩ := zq_of hE6
  refine va_gets (v := va_rf tf) hx hb hZF hS hown (hts _ (List.mem_of_getElem? (i := 1) rfl)) (fun _ h9 => h9) dJ0_checkIndex_df160_2 ?_
  obtain ⟨o_47, hr_47, h⟩ := ob h
  refine vp_callSi (va_Run.run (va_runS (As := [.int x0, .int x1, va_rf tf]) (rest := []) ⟨hx, hb, hml, hown, hts⟩ (c_J3_checkIndex_8e157 l dC dI cB cC cI cJ cZ cT tf x0 x1 o_47 hr_47) (va_cwS 3 hts gJ0_checkIndex_df160_J3_checkIndex_8e157 rfl rfl rfl (by decide +kernel) ⟨Nat.le_of_ble_eq_true rfl, Nat.le_of_ble_eq_true rfl⟩) ⟨blT, fun U hU hW => ⟨rfl, trivial⟩⟩ rfl rfl hl.1 rfl (lv_room (Nat.le_of_ble_eq_true rfl)) dJ0_checkIndex_df160_5 ⟨Nat.le_of_ble_eq_true rfl, Nat.le_of_ble_eq_true rfl⟩)) (fun r_47 e_47 => ?_)
  subst e_47
  refine lv_pop hx hb dJ0_checkIndex_df160_8 rfl ?_
  rw [hQQ]
  exact W.vret hx hb hr (fun t ht hW => ⟨rfl, trivial, ht⟩) (fun q hq => absurd hq List.not_mem_nil) dJ0_checkIndex_df160_9
def f_J1_charAt_3b067 (x1 : Int32) : Option Int32 :=
  ((f_J0_checkIndex_df160 x1 (14 : Int32)).bind (fun o_49 => (if x1 < 0 ∨ 14 ≤ (x1).toNatClampNeg then none else (if ¬ vp_nar .char (to_c ((ltr (x1).toNatClampNeg) &&& (255 : Int32))) = (to_c ((ltr (x1).toNatClampNeg) &&& (255 : Int32))) then none else some (to_c ((ltr (x1).toNatClampNeg) &&& (255 : Int32)))))))
abbrev rm_J1_charAt_3b067 : Room := { frames := 2, cells := 0, slots := 0, locals := 43 }
set_option maxHeartbeats 4000000 in
set_option maxRecDepth 100000 in
theorem c_J1_charAt_3b067 (l : Launch) (dC : Nat → ClassId) (dI : Nat → Nat → Nat) (cB cC cI cJ cZ cT : ClassId) (a v : Nat) (x1 : Int32) (o : Int32) (hf : f_J1_charAt_3b067 x1 = some o) : Met l yJ1_charAt_3b067 wsJ1_charAt_3b067 rm_J1_charAt_3b067 (va_Pc [.ref v, .int x1] (fun U => STR a v (fun _ => False) U U.heap)) (vp_Si (fun r => o = r)) 0 0 (fun _ => False) := by
  refine Met.ofW (cc := cJ1_charAt_3b067) (maxL := 2) (ret := (some .char)) (by decide +kernel) rfl ?_
  intro p e s m args below meth c s₁ B hml hv
  obtain ⟨hav, hE⟩ := hv
  have hS : va_S (fun _ => False) s.heap s.heap [] := va_S.rf
  obtain ⟨hE1, hE2, hE3, hE4, hE5, hE6⟩ := id hE
  have hx := B.exec
  have hb := B.bytes
  have hr := B.returns
  have hts := atoms_spec (ws := wsJ1_charAt_3b067) B.pre
  have hown : s.vm.findClass RJ1 = some m.cls := findClass_of_methodNamed B.named
  have hlocks := B.notSynchronized
  refine wstart (rm := rm_J1_charAt_3b067) hav (Nat.le_of_ble_eq_true rfl) (fun QQ ls hQQ hl => ?_)
  have hl : lv_has ls 2 [(0, .ref v), (1, .int x1)] := hl
  have h := hf
  unfold f_J1_charAt_3b067 at h
  refine lv_iload_n hx hb dJ1_charAt_3b067_0 rfl (lv_at hl 1 rfl) ?_
  refine lv_aload_n hx hb dJ1_charAt_3b067_1 rfl (lv_at hl 0 rfl) ?_
  refine va_tlen (v := 14) hx hb hE3 hS (by decide) dJ1_charAt_3b067_2 ?_
  obtain ⟨o_49, hr_49, h⟩ := ob h
  refine va_csv (va_Run.run (va_runS (As := [.int x1, .int (14 : Int32)]) (rest := []) ⟨hx, hb, hml, hown, hts⟩ (c_J0_checkIndex_df160 l dC dI cB cC cI cJ cZ cT a v x1 (14 : Int32) o_49 hr_49) (va_cwS 2 hts gJ1_charAt_3b067_J0_checkIndex_df160 rfl rfl rfl (by decide +kernel) ⟨Nat.le_of_ble_eq_true rfl, Nat.le_of_ble_eq_true rfl⟩) ⟨blS, fun U hU hW => ⟨rfl, by show STR _ _ (fun _ => False) U U.heap; rw [hU]; exact hE.go hW.alike hS.2.1 (fun _ q => q.elim)⟩⟩ rfl rfl hl.1 rfl (lv_room (Nat.le_of_ble_eq_true rfl)) dJ1_charAt_3b067_3 ⟨Nat.le_of_ble_eq_true rfl, Nat.le_of_ble_eq_true rfl⟩)) (fun _ => ?_)
  refine lv_aload_n hx hb dJ1_charAt_3b067_6 rfl (lv_at hl 0 rfl) ?_
  refine lv_iload_n hx hb dJ1_charAt_3b067_7 rfl (lv_at hl 1 rfl) ?_
  obtain ⟨hi_51, h⟩ := og h
  refine va_tb (v := .int (ltr (x1).toNatClampNeg)) hx hb hE3 hS hi_51 rfl dJ1_charAt_3b067_8 ?_
  refine lv_sipush (v := 255) hx hb dJ1_charAt_3b067_9 (by decide) ?_
  refine lv_iand hx hb dJ1_charAt_3b067_12 ?_
  refine lv_i2c (v := (to_c ((ltr (x1).toNatClampNeg) &&& (255 : Int32)))) hx hb dJ1_charAt_3b067_13 rfl ?_
  obtain ⟨hi_52, h⟩ := og h
  rw [hQQ]
  exact W.zret hx hb hr (congrArg Value.int (Classical.not_not.mp hi_52)) (fun t ht hW => ⟨_, rfl, (Option.some.inj h).symm, ht⟩) (fun q hq => absurd hq List.not_mem_nil) dJ1_charAt_3b067_14
def f_J0_charAt_5068e (x1 : Int32) : Option Int32 :=
  ((f_J0_isLatin1_aae02).bind (fun o_53 => (if (b2i o_53) = 0 then (none) else ((f_J1_charAt_3b067 x1).bind (fun o_56 => (if ¬ vp_nar .char o_56 = o_56 then none else some o_56))))))
abbrev rm_J0_charAt_5068e : Room := { frames := 3, cells := 0, slots := 0, locals := 64 }
set_option maxHeartbeats 4000000 in
set_option maxRecDepth 100000 in
theorem c_J0_charAt_5068e (l : Launch) (dC : Nat → ClassId) (dI : Nat → Nat → Nat) (cB cC cI cJ cZ cT : ClassId) (a v : Nat) (x1 : Int32) (o : Int32) (hf : f_J0_charAt_5068e x1 = some o) : Met l yJ0_charAt_5068e wsJ0_charAt_5068e rm_J0_charAt_5068e (va_Pc [.ref a, .int x1] (fun U => STR a v (fun _ => False) U U.heap)) (vp_Si (fun r => o = r)) 0 0 (fun _ => False) := by
  refine Met.ofW (cc := cJ0_charAt_5068e) (maxL := 2) (ret := (some .char)) (by decide +kernel) rfl ?_
  intro p e s m args below meth c s₁ B hml hv
  obtain ⟨hav, hE⟩ := hv
  have hS : va_S (fun _ => False) s.heap s.heap [] := va_S.rf
  obtain ⟨hE1, hE2, hE3, hE4, hE5, hE6⟩ := id hE
  have hx := B.exec
  have hb := B.bytes
  have hr := B.returns
  have hts := atoms_spec (ws := wsJ0_charAt_5068e) B.pre
  have hown : s.vm.findClass RJ0 = some m.cls := findClass_of_methodNamed B.named
  have hlocks := B.notSynchronized
  refine wstart (rm := rm_J0_charAt_5068e) hav (Nat.le_of_ble_eq_true rfl) (fun QQ ls hQQ hl => ?_)
  have hl : lv_has ls 2 [(0, .ref a), (1, .int x1)] := hl
  have h := hf
  unfold f_J0_charAt_5068e at h
  refine lv_aload_n hx hb dJ0_charAt_5068e_0 rfl (lv_at hl 0 rfl) ?_
  obtain ⟨o_53, hr_53, h⟩ := ob h
  refine vp_callSi (va_Run.run (va_runV (As := []) (rest := []) ⟨hx, hb, hml, hown, hts⟩ (c_J0_isLatin1_aae02 l dC dI cB cC cI cJ cZ cT a v o_53 hr_53) (cwV 0 hts gJ0_charAt_5068e_J0_isLatin1_aae02 rfl rfl rfl (by decide +kernel) ⟨Nat.le_of_ble_eq_true rfl, Nat.le_of_ble_eq_true rfl⟩) ⟨blS, va_Orecv hE4 hS, fun U hU hW => ⟨rfl, by show STR _ _ (fun _ => False) U U.heap; rw [hU]; exact hE.go hW.alike hS.2.1 (fun _ q => q.elim)⟩⟩ rfl rfl hl.1 rfl (lv_room (Nat.le_of_ble_eq_true rfl)) dJ0_charAt_5068e_1 ⟨Nat.le_of_ble_eq_true rfl, Nat.le_of_ble_eq_true rfl⟩)) (fun r_53 e_53 => ?_)
  subst e_53
  refine lv_if_eq (tgt := 16) hx hb dJ0_charAt_5068e_4 (by decide) (fun c_55 => ?_) (fun c_55 => ?_)
  · replace h := op c_55 h
    refine lv_aload_n hx hb dJ0_charAt_5068e_16 rfl (lv_at hl 0 rfl) ?_
    refine vk_getf hx hb hE1 hS hown (hts _ (List.mem_of_getElem? (i := 1) rfl)) (fun _ h9 => h9) dJ0_charAt_5068e_17 ?_
    refine lv_iload_n hx hb dJ0_charAt_5068e_20 rfl (lv_at hl 1 rfl) ?_
    exact absurd h nofun
  · replace h := on c_55 h
    refine lv_aload_n hx hb dJ0_charAt_5068e_7 rfl (lv_at hl 0 rfl) ?_
    refine vk_getf hx hb hE1 hS hown (hts _ (List.mem_of_getElem? (i := 1) rfl)) (fun _ h9 => h9) dJ0_charAt_5068e_8 ?_
    refine lv_iload_n hx hb dJ0_charAt_5068e_11 rfl (lv_at hl 1 rfl) ?_
    obtain ⟨o_56, hr_56, h⟩ := ob h
    refine vp_callSi (va_Run.run (va_runS (As := [.ref v, .int x1]) (rest := []) ⟨hx, hb, hml, hown, hts⟩ (c_J1_charAt_3b067 l dC dI cB cC cI cJ cZ cT a v x1 o_56 hr_56) (va_cwS 2 hts gJ0_charAt_5068e_J1_charAt_3b067 rfl rfl rfl (by decide +kernel) ⟨Nat.le_of_ble_eq_true rfl, Nat.le_of_ble_eq_true rfl⟩) ⟨blS, fun U hU hW => ⟨rfl, by show STR _ _ (fun _ => False) U U.heap; rw [hU]; exact hE.go hW.alike hS.2.1 (fun _ q => q.elim)⟩⟩ rfl rfl hl.1 rfl (lv_room (Nat.le_of_ble_eq_true rfl)) dJ0_charAt_5068e_12 ⟨Nat.le_of_ble_eq_true rfl, Nat.le_of_ble_eq_true rfl⟩)) (fun r_56 e_56 => ?_)
    subst e_56
    obtain ⟨hi_58, h⟩ := og h
    rw [hQQ]
    exact W.zret hx hb hr (congrArg Value.int (Classical.not_not.mp hi_58)) (fun t ht hW => ⟨_, rfl, (Option.some.inj h).symm, ht⟩) (fun q hq => absurd hq List.not_mem_nil) dJ0_charAt_5068e_15
def f_Jxf58ca_isNaN_12338 (x0 : UInt32) : Option Bool :=
  (if (Op.cmpValue (FP.fcmp x0 x0) .l) = 0 then (some false) else (some true))
abbrev rm_Jxf58ca_isNaN_12338 : Room := { frames := 0, cells := 0, slots := 0, locals := 0 }
set_option maxHeartbeats 4000000 in
set_option maxRecDepth 100000 in
theorem c_Jxf58ca_isNaN_12338 (l : Launch) (dC : Nat → ClassId) (dI : Nat → Nat → Nat) (cB cC cI cJ cZ cT : ClassId) (x0 : UInt32) (o : Bool) (hf : f_Jxf58ca_isNaN_12338 x0 = some o) : Met l yJxf58ca_isNaN_12338 wsJxf58ca_isNaN_12338 rm_Jxf58ca_isNaN_12338 (va_Pc [.float x0] (fun _ => True)) (vp_Si (fun r => b2i o = r)) 0 0 (fun _ => False) := by
  refine va_MetF (cc := cJxf58ca_isNaN_12338) (maxL := 1) (ret := (some .boolean)) (by decide +kernel) rfl ?_
  intro p e s m args below meth c s₁ B hml hv
  obtain ⟨hav, -⟩ := hv
  have hx := B.exec
  have hb := B.bytes
  have hr := B.returns
  have hts := atoms_spec (ws := wsJxf58ca_isNaN_12338) B.pre
  have hown : s.vm.findClass RJxf58ca = some m.cls := findClass_of_methodNamed B.named
  have hlocks := B.notSynchronized
  refine wstart (rm := rm_Jxf58ca_isNaN_12338) hav (Nat.le_of_ble_eq_true rfl) (fun QQ ls hQQ hl => ?_)
  have hl : lv_has ls 1 [(0, .float x0)] := hl
  have h := hf
  unfold f_Jxf58ca_isNaN_12338 at h
  refine lv_fload_n hx hb dJxf58ca_isNaN_12338_0 rfl (lv_at hl 0 rfl) ?_
  refine lv_fload_n hx hb dJxf58ca_isNaN_12338_1 rfl (lv_at hl 0 rfl) ?_
  refine lv_fcmp hx hb dJxf58ca_isNaN_12338_2 ?_
  refine lv_if_eq (tgt := 10) hx hb dJxf58ca_isNaN_12338_3 (by decide) (fun c_59 => ?_) (fun c_59 => ?_)
  · replace h := op c_59 h
    refine lv_iconst (v := 0) hx hb dJxf58ca_isNaN_12338_10 (by decide) ?_
    rw [hQQ]
    exact W.zret hx hb hr rfl (fun t ht hW => ⟨_, rfl, (congrArg b2i (Option.some.inj h).symm), ht⟩) (fun q hq => absurd hq List.not_mem_nil) dJxf58ca_isNaN_12338_11
  · replace h := on c_59 h
    refine lv_iconst (v := 1) hx hb dJxf58ca_isNaN_12338_6 (by decide) ?_
    refine lv_goto (tgt := 11) hx hb dJxf58ca_isNaN_12338_7 (by decide) ?_
    rw [hQQ]
    exact W.zret hx hb hr rfl (fun t ht hW => ⟨_, rfl, (congrArg b2i (Option.some.inj h).symm), ht⟩) (fun q hq => absurd hq List.not_mem_nil) dJxf58ca_isNaN_12338_11
def f_Jxf58ca_floatToIntBits_5c35a (x0 : UInt32) : Option Int32 :=
  ((f_Jxf58ca_isNaN_12338 x0).bind (fun o_60 => (if (b2i o_60) = 0 then (some (x0).toInt32) else (some (2143289344 : Int32)))))
abbrev rm_Jxf58ca_floatToIntBits_5c35a : Room := { frames := 1, cells := 0, slots := 0, locals := 23 }
set_option maxHeartbeats 4000000 in
set_option maxRecDepth 100000 in
theorem c_Jxf58ca_floatToIntBits_5c35a (l : Launch) (dC : Nat → ClassId) (dI : Nat → Nat → Nat) (cB cC cI cJ cZ cT : ClassId) (x0 : UInt32) (o : Int32) (hf : f_Jxf58ca_floatToIntBits_5c35a x0 = some o) : Met l yJxf58ca_floatToIntBits_5c35a wsJxf58ca_floatToIntBits_5c35a rm_Jxf58ca_floatToIntBits_5c35a (va_Pc [.float x0] (fun _ => True)) (vp_Si (fun r => o = r)) 0 0 (fun _ => False) := by
  refine va_MetF (cc := cJxf58ca_floatToIntBits_5c35a) (maxL := 1) (ret := (some .int)) (by decide +kernel) rfl ?_
  intro p e s m args below meth c s₁ B hml hv
  obtain ⟨hav, -⟩ := hv
  have hx := B.exec
  have hb := B.bytes
  have hr := B.returns
  have hts := atoms_spec (ws := wsJxf58ca_floatToIntBits_5c35a) B.pre
  have hown : s.vm.findClass RJxf58ca = some m.cls := findClass_of_methodNamed B.named
  have hlocks := B.notSynchronized
  refine wstart (rm := rm_Jxf58ca_floatToIntBits_5c35a) hav (Nat.le_of_ble_eq_true rfl) (fun QQ ls hQQ hl => ?_)
  have hl : lv_has ls 1 [(0, .float x0)] := hl
  have h := hf
  unfold f_Jxf58ca_floatToIntBits_5c35a at h
  refine lv_fload_n hx hb dJxf58ca_floatToIntBits_5c35a_0 rfl (lv_at hl 0 rfl) ?_
  obtain ⟨o_60, hr_60, h⟩ := ob h
  refine vp_callSi (va_Run.run (va_runS (As := [.float x0]) (rest := []) ⟨hx, hb, hml, hown, hts⟩ (c_Jxf58ca_isNaN_12338 l dC dI cB cC cI cJ cZ cT x0 o_60 hr_60) (va_cwS 1 hts gJxf58ca_floatToIntBits_5c35a_Jxf58ca_isNaN_12338 rfl rfl rfl (by decide +kernel) ⟨Nat.le_of_ble_eq_true rfl, Nat.le_of_ble_eq_true rfl⟩) ⟨blT, fun U hU hW => ⟨rfl, trivial⟩⟩ rfl rfl hl.1 rfl (lv_room (Nat.le_of_ble_eq_true rfl)) dJxf58ca_floatToIntBits_5c35a_1 ⟨Nat.le_of_ble_eq_true rfl, Nat.le_of_ble_eq_true rfl⟩)) (fun r_60 e_60 => ?_)
  subst e_60
  refine lv_if_ne (tgt := 12) hx hb dJxf58ca_floatToIntBits_5c35a_4 (by decide) (fun c_62 => ?_) (fun c_62 => ?_)
  · replace h := on c_62 h
    refine lv_ldc (v := 2143289344) hx hb hown (hts _ (List.mem_of_getElem? (i := 5) rfl)) dJxf58ca_floatToIntBits_5c35a_12 ?_
    rw [hQQ]
    exact W.iret hx hb hr (fun t ht hW => ⟨_, rfl, (Option.some.inj h).symm, ht⟩) (fun q hq => absurd hq List.not_mem_nil) dJxf58ca_floatToIntBits_5c35a_14
  · replace h := op c_62 h
    refine lv_fload_n hx hb dJxf58ca_floatToIntBits_5c35a_7 rfl (lv_at hl 0 rfl) ?_
    refine vn_f2i hx hb (hml.trans hl.1.symm) hown (hts _ (List.mem_of_getElem? (i := 1) rfl)) (hts _ (List.mem_of_getElem? (i := 2) rfl)) (hts _ (List.mem_of_getElem? (i := 3) rfl)) (hts _ (List.mem_of_getElem? (i := 4) rfl)) (Nat.le_of_ble_eq_true rfl) (Nat.le_of_ble_eq_true rfl) dJxf58ca_floatToIntBits_5c35a_8 ?_
    rw [hQQ]
    exact W.iret hx hb hr (fun t ht hW => ⟨_, rfl, (Option.some.inj h).symm, ht⟩) (fun q hq => absurd hq List.not_mem_nil) dJxf58ca_floatToIntBits_5c35a_11
def f_Jxe99ae_isNaN_b9ae7 (x0 : UInt64) : Option Bool :=
  (if (Op.cmpValue (FP.dcmp x0 x0) .l) = 0 then (some false) else (some true))
abbrev rm_Jxe99ae_isNaN_b9ae7 : Room := { frames := 0, cells := 0, slots := 0, locals := 0 }
set_option maxHeartbeats 4000000 in
set_option maxRecDepth 100000 in
theorem c_Jxe99ae_isNaN_b9ae7 (l : Launch) (dC : Nat → ClassId) (dI : Nat → Nat → Nat) (cB cC cI cJ cZ cT : ClassId) (x0 : UInt64) (o : Bool) (hf : f_Jxe99ae_isNaN_b9ae7 x0 = some o) : Met l yJxe99ae_isNaN_b9ae7 wsJxe99ae_isNaN_b9ae7 rm_Jxe99ae_isNaN_b9ae7 (va_Pc [.double x0] (fun _ => True)) (vp_Si (fun r => b2i o = r)) 0 0 (fun _ => False) := by
  refine Met.ofW (cc := cJxe99ae_isNaN_b9ae7) (maxL := 2) (ret := (some .boolean)) (by decide +kernel) rfl ?_
  intro p e s m args below meth c s₁ B hml hv
  obtain ⟨hav, -⟩ := hv
  have hx := B.exec
  have hb := B.bytes
  have hr := B.returns
  have hts := atoms_spec (ws := wsJxe99ae_isNaN_b9ae7) B.pre
  have hown : s.vm.findClass RJxe99ae = some m.cls := findClass_of_methodNamed B.named
  have hlocks := B.notSynchronized
  refine wstart (rm := rm_Jxe99ae_isNaN_b9ae7) hav (Nat.le_of_ble_eq_true rfl) (fun QQ ls hQQ hl => ?_)
  have hl : lv_has ls 2 [(0, .double x0)] := hl
  have h := hf
  unfold f_Jxe99ae_isNaN_b9ae7 at h
  refine lv_dload_n hx hb dJxe99ae_isNaN_b9ae7_0 rfl (lv_at hl 0 rfl) ?_
  refine lv_dload_n hx hb dJxe99ae_isNaN_b9ae7_1 rfl (lv_at hl 0 rfl) ?_
  refine lv_dcmp hx hb dJxe99ae_isNaN_b9ae7_2 ?_
  refine lv_if_eq (tgt := 10) hx hb dJxe99ae_isNaN_b9ae7_3 (by decide) (fun c_64 => ?_) (fun c_64 => ?_)
  · replace h := op c_64 h
    refine lv_iconst (v := 0) hx hb dJxe99ae_isNaN_b9ae7_10 (by decide) ?_
    rw [hQQ]
    exact W.zret hx hb hr rfl (fun t ht hW => ⟨_, rfl, (congrArg b2i (Option.some.inj h).symm), ht⟩) (fun q hq => absurd hq List.not_mem_nil) dJxe99ae_isNaN_b9ae7_11
  · replace h := on c_64 h
    refine lv_iconst (v := 1) hx hb dJxe99ae_isNaN_b9ae7_6 (by decide) ?_
    refine lv_goto (tgt := 11) hx hb dJxe99ae_isNaN_b9ae7_7 (by decide) ?_
    rw [hQQ]
    exact W.zret hx hb hr rfl (fun t ht hW => ⟨_, rfl, (congrArg b2i (Option.some.inj h).symm), ht⟩) (fun q hq => absurd hq List.not_mem_nil) dJxe99ae_isNaN_b9ae7_11
def f_Jxe99ae_doubleToLongBits_ccdee (x0 : UInt64) : Option Int64 :=
  ((f_Jxe99ae_isNaN_b9ae7 x0).bind (fun o_65 => (if (b2i o_65) = 0 then (some (x0).toInt64) else (some (9221120237041090560 : Int64)))))
abbrev rm_Jxe99ae_doubleToLongBits_ccdee : Room := { frames := 1, cells := 0, slots := 0, locals := 23 }
set_option maxHeartbeats 4000000 in
set_option maxRecDepth 100000 in
theorem c_Jxe99ae_doubleToLongBits_ccdee (l : Launch) (dC : Nat → ClassId) (dI : Nat → Nat → Nat) (cB cC cI cJ cZ cT : ClassId) (x0 : UInt64) (o : Int64) (hf : f_Jxe99ae_doubleToLongBits_ccdee x0 = some o) : Met l yJxe99ae_doubleToLongBits_ccdee wsJxe99ae_doubleToLongBits_ccdee rm_Jxe99ae_doubleToLongBits_ccdee (va_Pc [.double x0] (fun _ => True)) (vp_Sl (fun r => o = r)) 0 0 (fun _ => False) := by
  refine Met.ofW (cc := cJxe99ae_doubleToLongBits_ccdee) (maxL := 2) (ret := (some .long)) (by decide +kernel) rfl ?_
  intro p e s m args below meth c s₁ B hml hv
  obtain ⟨hav, -⟩ := hv
  have hx := B.exec
  have hb := B.bytes
  have hr := B.returns
  have hts := atoms_spec (ws := wsJxe99ae_doubleToLongBits_ccdee) B.pre
  have hown : s.vm.findClass RJxe99ae = some m.cls := findClass_of_methodNamed B.named
  have hlocks := B.notSynchronized
  refine wstart (rm := rm_Jxe99ae_doubleToLongBits_ccdee) hav (Nat.le_of_ble_eq_true rfl) (fun QQ ls hQQ hl => ?_)
  have hl : lv_has ls 2 [(0, .double x0)] := hl
  have h := hf
  unfold f_Jxe99ae_doubleToLongBits_ccdee at h
  refine lv_dload_n hx hb dJxe99ae_doubleToLongBits_ccdee_0 rfl (lv_at hl 0 rfl) ?_
  obtain ⟨o_65, hr_65, h⟩ := ob h
  refine vp_callSi (va_Run.run (va_runS (As := [.double x0]) (rest := []) ⟨hx, hb, hml, hown, hts⟩ (c_Jxe99ae_isNaN_b9ae7 l dC dI cB cC cI cJ cZ cT x0 o_65 hr_65) (va_cwS 1 hts gJxe99ae_doubleToLongBits_ccdee_Jxe99ae_isNaN_b9ae7 rfl rfl rfl (by decide +kernel) ⟨Nat.le_of_ble_eq_true rfl, Nat.le_of_ble_eq_true rfl⟩) ⟨blT, fun U hU hW => ⟨rfl, trivial⟩⟩ rfl rfl hl.1 rfl (lv_room (Nat.le_of_ble_eq_true rfl)) dJxe99ae_doubleToLongBits_ccdee_1 ⟨Nat.le_of_ble_eq_true rfl, Nat.le_of_ble_eq_true rfl⟩)) (fun r_65 e_65 => ?_)
  subst e_65
  refine lv_if_ne (tgt := 12) hx hb dJxe99ae_doubleToLongBits_ccdee_4 (by decide) (fun c_67 => ?_) (fun c_67 => ?_)
  · replace h := on c_67 h
    refine lv_ldc2 (v := 9221120237041090560) hx hb hown (hts _ (List.mem_of_getElem? (i := 5) rfl)) dJxe99ae_doubleToLongBits_ccdee_12 ?_
    rw [hQQ]
    exact W.lret hx hb hr (fun t ht hW => ⟨_, rfl, (Option.some.inj h).symm, ht⟩) (fun q hq => absurd hq List.not_mem_nil) dJxe99ae_doubleToLongBits_ccdee_15
  · replace h := op c_67 h
    refine lv_dload_n hx hb dJxe99ae_doubleToLongBits_ccdee_7 rfl (lv_at hl 0 rfl) ?_
    refine vn_d2l hx hb (hml.trans hl.1.symm) hown (hts _ (List.mem_of_getElem? (i := 1) rfl)) (hts _ (List.mem_of_getElem? (i := 2) rfl)) (hts _ (List.mem_of_getElem? (i := 3) rfl)) (hts _ (List.mem_of_getElem? (i := 4) rfl)) (Nat.le_of_ble_eq_true rfl) (Nat.le_of_ble_eq_true rfl) dJxe99ae_doubleToLongBits_ccdee_8 ?_
    rw [hQQ]
    exact W.lret hx hb hr (fun t ht hW => ⟨_, rfl, (Option.some.inj h).symm, ht⟩) (fun q hq => absurd hq List.not_mem_nil) dJxe99ae_doubleToLongBits_ccdee_11
