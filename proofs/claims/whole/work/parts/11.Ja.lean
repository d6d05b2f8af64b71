def f_J6_numberOfLeadingZeros_0f7a4 (x0 : Int32) : Option Int32 :=
  (if 0 < x0 then (((if x0 < (65536 : Int32) then (some (x0, (31 : Int32))) else (some ((ius x0 (16 : Int32)), (15 : Int32))))).bind (fun v_2 => (((if v_2.1 < (256 : Int32) then (some (v_2.1, v_2.2)) else (some ((ius v_2.1 (8 : Int32)), (v_2.2 + (-8)))))).bind (fun v_5 => (if v_5.1 < (16 : Int32) then (if v_5.1 < (4 : Int32) then (some (v_5.2 - (ius v_5.1 (1 : Int32)))) else (some ((v_5.2 + (-2)) - (ius (ius v_5.1 (2 : Int32)) (1 : Int32))))) else (if (ius v_5.1 (4 : Int32)) < (4 : Int32) then (some ((v_5.2 + (-4)) - (ius (ius v_5.1 (4 : Int32)) (1 : Int32)))) else (some (((v_5.2 + (-4)) + (-2)) - (ius (ius (ius v_5.1 (4 : Int32)) (2 : Int32)) (1 : Int32)))))))))) else (if x0 = 0 then (some (32 : Int32)) else (some (0 : Int32))))
abbrev rm_J6_numberOfLeadingZeros_0f7a4 : Room := { frames := 0, cells := 0, slots := 0, locals := 0 }
set_option maxHeartbeats 4000000 in
set_option maxRecDepth 100000 in
theorem c_J6_numberOfLeadingZeros_0f7a4 (l : Launch) (dC : Nat → ClassId) (dI : Nat → Nat → Nat) (cB cC cI cJ cZ cT : ClassId) (x0 : Int32) (o : Int32) (hf : f_J6_numberOfLeadingZeros_0f7a4 x0 = some o) : Met l yJ6_numberOfLeadingZeros_0f7a4 wsJ6_numberOfLeadingZeros_0f7a4 rm_J6_numberOfLeadingZeros_0f7a4 (va_Pc [.int x0] (fun _ => True)) (vp_Si (fun r => o = r)) 0 0 (fun _ => False) := by
  refine Met.ofW (cc := cJ6_numberOfLeadingZeros_0f7a4) (maxL := 2) (ret := (some .int)) (by decide) rfl ?_
  intro p e s m args below meth c s₁ B hml hv
  obtain ⟨hav, -⟩ := hv
  have hx := B.exec
  have hb := B.bytes
  have hr := B.returns
  have hts := atoms_spec (ws := wsJ6_numberOfLeadingZeros_0f7a4) B.pre
  have hown : s.vm.findClass RJ6 = some m.cls := findClass_of_methodNamed B.named
  have hlocks := B.notSynchronized
  refine wstart (rm := rm_J6_numberOfLeadingZeros_0f7a4) hav (Nat.le_of_ble_eq_true rfl) (fun QQ ls hQQ hl => ?_)
  have hl : lv_has ls 2 [(0, .int x0)] := hl
  have h := hf
  unfold f_J6_numberOfLeadingZeros_0f7a4 at h
  refine lv_iload_n hx hb dJ6_numberOfLeadingZeros_0f7a4_0 rfl (lv_at hl 0 rfl) ?_
  refine lv_if_gt (tgt := 15) hx hb dJ6_numberOfLeadingZeros_0f7a4_1 (by decide) (fun c_1 => ?_) (fun c_1 => ?_)
  · replace h := op c_1 h
    refine lv_bipush (v := 31) hx hb dJ6_numberOfLeadingZeros_0f7a4_15 (by decide) ?_
    refine lv_istore_n (lv' := [(1, .int (31 : Int32)), (0, .int x0)]) hx hb dJ6_numberOfLeadingZeros_0f7a4_17 rfl hl (by decide) rfl (fun ls hl => ?_)
    refine lv_iload_n hx hb dJ6_numberOfLeadingZeros_0f7a4_18 rfl (lv_at hl 1 rfl) ?_
    refine lv_ldcw (v := 65536) hx hb hown (hts _ (List.mem_of_getElem? (i := 1) rfl)) dJ6_numberOfLeadingZeros_0f7a4_19 ?_
    obtain ⟨v_2, hv_2, h⟩ := ob h
    have J_2 : ∀ (ls : Array Slot), lv_has ls 2 [(0, .int v_2.1), (1, .int v_2.2)] → W p l e rm_J6_numberOfLeadingZeros_0f7a4 s m args below meth c s.heap [] 0 0 QQ (F0 m 33 ls []) := by
      intro ls hl
      refine lv_iload_n hx hb dJ6_numberOfLeadingZeros_0f7a4_33 rfl (lv_at hl 0 rfl) ?_
      refine lv_sipush (v := 256) hx hb dJ6_numberOfLeadingZeros_0f7a4_34 (by decide) ?_
      obtain ⟨v_5, hv_5, h⟩ := ob h
      have J_5 : ∀ (ls : Array Slot), lv_has ls 2 [(0, .int v_5.1), (1, .int v_5.2)] → W p l e rm_J6_numberOfLeadingZeros_0f7a4 s m args below meth c s.heap [] 0 0 QQ (F0 m 48 ls []) := by
        intro ls hl
        refine lv_iload_n hx hb dJ6_numberOfLeadingZeros_0f7a4_48 rfl (lv_at hl 0 rfl) ?_
        refine lv_bipush (v := 16) hx hb dJ6_numberOfLeadingZeros_0f7a4_49 (by decide) ?_
        refine lv_icmp_lt (tgt := 61) hx hb dJ6_numberOfLeadingZeros_0f7a4_51 (by decide) (fun c_8 => ?_) (fun c_8 => ?_)
        · replace h := op c_8 h
          refine lv_iload_n hx hb dJ6_numberOfLeadingZeros_0f7a4_61 rfl (lv_at hl 0 rfl) ?_
          refine lv_iconst (v := 4) hx hb dJ6_numberOfLeadingZeros_0f7a4_62 (by decide) ?_
          refine lv_icmp_lt (tgt := 73) hx hb dJ6_numberOfLeadingZeros_0f7a4_63 (by decide) (fun c_9 => ?_) (fun c_9 => ?_)
          · replace h := op c_9 h
            refine lv_iload_n hx hb dJ6_numberOfLeadingZeros_0f7a4_73 rfl (lv_at hl 1 rfl) ?_
            refine lv_iload_n hx hb dJ6_numberOfLeadingZeros_0f7a4_74 rfl (lv_at hl 0 rfl) ?_
            refine lv_iconst (v := 1) hx hb dJ6_numberOfLeadingZeros_0f7a4_75 (by decide) ?_
            refine lv_iushr (v := (ius v_5.1 (1 : Int32))) hx hb dJ6_numberOfLeadingZeros_0f7a4_76 rfl ?_
            refine lv_isub hx hb dJ6_numberOfLeadingZeros_0f7a4_77 ?_
            rw [hQQ]
            exact W.iret hx hb hr (fun t ht hW => ⟨_, rfl, (Option.some.inj h).symm, ht⟩) (fun q hq => absurd hq List.not_mem_nil) dJ6_numberOfLeadingZeros_0f7a4_78
          · replace h := on c_9 h
            refine lv_iinc (v := (v_5.2 + (-2))) (lv' := [(1, .int (v_5.2 + (-2))), (0, .int v_5.1)]) hx hb dJ6_numberOfLeadingZeros_0f7a4_66 hl (k := 1) rfl (by rfl) (by decide) rfl (fun ls hl => ?_)
            refine lv_iload_n hx hb dJ6_numberOfLeadingZeros_0f7a4_69 rfl (lv_at hl 1 rfl) ?_
            refine lv_iconst (v := 2) hx hb dJ6_numberOfLeadingZeros_0f7a4_70 (by decide) ?_
            refine lv_iushr (v := (ius v_5.1 (2 : Int32))) hx hb dJ6_numberOfLeadingZeros_0f7a4_71 rfl ?_
            refine lv_istore_n (lv' := [(0, .int (ius v_5.1 (2 : Int32))), (1, .int (v_5.2 + (-2)))]) hx hb dJ6_numberOfLeadingZeros_0f7a4_72 rfl hl (by decide) rfl (fun ls hl => ?_)
            refine lv_iload_n hx hb dJ6_numberOfLeadingZeros_0f7a4_73 rfl (lv_at hl 1 rfl) ?_
            refine lv_iload_n hx hb dJ6_numberOfLeadingZeros_0f7a4_74 rfl (lv_at hl 0 rfl) ?_
            refine lv_iconst (v := 1) hx hb dJ6_numberOfLeadingZeros_0f7a4_75 (by decide) ?_
            refine lv_iushr (v := (ius (ius v_5.1 (2 : Int32)) (1 : Int32))) hx hb dJ6_numberOfLeadingZeros_0f7a4_76 rfl ?_
            refine lv_isub hx hb dJ6_numberOfLeadingZeros_0f7a4_77 ?_
            rw [hQQ]
            exact W.iret hx hb hr (fun t ht hW => ⟨_, rfl, (Option.some.inj h).symm, ht⟩) (fun q hq => absurd hq List.not_mem_nil) dJ6_numberOfLeadingZeros_0f7a4_78
        · replace h := on c_8 h
          refine lv_iinc (v := (v_5.2 + (-4))) (lv' := [(1, .int (v_5.2 + (-4))), (0, .int v_5.1)]) hx hb dJ6_numberOfLeadingZeros_0f7a4_54 hl (k := 1) rfl (by rfl) (by decide) rfl (fun ls hl => ?_)
          refine lv_iload_n hx hb dJ6_numberOfLeadingZeros_0f7a4_57 rfl (lv_at hl 1 rfl) ?_
          refine lv_iconst (v := 4) hx hb dJ6_numberOfLeadingZeros_0f7a4_58 (by decide) ?_
          refine lv_iushr (v := (ius v_5.1 (4 : Int32))) hx hb dJ6_numberOfLeadingZeros_0f7a4_59 rfl ?_
          refine lv_istore_n (lv' := [(0, .int (ius v_5.1 (4 : Int32))), (1, .int (v_5.2 + (-4)))]) hx hb dJ6_numberOfLeadingZeros_0f7a4_60 rfl hl (by decide) rfl (fun ls hl => ?_)
          refine lv_iload_n hx hb dJ6_numberOfLeadingZeros_0f7a4_61 rfl (lv_at hl 0 rfl) ?_
          refine lv_iconst (v := 4) hx hb dJ6_numberOfLeadingZeros_0f7a4_62 (by decide) ?_
          refine lv_icmp_lt (tgt := 73) hx hb dJ6_numberOfLeadingZeros_0f7a4_63 (by decide) (fun c_10 => ?_) (fun c_10 => ?_)
          · replace h := op c_10 h
            refine lv_iload_n hx hb dJ6_numberOfLeadingZeros_0f7a4_73 rfl (lv_at hl 1 rfl) ?_
            refine lv_iload_n hx hb dJ6_numberOfLeadingZeros_0f7a4_74 rfl (lv_at hl 0 rfl) ?_
            refine lv_iconst (v := 1) hx hb dJ6_numberOfLeadingZeros_0f7a4_75 (by decide) ?_
            refine lv_iushr (v := (ius (ius v_5.1 (4 : Int32)) (1 : Int32))) hx hb dJ6_numberOfLeadingZeros_0f7a4_76 rfl ?_
            refine lv_isub hx hb dJ6_numberOfLeadingZeros_0f7a4_77 ?_
            rw [hQQ]
            exact W.iret hx hb hr (fun t ht hW => ⟨_, rfl, (Option.some.inj h).symm, ht⟩) (fun q hq => absurd hq List.not_mem_nil) dJ6_numberOfLeadingZeros_0f7a4_78
          · replace h := on c_10 h
            refine lv_iinc (v := ((v_5.2 + (-4)) + (-2))) (lv' := [(1, .int ((v_5.2 + (-4)) + (-2))), (0, .int (ius v_5.1 (4 : Int32)))]) hx hb dJ6_numberOfLeadingZeros_0f7a4_66 hl (k := 1) rfl (by rfl) (by decide) rfl (fun ls hl => ?_)
            refine lv_iload_n hx hb dJ6_numberOfLeadingZeros_0f7a4_69 rfl (lv_at hl 1 rfl) ?_
            refine lv_iconst (v := 2) hx hb dJ6_numberOfLeadingZeros_0f7a4_70 (by decide) ?_
            refine lv_iushr (v := (ius (ius v_5.1 (4 : Int32)) (2 : Int32))) hx hb dJ6_numberOfLeadingZeros_0f7a4_71 rfl ?_
            refine lv_istore_n (lv' := [(0, .int (ius (ius v_5.1 (4 : Int32)) (2 : Int32))), (1, .int ((v_5.2 + (-4)) + (-2)))]) hx hb dJ6_numberOfLeadingZeros_0f7a4_72 rfl hl (by decide) rfl (fun ls hl => ?_)
            refine lv_iload_n hx hb dJ6_numberOfLeadingZeros_0f7a4_73 rfl (lv_at hl 1 rfl) ?_
            refine lv_iload_n hx hb dJ6_numberOfLeadingZeros_0f7a4_74 rfl (lv_at hl 0 rfl) ?_
            refine lv_iconst (v := 1) hx hb dJ6_numberOfLeadingZeros_0f7a4_75 (by decide) ?_
            refine lv_iushr (v := (ius (ius (ius v_5.1 (4 : Int32)) (2 : Int32)) (1 : Int32))) hx hb dJ6_numberOfLeadingZeros_0f7a4_76 rfl ?_
            refine lv_isub hx hb dJ6_numberOfLeadingZeros_0f7a4_77 ?_
            rw [hQQ]
            exact W.iret hx hb hr (fun t ht hW => ⟨_, rfl, (Option.some.inj h).symm, ht⟩) (fun q hq => absurd hq List.not_mem_nil) dJ6_numberOfLeadingZeros_0f7a4_78
      replace h := hv_5
      refine lv_icmp_lt (tgt := 48) hx hb dJ6_numberOfLeadingZeros_0f7a4_37 (by decide) (fun c_7 => ?_) (fun c_7 => ?_)
      · replace h := op c_7 h
        have ho := Option.some.inj h
        subst ho
        exact J_5 ls (lv_sub hl [0, 1] rfl)
      · replace h := on c_7 h
        refine lv_iinc (v := (v_2.2 + (-8))) (lv' := [(1, .int (v_2.2 + (-8))), (0, .int v_2.1)]) hx hb dJ6_numberOfLeadingZeros_0f7a4_40 hl (k := 1) rfl (by rfl) (by decide) rfl (fun ls hl => ?_)
        refine lv_iload_n hx hb dJ6_numberOfLeadingZeros_0f7a4_43 rfl (lv_at hl 1 rfl) ?_
        refine lv_bipush (v := 8) hx hb dJ6_numberOfLeadingZeros_0f7a4_44 (by decide) ?_
        refine lv_iushr (v := (ius v_2.1 (8 : Int32))) hx hb dJ6_numberOfLeadingZeros_0f7a4_46 rfl ?_
        refine lv_istore_n (lv' := [(0, .int (ius v_2.1 (8 : Int32))), (1, .int (v_2.2 + (-8)))]) hx hb dJ6_numberOfLeadingZeros_0f7a4_47 rfl hl (by decide) rfl (fun ls hl => ?_)
        have ho := Option.some.inj h
        subst ho
        exact J_5 ls (lv_sub hl [0, 1] rfl)
    replace h := hv_2
    refine lv_icmp_lt (tgt := 33) hx hb dJ6_numberOfLeadingZeros_0f7a4_22 (by decide) (fun c_4 => ?_) (fun c_4 => ?_)
    · replace h := op c_4 h
      have ho := Option.some.inj h
      subst ho
      exact J_2 ls (lv_sub hl [1, 0] rfl)
    · replace h := on c_4 h
      refine lv_iinc (v := (15 : Int32)) (lv' := [(1, .int (15 : Int32)), (0, .int x0)]) hx hb dJ6_numberOfLeadingZeros_0f7a4_25 hl (k := 0) rfl (by rfl) (by decide) rfl (fun ls hl => ?_)
      refine lv_iload_n hx hb dJ6_numberOfLeadingZeros_0f7a4_28 rfl (lv_at hl 1 rfl) ?_
      refine lv_bipush (v := 16) hx hb dJ6_numberOfLeadingZeros_0f7a4_29 (by decide) ?_
      refine lv_iushr (v := (ius x0 (16 : Int32))) hx hb dJ6_numberOfLeadingZeros_0f7a4_31 rfl ?_
      refine lv_istore_n (lv' := [(0, .int (ius x0 (16 : Int32))), (1, .int (15 : Int32))]) hx hb dJ6_numberOfLeadingZeros_0f7a4_32 rfl hl (by decide) rfl (fun ls hl => ?_)
      have ho := Option.some.inj h
      subst ho
      exact J_2 ls (lv_sub hl [0, 1] rfl)
  · replace h := on c_1 h
    refine lv_iload_n hx hb dJ6_numberOfLeadingZeros_0f7a4_4 rfl (lv_at hl 0 rfl) ?_
    refine lv_if_ne (tgt := 13) hx hb dJ6_numberOfLeadingZeros_0f7a4_5 (by decide) (fun c_11 => ?_) (fun c_11 => ?_)
    · replace h := on c_11 h
      refine lv_iconst (v := 0) hx hb dJ6_numberOfLeadingZeros_0f7a4_13 (by decide) ?_
      rw [hQQ]
      exact W.iret hx hb hr (fun t ht hW => ⟨_, rfl, (Option.some.inj h).symm, ht⟩) (fun q hq => absurd hq List.not_mem_nil) dJ6_numberOfLeadingZeros_0f7a4_14
    · replace h := op c_11 h
      refine lv_bipush (v := 32) hx hb dJ6_numberOfLeadingZeros_0f7a4_8 (by decide) ?_
      refine lv_goto (tgt := 14) hx hb dJ6_numberOfLeadingZeros_0f7a4_10 (by decide) ?_
      rw [hQQ]
      exact W.iret hx hb hr (fun t ht hW => ⟨_, rfl, (Option.some.inj h).symm, ht⟩) (fun q hq => absurd hq List.not_mem_nil) dJ6_numberOfLeadingZeros_0f7a4_14
def f_J13_numberOfLeadingZeros_95d88 (x0 : Int64) : Option Int32 :=
  (if ((lus x0 (32 : Int32))).toInt32 = 0 then ((f_J6_numberOfLeadingZeros_0f7a4 (x0).toInt32).bind (fun o_15 => (some ((32 : Int32) + o_15)))) else ((f_J6_numberOfLeadingZeros_0f7a4 ((lus x0 (32 : Int32))).toInt32).bind (fun o_13 => (some o_13))))
abbrev rm_J13_numberOfLeadingZeros_95d88 : Room := { frames := 1, cells := 0, slots := 0, locals := 21 }
set_option maxHeartbeats 4000000 in
set_option maxRecDepth 100000 in
theorem c_J13_numberOfLeadingZeros_95d88 (l : Launch) (dC : Nat → ClassId) (dI : Nat → Nat → Nat) (cB cC cI cJ cZ cT : ClassId) (x0 : Int64) (o : Int32) (hf : f_J13_numberOfLeadingZeros_95d88 x0 = some o) : Met l yJ13_numberOfLeadingZeros_95d88 wsJ13_numberOfLeadingZeros_95d88 rm_J13_numberOfLeadingZeros_95d88 (va_Pc [.long x0] (fun _ => True)) (vp_Si (fun r => o = r)) 0 0 (fun _ => False) := by
  refine Met.ofW (cc := cJ13_numberOfLeadingZeros_95d88) (maxL := 3) (ret := (some .int)) (by decide) rfl ?_
  intro p e s m args below meth c s₁ B hml hv
  obtain ⟨hav, -⟩ := hv
  have hx := B.exec
  have hb := B.bytes
  have hr := B.returns
  have hts := atoms_spec (ws := wsJ13_numberOfLeadingZeros_95d88) B.pre
  have hown : s.vm.findClass RJ13 = some m.cls := findClass_of_methodNamed B.named
  have hlocks := B.notSynchronized
  refine wstart (rm := rm_J13_numberOfLeadingZeros_95d88) hav (Nat.le_of_ble_eq_true rfl) (fun QQ ls hQQ hl => ?_)
  have hl : lv_has ls 3 [(0, .long x0)] := hl
  have h := hf
  unfold f_J13_numberOfLeadingZeros_95d88 at h
  refine lv_lload_n hx hb dJ13_numberOfLeadingZeros_95d88_0 rfl (lv_at hl 0 rfl) ?_
  refine lv_bipush (v := 32) hx hb dJ13_numberOfLeadingZeros_95d88_1 (by decide) ?_
  refine lv_lushr (v := (lus x0 (32 : Int32))) hx hb dJ13_numberOfLeadingZeros_95d88_3 rfl ?_
  refine lv_l2i (v := ((lus x0 (32 : Int32))).toInt32) hx hb dJ13_numberOfLeadingZeros_95d88_4 rfl ?_
  refine lv_istore_n (lv' := [(2, .int ((lus x0 (32 : Int32))).toInt32), (0, .long x0)]) hx hb dJ13_numberOfLeadingZeros_95d88_5 rfl hl (by decide) rfl (fun ls hl => ?_)
  refine lv_iload_n hx hb dJ13_numberOfLeadingZeros_95d88_6 rfl (lv_at hl 0 rfl) ?_
  refine lv_if_ne (tgt := 21) hx hb dJ13_numberOfLeadingZeros_95d88_7 (by decide) (fun c_12 => ?_) (fun c_12 => ?_)
  · replace h := on c_12 h
    refine lv_iload_n hx hb dJ13_numberOfLeadingZeros_95d88_21 rfl (lv_at hl 0 rfl) ?_
    obtain ⟨o_13, hr_13, h⟩ := ob h
    refine vp_callSi (va_Run.run (va_runS (As := [.int ((lus x0 (32 : Int32))).toInt32]) (rest := []) ⟨hx, hb, hml, hown, hts⟩ (c_J6_numberOfLeadingZeros_0f7a4 l dC dI cB cC cI cJ cZ cT ((lus x0 (32 : Int32))).toInt32 o_13 hr_13) (va_cwS 1 hts gJ13_numberOfLeadingZeros_95d88_J6_numberOfLeadingZeros_0f7a4 rfl rfl rfl (by decide +kernel) ⟨Nat.le_of_ble_eq_true rfl, Nat.le_of_ble_eq_true rfl⟩) ⟨blT, fun U hU hW => ⟨rfl, trivial⟩⟩ rfl rfl hl.1 rfl (lv_room (Nat.le_of_ble_eq_true rfl)) dJ13_numberOfLeadingZeros_95d88_22 ⟨Nat.le_of_ble_eq_true rfl, Nat.le_of_ble_eq_true rfl⟩)) (fun r_13 e_13 => ?_)
    subst e_13
    rw [hQQ]
    exact W.iret hx hb hr (fun t ht hW => ⟨_, rfl, (Option.some.inj h).symm, ht⟩) (fun q hq => absurd hq List.not_mem_nil) dJ13_numberOfLeadingZeros_95d88_25
  · replace h := op c_12 h
    refine lv_bipush (v := 32) hx hb dJ13_numberOfLeadingZeros_95d88_10 (by decide) ?_
    refine lv_lload_n hx hb dJ13_numberOfLeadingZeros_95d88_12 rfl (lv_at hl 1 rfl) ?_
    refine lv_l2i (v := (x0).toInt32) hx hb dJ13_numberOfLeadingZeros_95d88_13 rfl ?_
    obtain ⟨o_15, hr_15, h⟩ := ob h
    refine vp_callSi (va_Run.run (va_runS (As := [.int (x0).toInt32]) (rest := [.int (32 : Int32)]) ⟨hx, hb, hml, hown, hts⟩ (c_J6_numberOfLeadingZeros_0f7a4 l dC dI cB cC cI cJ cZ cT (x0).toInt32 o_15 hr_15) (va_cwS 1 hts gJ13_numberOfLeadingZeros_95d88_J6_numberOfLeadingZeros_0f7a4 rfl rfl rfl (by decide +kernel) ⟨Nat.le_of_ble_eq_true rfl, Nat.le_of_ble_eq_true rfl⟩) ⟨blT, fun U hU hW => ⟨rfl, trivial⟩⟩ rfl rfl hl.1 rfl (lv_room (Nat.le_of_ble_eq_true rfl)) dJ13_numberOfLeadingZeros_95d88_14 ⟨Nat.le_of_ble_eq_true rfl, Nat.le_of_ble_eq_true rfl⟩)) (fun r_15 e_15 => ?_)
    subst e_15
    refine lv_iadd hx hb dJ13_numberOfLeadingZeros_95d88_17 ?_
    refine lv_goto (tgt := 25) hx hb dJ13_numberOfLeadingZeros_95d88_18 (by decide) ?_
    rw [hQQ]
    exact W.iret hx hb hr (fun t ht hW => ⟨_, rfl, (Option.some.inj h).symm, ht⟩) (fun q hq => absurd hq List.not_mem_nil) dJ13_numberOfLeadingZeros_95d88_25
def f_J6_bitCount_0f7a4 (x0 : Int32) : Option Int32 :=
  (some ((((((((x0 - ((ius x0 (1 : Int32)) &&& (1431655765 : Int32))) &&& (858993459 : Int32)) + ((ius (x0 - ((ius x0 (1 : Int32)) &&& (1431655765 : Int32))) (2 : Int32)) &&& (858993459 : Int32))) + (ius (((x0 - ((ius x0 (1 : Int32)) &&& (1431655765 : Int32))) &&& (858993459 : Int32)) + ((ius (x0 - ((ius x0 (1 : Int32)) &&& (1431655765 : Int32))) (2 : Int32)) &&& (858993459 : Int32))) (4 : Int32))) &&& (252645135 : Int32)) + (ius (((((x0 - ((ius x0 (1 : Int32)) &&& (1431655765 : Int32))) &&& (858993459 : Int32)) + ((ius (x0 - ((ius x0 (1 : Int32)) &&& (1431655765 : Int32))) (2 : Int32)) &&& (858993459 : Int32))) + (ius (((x0 - ((ius x0 (1 : Int32)) &&& (1431655765 : Int32))) &&& (858993459 : Int32)) + ((ius (x0 - ((ius x0 (1 : Int32)) &&& (1431655765 : Int32))) (2 : Int32)) &&& (858993459 : Int32))) (4 : Int32))) &&& (252645135 : Int32)) (8 : Int32))) + (ius ((((((x0 - ((ius x0 (1 : Int32)) &&& (1431655765 : Int32))) &&& (858993459 : Int32)) + ((ius (x0 - ((ius x0 (1 : Int32)) &&& (1431655765 : Int32))) (2 : Int32)) &&& (858993459 : Int32))) + (ius (((x0 - ((ius x0 (1 : Int32)) &&& (1431655765 : Int32))) &&& (858993459 : Int32)) + ((ius (x0 - ((ius x0 (1 : Int32)) &&& (1431655765 : Int32))) (2 : Int32)) &&& (858993459 : Int32))) (4 : Int32))) &&& (252645135 : Int32)) + (ius (((((x0 - ((ius x0 (1 : Int32)) &&& (1431655765 : Int32))) &&& (858993459 : Int32)) + ((ius (x0 - ((ius x0 (1 : Int32)) &&& (1431655765 : Int32))) (2 : Int32)) &&& (858993459 : Int32))) + (ius (((x0 - ((ius x0 (1 : Int32)) &&& (1431655765 : Int32))) &&& (858993459 : Int32)) + ((ius (x0 - ((ius x0 (1 : Int32)) &&& (1431655765 : Int32))) (2 : Int32)) &&& (858993459 : Int32))) (4 : Int32))) &&& (252645135 : Int32)) (8 : Int32))) (16 : Int32))) &&& (63 : Int32)))
abbrev rm_J6_bitCount_0f7a4 : Room := { frames := 0, cells := 0, slots := 0, locals := 0 }
set_option maxHeartbeats 4000000 in
set_option maxRecDepth 100000 in
theorem c_J6_bitCount_0f7a4 (l : Launch) (dC : Nat → ClassId) (dI : Nat → Nat → Nat) (cB cC cI cJ cZ cT : ClassId) (x0 : Int32) (o : Int32) (hf : f_J6_bitCount_0f7a4 x0 = some o) : Met l yJ6_bitCount_0f7a4 wsJ6_bitCount_0f7a4 rm_J6_bitCount_0f7a4 (va_Pc [.int x0] (fun _ => True)) (vp_Si (fun r => o = r)) 0 0 (fun _ => False) := by
  refine Met.ofW (cc := cJ6_bitCount_0f7a4) (maxL := 1) (ret := (some .int)) (by decide) rfl ?_
  intro p e s m args below meth c s₁ B hml hv
  obtain ⟨hav, -⟩ := hv
  have hx := B.exec
  have hb := B.bytes
  have hr := B.returns
  have hts := atoms_spec (ws := wsJ6_bitCount_0f7a4) B.pre
  have hown : s.vm.findClass RJ6 = some m.cls := findClass_of_methodNamed B.named
  have hlocks := B.notSynchronized
  refine wstart (rm := rm_J6_bitCount_0f7a4) hav (Nat.le_of_ble_eq_true rfl) (fun QQ ls hQQ hl => ?_)
  have hl : lv_has ls 1 [(0, .int x0)] := hl
  have h := hf
  unfold f_J6_bitCount_0f7a4 at h
  refine lv_iload_n hx hb dJ6_bitCount_0f7a4_0 rfl (lv_at hl 0 rfl) ?_
  refine lv_iload_n hx hb dJ6_bitCount_0f7a4_1 rfl (lv_at hl 0 rfl) ?_
  refine lv_iconst (v := 1) hx hb dJ6_bitCount_0f7a4_2 (by decide) ?_
  refine lv_iushr (v := (ius x0 (1 : Int32))) hx hb dJ6_bitCount_0f7a4_3 rfl ?_
  refine lv_ldcw (v := 1431655765) hx hb hown (hts _ (List.mem_of_getElem? (i := 1) rfl)) dJ6_bitCount_0f7a4_4 ?_
  refine lv_iand hx hb dJ6_bitCount_0f7a4_7 ?_
  refine lv_isub hx hb dJ6_bitCount_0f7a4_8 ?_
  refine lv_istore_n (lv' := [(0, .int (x0 - ((ius x0 (1 : Int32)) &&& (1431655765 : Int32))))]) hx hb dJ6_bitCount_0f7a4_9 rfl hl (by decide) rfl (fun ls hl => ?_)
  refine lv_iload_n hx hb dJ6_bitCount_0f7a4_10 rfl (lv_at hl 0 rfl) ?_
  refine lv_ldcw (v := 858993459) hx hb hown (hts _ (List.mem_of_getElem? (i := 2) rfl)) dJ6_bitCount_0f7a4_11 ?_
  refine lv_iand hx hb dJ6_bitCount_0f7a4_14 ?_
  refine lv_iload_n hx hb dJ6_bitCount_0f7a4_15 rfl (lv_at hl 0 rfl) ?_
  refine lv_iconst (v := 2) hx hb dJ6_bitCount_0f7a4_16 (by decide) ?_
  refine lv_iushr (v := (ius (x0 - ((ius x0 (1 : Int32)) &&& (1431655765 : Int32))) (2 : Int32))) hx hb dJ6_bitCount_0f7a4_17 rfl ?_
  refine lv_ldcw (v := 858993459) hx hb hown (hts _ (List.mem_of_getElem? (i := 2) rfl)) dJ6_bitCount_0f7a4_18 ?_
  refine lv_iand hx hb dJ6_bitCount_0f7a4_21 ?_
  refine lv_iadd hx hb dJ6_bitCount_0f7a4_22 ?_
  refine lv_istore_n (lv' := [(0, .int (((x0 - ((ius x0 (1 : Int32)) &&& (1431655765 : Int32))) &&& (858993459 : Int32)) + ((ius (x0 - ((ius x0 (1 : Int32)) &&& (1431655765 : Int32))) (2 : Int32)) &&& (858993459 : Int32))))]) hx hb dJ6_bitCount_0f7a4_23 rfl hl (by decide) rfl (fun ls hl => ?_)
  refine lv_iload_n hx hb dJ6_bitCount_0f7a4_24 rfl (lv_at hl 0 rfl) ?_
  refine lv_iload_n hx hb dJ6_bitCount_0f7a4_25 rfl (lv_at hl 0 rfl) ?_
  refine lv_iconst (v := 4) hx hb dJ6_bitCount_0f7a4_26 (by decide) ?_
  refine lv_iushr (v := (ius (((x0 - ((ius x0 (1 : Int32)) &&& (1431655765 : Int32))) &&& (858993459 : Int32)) + ((ius (x0 - ((ius x0 (1 : Int32)) &&& (1431655765 : Int32))) (2 : Int32)) &&& (858993459 : Int32))) (4 : Int32))) hx hb dJ6_bitCount_0f7a4_27 rfl ?_
  refine lv_iadd hx hb dJ6_bitCount_0f7a4_28 ?_
  refine lv_ldcw (v := 252645135) hx hb hown (hts _ (List.mem_of_getElem? (i := 3) rfl)) dJ6_bitCount_0f7a4_29 ?_
  refine lv_iand hx hb dJ6_bitCount_0f7a4_32 ?_
  refine lv_istore_n (lv' := [(0, .int (((((x0 - ((ius x0 (1 : Int32)) &&& (1431655765 : Int32))) &&& (858993459 : Int32)) + ((ius (x0 - ((ius x0 (1 : Int32)) &&& (1431655765 : Int32))) (2 : Int32)) &&& (858993459 : Int32))) + (ius (((x0 - ((ius x0 (1 : Int32)) &&& (1431655765 : Int32))) &&& (858993459 : Int32)) + ((ius (x0 - ((ius x0 (1 : Int32)) &&& (1431655765 : Int32))) (2 : Int32)) &&& (858993459 : Int32))) (4 : Int32))) &&& (252645135 : Int32)))]) hx hb dJ6_bitCount_0f7a4_33 rfl hl (by decide) rfl (fun ls hl => ?_)
  refine lv_iload_n hx hb dJ6_bitCount_0f7a4_34 rfl (lv_at hl 0 rfl) ?_
  refine lv_iload_n hx hb dJ6_bitCount_0f7a4_35 rfl (lv_at hl 0 rfl) ?_
  refine lv_bipush (v := 8) hx hb dJ6_bitCount_0f7a4_36 (by decide) ?_
  refine lv_iushr (v := (ius (((((x0 - ((ius x0 (1 : Int32)) &&& (1431655765 : Int32))) &&& (858993459 : Int32)) + ((ius (x0 - ((ius x0 (1 : Int32)) &&& (1431655765 : Int32))) (2 : Int32)) &&& (858993459 : Int32))) + (ius (((x0 - ((ius x0 (1 : Int32)) &&& (1431655765 : Int32))) &&& (858993459 : Int32)) + ((ius (x0 - ((ius x0 (1 : Int32)) &&& (1431655765 : Int32))) (2 : Int32)) &&& (858993459 : Int32))) (4 : Int32))) &&& (252645135 : Int32)) (8 : Int32))) hx hb dJ6_bitCount_0f7a4_38 rfl ?_
  refine lv_iadd hx hb dJ6_bitCount_0f7a4_39 ?_
  refine lv_istore_n (lv' := [(0, .int ((((((x0 - ((ius x0 (1 : Int32)) &&& (1431655765 : Int32))) &&& (858993459 : Int32)) + ((ius (x0 - ((ius x0 (1 : Int32)) &&& (1431655765 : Int32))) (2 : Int32)) &&& (858993459 : Int32))) + (ius (((x0 - ((ius x0 (1 : Int32)) &&& (1431655765 : Int32))) &&& (858993459 : Int32)) + ((ius (x0 - ((ius x0 (1 : Int32)) &&& (1431655765 : Int32))) (2 : Int32)) &&& (858993459 : Int32))) (4 : Int32))) &&& (252645135 : Int32)) + (ius (((((x0 - ((ius x0 (1 : Int32)) &&& (1431655765 : Int32))) &&& (858993459 : Int32)) + ((ius (x0 - ((ius x0 (1 : Int32)) &&& (1431655765 : Int32))) (2 : Int32)) &&& (858993459 : Int32))) + (ius (((x0 - ((ius x0 (1 : Int32)) &&& (1431655765 : Int32))) &&& (858993459 : Int32)) + ((ius (x0 - ((ius x0 (1 : Int32)) &&& (1431655765 : Int32))) (2 : Int32)) &&& (858993459 : Int32))) (4 : Int32))) &&& (252645135 : Int32)) (8 : Int32))))]) hx hb dJ6_bitCount_0f7a4_40 rfl hl (by decide) rfl (fun ls hl => ?_)
  refine lv_iload_n hx hb dJ6_bitCount_0f7a4_41 rfl (lv_at hl 0 rfl) ?_
  refine lv_iload_n hx hb dJ6_bitCount_0f7a4_42 rfl (lv_at hl 0 rfl) ?_
  refine lv_bipush (v := 16) hx hb dJ6_bitCount_0f7a4_43 (by decide) ?_
  refine lv_iushr (v := (ius ((((((x0 - ((ius x0 (1 : Int32)) &&& (1431655765 : Int32))) &&& (858993459 : Int32)) + ((ius (x0 - ((ius x0 (1 : Int32)) &&& (1431655765 : Int32))) (2 : Int32)) &&& (858993459 : Int32))) + (ius (((x0 - ((ius x0 (1 : Int32)) &&& (1431655765 : Int32))) &&& (858993459 : Int32)) + ((ius (x0 - ((ius x0 (1 : Int32)) &&& (1431655765 : Int32))) (2 : Int32)) &&& (858993459 : Int32))) (4 : Int32))) &&& (252645135 : Int32)) + (ius (((((x0 - ((ius x0 (1 : Int32)) &&& (1431655765 : Int32))) &&& (858993459 : Int32)) + ((ius (x0 - ((ius x0 (1 : Int32)) &&& (1431655765 : Int32))) (2 : Int32)) &&& (858993459 : Int32))) + (ius (((x0 - ((ius x0 (1 : Int32)) &&& (1431655765 : Int32))) &&& (858993459 : Int32)) + ((ius (x0 - ((ius x0 (1 : Int32)) &&& (1431655765 : Int32))) (2 : Int32)) &&& (858993459 : Int32))) (4 : Int32))) &&& (252645135 : Int32)) (8 : Int32))) (16 : Int32))) hx hb dJ6_bitCount_0f7a4_45 rfl ?_
  refine lv_iadd hx hb dJ6_bitCount_0f7a4_46 ?_
  refine lv_istore_n (lv' := [(0, .int (((((((x0 - ((ius x0 (1 : Int32)) &&& (1431655765 : Int32))) &&& (858993459 : Int32)) + ((ius (x0 - ((ius x0 (1 : Int32)) &&& (1431655765 : Int32))) (2 : Int32)) &&& (858993459 : Int32))) + (ius (((x0 - ((ius x0 (1 : Int32)) &&& (1431655765 : Int32))) &&& (858993459 : Int32)) + ((ius (x0 - ((ius x0 (1 : Int32)) &&& (1431655765 : Int32))) (2 : Int32)) &&& (858993459 : Int32))) (4 : Int32))) &&& (252645135 : Int32)) + (ius (((((x0 - ((ius x0 (1 : Int32)) &&& (1431655765 : Int32))) &&& (858993459 : Int32)) + ((ius (x0 - ((ius x0 (1 : Int32)) &&& (1431655765 : Int32))) (2 : Int32)) &&& (858993459 : Int32))) + (ius (((x0 - ((ius x0 (1 : Int32)) &&& (1431655765 : Int32))) &&& (858993459 : Int32)) + ((ius (x0 - ((ius x0 (1 : Int32)) &&& (1431655765 : Int32))) (2 : Int32)) &&& (858993459 : Int32))) (4 : Int32))) &&& (252645135 : Int32)) (8 : Int32))) + (ius ((((((x0 - ((ius x0 (1 : Int32)) &&& (1431655765 : Int32))) &&& (858993459 : Int32)) + ((ius (x0 - ((ius x0 (1 : Int32)) &&& (1431655765 : Int32))) (2 : Int32)) &&& (858993459 : Int32))) + (ius (((x0 - ((ius x0 (1 : Int32)) &&& (1431655765 : Int32))) &&& (858993459 : Int32)) + ((ius (x0 - ((ius x0 (1 : Int32)) &&& (1431655765 : Int32))) (2 : Int32)) &&& (858993459 : Int32))) (4 : Int32))) &&& (252645135 : Int32)) + (ius (((((x0 - ((ius x0 (1 : Int32)) &&& (1431655765 : Int32))) &&& (858993459 : Int32)) + ((ius (x0 - ((ius x0 (1 : Int32)) &&& (1431655765 : Int32))) (2 : Int32)) &&& (858993459 : Int32))) + (ius (((x0 - ((ius x0 (1 : Int32)) &&& (1431655765 : Int32))) &&& (858993459 : Int32)) + ((ius (x0 - ((ius x0 (1 : Int32)) &&& (1431655765 : Int32))) (2 : Int32)) &&& (858993459 : Int32))) (4 : Int32))) &&& (252645135 : Int32)) (8 : Int32))) (16 : Int32))))]) hx hb dJ6_bitCount_0f7a4_47 rfl hl (by decide) rfl (fun ls hl => ?_)
  refine lv_iload_n hx hb dJ6_bitCount_0f7a4_48 rfl (lv_at hl 0 rfl) ?_
  refine lv_bipush (v := 63) hx hb dJ6_bitCount_0f7a4_49 (by decide) ?_
  refine lv_iand hx hb dJ6_bitCount_0f7a4_51 ?_
  rw [hQQ]
  exact W.iret hx hb hr (fun t ht hW => ⟨_, rfl, (Option.some.inj h).symm, ht⟩) (fun q hq => absurd hq List.not_mem_nil) dJ6_bitCount_0f7a4_52
def f_Jxf58ca_isNaN_12338 (x0 : UInt32) : Option Bool :=
  (if (Op.cmpValue (FP.fcmp x0 x0) .l) = 0 then (some false) else (some true))
abbrev rm_Jxf58ca_isNaN_12338 : Room := { frames := 0, cells := 0, slots := 0, locals := 0 }
set_option maxHeartbeats 4000000 in
set_option maxRecDepth 100000 in
theorem c_Jxf58ca_isNaN_12338 (l : Launch) (dC : Nat → ClassId) (dI : Nat → Nat → Nat) (cB cC cI cJ cZ cT : ClassId) (x0 : UInt32) (o : Bool) (hf : f_Jxf58ca_isNaN_12338 x0 = some o) : Met l yJxf58ca_isNaN_12338 wsJxf58ca_isNaN_12338 rm_Jxf58ca_isNaN_12338 (va_Pc [.float x0] (fun _ => True)) (vp_Si (fun r => b2i o = r)) 0 0 (fun _ => False) := by
  refine Met.ofW (cc := cJxf58ca_isNaN_12338) (maxL := 1) (ret := (some .boolean)) (by decide) rfl ?_
  intro p e s m args below meth c s₁ B hml hv
  obtain ⟨hav, -⟩ := hv
  have hx := B.exec
  have hb := B.bytes
  have hr := B.returns
  have hts := atoms_spec (ws := wsJxf58ca_isNaN_12338) B.pre
  have hown : s.vm.findClass RJxf58ca = some m.cls := findClass_of_methodNamed B.named
  have hlocks := B.notSynchronized
  refine wstart (rm := rm_Jxf58ca_isNaN_12338) hav (Nat.le_of_ble_eq_true rfl) (fun QQ ls hQQ hl => ?_)
  have hl : lv_has ls 1 [(0, .float x0)] := hl
  have h := hf
  unfold f_Jxf58ca_isNaN_12338 at h
  refine lv_fload_n hx hb dJxf58ca_isNaN_12338_0 rfl (lv_at hl 0 rfl) ?_
  refine lv_fload_n hx hb dJxf58ca_isNaN_12338_1 rfl (lv_at hl 0 rfl) ?_
  refine lv_fcmp hx hb dJxf58ca_isNaN_12338_2 ?_
  refine lv_if_eq (tgt := 10) hx hb dJxf58ca_isNaN_12338_3 (by decide) (fun c_17 => ?_) (fun c_17 => ?_)
  · replace h := op c_17 h
    refine lv_iconst (v := 0) hx hb dJxf58ca_isNaN_12338_10 (by decide) ?_
    rw [hQQ]
    exact W.zret hx hb hr rfl (fun t ht hW => ⟨_, rfl, (congrArg b2i (Option.some.inj h).symm), ht⟩) (fun q hq => absurd hq List.not_mem_nil) dJxf58ca_isNaN_12338_11
  · replace h := on c_17 h
    refine lv_iconst (v := 1) hx hb dJxf58ca_isNaN_12338_6 (by decide) ?_
    refine lv_goto (tgt := 11) hx hb dJxf58ca_isNaN_12338_7 (by decide) ?_
    rw [hQQ]
    exact W.zret hx hb hr rfl (fun t ht hW => ⟨_, rfl, (congrArg b2i (Option.some.inj h).symm), ht⟩) (fun q hq => absurd hq List.not_mem_nil) dJxf58ca_isNaN_12338_11
def f_Jxf58ca_floatToIntBits_5c35a (x0 : UInt32) : Option Int32 :=
  ((f_Jxf58ca_isNaN_12338 x0).bind (fun o_18 => (if (b2i o_18) = 0 then (some (x0).toInt32) else (some (2143289344 : Int32)))))
abbrev rm_Jxf58ca_floatToIntBits_5c35a : Room := { frames := 1, cells := 0, slots := 0, locals := 23 }
set_option maxHeartbeats 4000000 in
set_option maxRecDepth 100000 in
theorem c_Jxf58ca_floatToIntBits_5c35a (l : Launch) (dC : Nat → ClassId) (dI : Nat → Nat → Nat) (cB cC cI cJ cZ cT : ClassId) (x0 : UInt32) (o : Int32) (hf : f_Jxf58ca_floatToIntBits_5c35a x0 = some o) : Met l yJxf58ca_floatToIntBits_5c35a wsJxf58ca_floatToIntBits_5c35a rm_Jxf58ca_floatToIntBits_5c35a (va_Pc [.float x0] (fun _ => True)) (vp_Si (fun r => o = r)) 0 0 (fun _ => False) := by
  refine Met.ofW (cc := cJxf58ca_floatToIntBits_5c35a) (maxL := 1) (ret := (some .int)) (by decide) rfl ?_
  intro p e s m args below meth c s₁ B hml hv
  obtain ⟨hav, -⟩ := hv
  have hx := B.exec
  have hb := B.bytes
  have hr := B.returns
  have hts := atoms_spec (ws := wsJxf58ca_floatToIntBits_5c35a) B.pre
  have hown : s.vm.findClass RJxf58ca = some m.cls := findClass_of_methodNamed B.named
  have hlocks := B.notSynchronized
  refine wstart (rm := rm_Jxf58ca_floatToIntBits_5c35a) hav (Nat.le_of_ble_eq_true rfl) (fun QQ ls hQQ hl => ?_)
  have hl : lv_has ls 1 [(0, .float x0)] := hl
  have h := hf
  unfold f_Jxf58ca_floatToIntBits_5c35a at h
  refine lv_fload_n hx hb dJxf58ca_floatToIntBits_5c35a_0 rfl (lv_at hl 0 rfl) ?_
  obtain ⟨o_18, hr_18, h⟩ := ob h
  refine vp_callSi (va_Run.run (va_runS (As := [.float x0]) (rest := []) ⟨hx, hb, hml, hown, hts⟩ (c_Jxf58ca_isNaN_12338 l dC dI cB cC cI cJ cZ cT x0 o_18 hr_18) (va_cwS 1 hts gJxf58ca_floatToIntBits_5c35a_Jxf58ca_isNaN_12338 rfl rfl rfl (by decide +kernel) ⟨Nat.le_of_ble_eq_true rfl, Nat.le_of_ble_eq_true rfl⟩) ⟨blT, fun U hU hW => ⟨rfl, trivial⟩⟩ rfl rfl hl.1 rfl (lv_room (Nat.le_of_ble_eq_true rfl)) dJxf58ca_floatToIntBits_5c35a_1 ⟨Nat.le_of_ble_eq_true rfl, Nat.le_of_ble_eq_true rfl⟩)) (fun r_18 e_18 => ?_)
  subst e_18
  refine lv_if_ne (tgt := 12) hx hb dJxf58ca_floatToIntBits_5c35a_4 (by decide) (fun c_20 => ?_) (fun c_20 => ?_)
  · replace h := on c_20 h
    refine lv_ldc (v := 2143289344) hx hb hown (hts _ (List.mem_of_getElem? (i := 5) rfl)) dJxf58ca_floatToIntBits_5c35a_12 ?_
    rw [hQQ]
    exact W.iret hx hb hr (fun t ht hW => ⟨_, rfl, (Option.some.inj h).symm, ht⟩) (fun q hq => absurd hq List.not_mem_nil) dJxf58ca_floatToIntBits_5c35a_14
  · replace h := op c_20 h
    refine lv_fload_n hx hb dJxf58ca_floatToIntBits_5c35a_7 rfl (lv_at hl 0 rfl) ?_
    refine vn_f2i hx hb (hml.trans hl.1.symm) hown (hts _ (List.mem_of_getElem? (i := 1) rfl)) (hts _ (List.mem_of_getElem? (i := 2) rfl)) (hts _ (List.mem_of_getElem? (i := 3) rfl)) (hts _ (List.mem_of_getElem? (i := 4) rfl)) (Nat.le_of_ble_eq_true rfl) (Nat.le_of_ble_eq_true rfl) dJxf58ca_floatToIntBits_5c35a_8 ?_
    rw [hQQ]
    exact W.iret hx hb hr (fun t ht hW => ⟨_, rfl, (Option.some.inj h).symm, ht⟩) (fun q hq => absurd hq List.not_mem_nil) dJxf58ca_floatToIntBits_5c35a_11
def f_Jxe99ae_isNaN_b9ae7 (x0 : UInt64) : Option Bool :=
  (if (Op.cmpValue (FP.dcmp x0 x0) .l) = 0 then (some false) else (some true))
abbrev rm_Jxe99ae_isNaN_b9ae7 : Room := { frames := 0, cells := 0, slots := 0, locals := 0 }
set_option maxHeartbeats 4000000 in
set_option maxRecDepth 100000 in
theorem c_Jxe99ae_isNaN_b9ae7 (l : Launch) (dC : Nat → ClassId) (dI : Nat → Nat → Nat) (cB cC cI cJ cZ cT : ClassId) (x0 : UInt64) (o : Bool) (hf : f_Jxe99ae_isNaN_b9ae7 x0 = some o) : Met l yJxe99ae_isNaN_b9ae7 wsJxe99ae_isNaN_b9ae7 rm_Jxe99ae_isNaN_b9ae7 (va_Pc [.double x0] (fun _ => True)) (vp_Si (fun r => b2i o = r)) 0 0 (fun _ => False) := by
  refine Met.ofW (cc := cJxe99ae_isNaN_b9ae7) (maxL := 2) (ret := (some .boolean)) (by decide) rfl ?_
  intro p e s m args below meth c s₁ B hml hv
  obtain ⟨hav, -⟩ := hv
  have hx := B.exec
  have hb := B.bytes
  have hr := B.returns
  have hts := atoms_spec (ws := wsJxe99ae_isNaN_b9ae7) B.pre
  have hown : s.vm.findClass RJxe99ae = some m.cls := findClass_of_methodNamed B.named
  have hlocks := B.notSynchronized
  refine wstart (rm := rm_Jxe99ae_isNaN_b9ae7) hav (Nat.le_of_ble_eq_true rfl) (fun QQ ls hQQ hl => ?_)
  have hl : lv_has ls 2 [(0, .double x0)] := hl
  have h := hf
  unfold f_Jxe99ae_isNaN_b9ae7 at h
  refine lv_dload_n hx hb dJxe99ae_isNaN_b9ae7_0 rfl (lv_at hl 0 rfl) ?_
  refine lv_dload_n hx hb dJxe99ae_isNaN_b9ae7_1 rfl (lv_at hl 0 rfl) ?_
  refine lv_dcmp hx hb dJxe99ae_isNaN_b9ae7_2 ?_
  refine lv_if_eq (tgt := 10) hx hb dJxe99ae_isNaN_b9ae7_3 (by decide) (fun c_22 => ?_) (fun c_22 => ?_)
  · replace h := op c_22 h
    refine lv_iconst (v := 0) hx hb dJxe99ae_isNaN_b9ae7_10 (by decide) ?_
    rw [hQQ]
    exact W.zret hx hb hr rfl (fun t ht hW => ⟨_, rfl, (congrArg b2i (Option.some.inj h).symm), ht⟩) (fun q hq => absurd hq List.not_mem_nil) dJxe99ae_isNaN_b9ae7_11
  · replace h := on c_22 h
    refine lv_iconst (v := 1) hx hb dJxe99ae_isNaN_b9ae7_6 (by decide) ?_
    refine lv_goto (tgt := 11) hx hb dJxe99ae_isNaN_b9ae7_7 (by decide) ?_
    rw [hQQ]
    exact W.zret hx hb hr rfl (fun t ht hW => ⟨_, rfl, (congrArg b2i (Option.some.inj h).symm), ht⟩) (fun q hq => absurd hq List.not_mem_nil) dJxe99ae_isNaN_b9ae7_11
def f_Jxe99ae_doubleToLongBits_ccdee (x0 : UInt64) : Option Int64 :=
  ((f_Jxe99ae_isNaN_b9ae7 x0).bind (fun o_23 => (if (b2i o_23) = 0 then (some (x0).toInt64) else (some (9221120237041090560 : Int64)))))
abbrev rm_Jxe99ae_doubleToLongBits_ccdee : Room := { frames := 1, cells := 0, slots := 0, locals := 23 }
set_option maxHeartbeats 4000000 in
set_option maxRecDepth 100000 in
theorem c_Jxe99ae_doubleToLongBits_ccdee (l : Launch) (dC : Nat → ClassId) (dI : Nat → Nat → Nat) (cB cC cI cJ cZ cT : ClassId) (x0 : UInt64) (o : Int64) (hf : f_Jxe99ae_doubleToLongBits_ccdee x0 = some o) : Met l yJxe99ae_doubleToLongBits_ccdee wsJxe99ae_doubleToLongBits_ccdee rm_Jxe99ae_doubleToLongBits_ccdee (va_Pc [.double x0] (fun _ => True)) (vp_Sl (fun r => o = r)) 0 0 (fun _ => False) := by
  refine Met.ofW (cc := cJxe99ae_doubleToLongBits_ccdee) (maxL := 2) (ret := (some .long)) (by decide) rfl ?_
  intro p e s m args below meth c s₁ B hml hv
  obtain ⟨hav, -⟩ := hv
  have hx := B.exec
  have hb := B.bytes
  have hr := B.returns
  have hts := atoms_spec (ws := wsJxe99ae_doubleToLongBits_ccdee) B.pre
  have hown : s.vm.findClass RJxe99ae = some m.cls := findClass_of_methodNamed B.named
  have hlocks := B.notSynchronized
  refine wstart (rm := rm_Jxe99ae_doubleToLongBits_ccdee) hav (Nat.le_of_ble_eq_true rfl) (fun QQ ls hQQ hl => ?_)
  have hl : lv_has ls 2 [(0, .double x0)] := hl
  have h := hf
  unfold f_Jxe99ae_doubleToLongBits_ccdee at h
  refine lv_dload_n hx hb dJxe99ae_doubleToLongBits_ccdee_0 rfl (lv_at hl 0 rfl) ?_
  obtain ⟨o_23, hr_23, h⟩ := ob h
  refine vp_callSi (va_Run.run (va_runS (As := [.double x0]) (rest := []) ⟨hx, hb, hml, hown, hts⟩ (c_Jxe99ae_isNaN_b9ae7 l dC dI cB cC cI cJ cZ cT x0 o_23 hr_23) (va_cwS 1 hts gJxe99ae_doubleToLongBits_ccdee_Jxe99ae_isNaN_b9ae7 rfl rfl rfl (by decide +kernel) ⟨Nat.le_of_ble_eq_true rfl, Nat.le_of_ble_eq_true rfl⟩) ⟨blT, fun U hU hW => ⟨rfl, trivial⟩⟩ rfl rfl hl.1 rfl (lv_room (Nat.le_of_ble_eq_true rfl)) dJxe99ae_doubleToLongBits_ccdee_1 ⟨Nat.le_of_ble_eq_true rfl, Nat.le_of_ble_eq_true rfl⟩)) (fun r_23 e_23 => ?_)
  subst e_23
  refine lv_if_ne (tgt := 12) hx hb dJxe99ae_doubleToLongBits_ccdee_4 (by decide) (fun c_25 => ?_) (fun c_25 => ?_)
  · replace h := on c_25 h
    refine lv_ldc2 (v := 9221120237041090560) hx hb hown (hts _ (List.mem_of_getElem? (i := 5) rfl)) dJxe99ae_doubleToLongBits_ccdee_12 ?_
    rw [hQQ]
    exact W.lret hx hb hr (fun t ht hW => ⟨_, rfl, (Option.some.inj h).symm, ht⟩) (fun q hq => absurd hq List.not_mem_nil) dJxe99ae_doubleToLongBits_ccdee_15
  · replace h := op c_25 h
    refine lv_dload_n hx hb dJxe99ae_doubleToLongBits_ccdee_7 rfl (lv_at hl 0 rfl) ?_
    refine vn_d2l hx hb (hml.trans hl.1.symm) hown (hts _ (List.mem_of_getElem? (i := 1) rfl)) (hts _ (List.mem_of_getElem? (i := 2) rfl)) (hts _ (List.mem_of_getElem? (i := 3) rfl)) (hts _ (List.mem_of_getElem? (i := 4) rfl)) (Nat.le_of_ble_eq_true rfl) (Nat.le_of_ble_eq_true rfl) dJxe99ae_doubleToLongBits_ccdee_8 ?_
    rw [hQQ]
    exact W.lret hx hb hr (fun t ht hW => ⟨_, rfl, (Option.some.inj h).symm, ht⟩) (fun q hq => absurd hq List.not_mem_nil) dJxe99ae_doubleToLongBits_ccdee_11
