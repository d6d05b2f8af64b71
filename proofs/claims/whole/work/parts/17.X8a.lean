def f_X8_hasColumn (v_columns : Int32) (x1 : Int32) : Option Bool :=
  (if x1 < 0 then (some false) else (if v_columns ≤ x1 then (some false) else (some true)))
abbrev rm_X8_hasColumn : Room := { frames := 0, cells := 0, slots := 0, locals := 0 }
set_option maxHeartbeats 4000000 in
set_option maxRecDepth 100000 in
theorem c_X8_hasColumn (l : Launch) (dC : Nat → ClassId) (dI : Nat → Nat → Nat) (cB cC cI cJ cZ cT : ClassId) (h0 q_kinds q_tags q_cells : Nat) (v_columns : Int32) (v_rows : Int32) (x1 : Int32) (o : Bool) (hf : f_X8_hasColumn v_columns x1 = some o) : Met l yX8_hasColumn wsX8_hasColumn rm_X8_hasColumn (va_Pc [.ref h0, .int x1] (fun U => va_P (dC, dI) vwCl [(h0, .inr (6, [.ref q_kinds, .ref q_tags, .ref q_cells, .int v_columns, .int v_rows]))] U.heap ∧ va_K (dC, dI) vwCl (tyA cB cC cI cJ cZ cT) U)) (vp_Si (fun r => b2i o = r)) 0 0 (fun _ => False) := by
  refine Met.ofW (cc := cX8_hasColumn) (maxL := 2) (ret := (some .boolean)) (by decide +kernel) rfl ?_
  intro p e s m args below meth c s₁ B hml hv
  obtain ⟨hav, hP, hK⟩ := hv
  have hx := B.exec
  have hb := B.bytes
  have hr := B.returns
  have hts := atoms_spec (ws := wsX8_hasColumn) B.pre
  have hown : s.vm.findClass RX8 = some m.cls := findClass_of_methodNamed B.named
  have hlocks := B.notSynchronized
  refine wstart (rm := rm_X8_hasColumn) hav (Nat.le_of_ble_eq_true rfl) (fun QQ ls hQQ hl => ?_)
  have hl : lv_has ls 2 [(0, .ref h0), (1, .int x1)] := hl
  have hi_X8 : ∀ w ∈ u_ws RX8 TX8 5, w ∈ wsX8_hasColumn := by decide +kernel
  have h := hf
  unfold f_X8_hasColumn at h
  refine lv_iload_n hx hb dX8_hasColumn_0 rfl (lv_at hl 1 rfl) ?_
  refine lv_if_lt (tgt := 16) hx hb dX8_hasColumn_1 (by decide) (fun c_1790 => ?_) (fun c_1790 => ?_)
  · replace h := op c_1790 h
    refine lv_iconst (v := 0) hx hb dX8_hasColumn_16 (by decide) ?_
    rw [hQQ]
    exact W.zret hx hb hr rfl (fun t ht hW => ⟨_, rfl, (congrArg b2i (Option.some.inj h).symm), ht⟩) (fun q hq => absurd hq List.not_mem_nil) dX8_hasColumn_17
  · replace h := on c_1790 h
    refine lv_iload_n hx hb dX8_hasColumn_4 rfl (lv_at hl 1 rfl) ?_
    refine lv_aload_n hx hb dX8_hasColumn_5 rfl (lv_at hl 0 rfl) ?_
    refine va_get (D := (dC, dI)) (ci := 6) (v := .int v_columns) (C := RX8) (T := TX8) (N := 5) hx hb hts hi_X8 hown hK hP 0 rfl rfl 3 (by decide) (hts _ (List.mem_of_getElem? (i := 1) rfl)) (fun _ h9 => h9) rfl dX8_hasColumn_6 ?_
    refine lv_icmp_ge (tgt := 16) hx hb dX8_hasColumn_9 (by decide) (fun c_1791 => ?_) (fun c_1791 => ?_)
    · replace h := op c_1791 h
      refine lv_iconst (v := 0) hx hb dX8_hasColumn_16 (by decide) ?_
      rw [hQQ]
      exact W.zret hx hb hr rfl (fun t ht hW => ⟨_, rfl, (congrArg b2i (Option.some.inj h).symm), ht⟩) (fun q hq => absurd hq List.not_mem_nil) dX8_hasColumn_17
    · replace h := on c_1791 h
      refine lv_iconst (v := 1) hx hb dX8_hasColumn_12 (by decide) ?_
      refine lv_goto (tgt := 17) hx hb dX8_hasColumn_13 (by decide) ?_
      rw [hQQ]
      exact W.zret hx hb hr rfl (fun t ht hW => ⟨_, rfl, (congrArg b2i (Option.some.inj h).symm), ht⟩) (fun q hq => absurd hq List.not_mem_nil) dX8_hasColumn_17
def f_X8_isProper (v_columns : Int32) (v_kinds : Nat → Int32) (x1 : Int32) : Option Bool :=
  ((f_X8_hasColumn v_columns x1).bind (fun o_1792 => (if (b2i o_1792) = 0 then (some false) else (if x1 < 0 ∨ 6 ≤ (x1).toNatClampNeg then none else (if (10 : Int32) < (v_kinds (x1).toNatClampNeg) then (some false) else (some true))))))
abbrev rm_X8_isProper : Room := { frames := 1, cells := 0, slots := 0, locals := 21 }
set_option maxHeartbeats 4000000 in
set_option maxRecDepth 100000 in
theorem c_X8_isProper (l : Launch) (dC : Nat → ClassId) (dI : Nat → Nat → Nat) (cB cC cI cJ cZ cT : ClassId) (h0 q_kinds q_tags q_cells : Nat) (v_columns : Int32) (v_rows : Int32) (v_kinds : Nat → Int32) (x1 : Int32) (o : Bool) (hf : f_X8_isProper v_columns v_kinds x1 = some o) : Met l yX8_isProper wsX8_isProper rm_X8_isProper (va_Pc [.ref h0, .int x1] (fun U => va_P (dC, dI) vwCl [(h0, .inr (6, [.ref q_kinds, .ref q_tags, .ref q_cells, .int v_columns, .int v_rows])), (q_kinds, .inl (cI, 6, .inl v_kinds))] U.heap ∧ va_K (dC, dI) vwCl (tyA cB cC cI cJ cZ cT) U)) (vp_Si (fun r => b2i o = r)) 0 0 (fun _ => False) := by
  refine Met.ofW (cc := cX8_isProper) (maxL := 2) (ret := (some .boolean)) (by decide +kernel) rfl ?_
  intro p e s m args below meth c s₁ B hml hv
  obtain ⟨hav, hP, hK⟩ := hv
  have hx := B.exec
  have hb := B.bytes
  have hr := B.returns
  have hts := atoms_spec (ws := wsX8_isProper) B.pre
  have hown : s.vm.findClass RX8 = some m.cls := findClass_of_methodNamed B.named
  have hlocks := B.notSynchronized
  refine wstart (rm := rm_X8_isProper) hav (Nat.le_of_ble_eq_true rfl) (fun QQ ls hQQ hl => ?_)
  have hl : lv_has ls 2 [(0, .ref h0), (1, .int x1)] := hl
  have hi_X8 : ∀ w ∈ u_ws RX8 TX8 5, w ∈ wsX8_isProper := by decide +kernel
  have h := hf
  unfold f_X8_isProper at h
  refine lv_aload_n hx hb dX8_isProper_0 rfl (lv_at hl 0 rfl) ?_
  refine lv_iload_n hx hb dX8_isProper_1 rfl (lv_at hl 1 rfl) ?_
  obtain ⟨o_1792, hr_1792, h⟩ := ob h
  refine vp_callSi (va_Run.run (va_runV (As := [.int x1]) (rest := []) ⟨hx, hb, hml, hown, hts⟩ (c_X8_hasColumn l dC dI cB cC cI cJ cZ cT h0 q_kinds q_tags q_cells v_columns v_rows x1 o_1792 hr_1792) (cwV 1 hts gX8_isProper_X8_hasColumn rfl rfl rfl (by decide +kernel) ⟨Nat.le_of_ble_eq_true rfl, Nat.le_of_ble_eq_true rfl⟩) ⟨blR, va_recv hK hP (ci := 6) (q0 := 0) rfl rfl, fun U hU hW => ⟨rfl, by rw [hU]; exact hP.sub [0] rfl, va_K.moved hW.alike hK⟩⟩ rfl rfl hl.1 rfl (lv_room (Nat.le_of_ble_eq_true rfl)) dX8_isProper_2 ⟨Nat.le_of_ble_eq_true rfl, Nat.le_of_ble_eq_true rfl⟩)) (fun r_1792 e_1792 => ?_)
  subst e_1792
  refine lv_if_eq (tgt := 23) hx hb dX8_isProper_5 (by decide) (fun c_1794 => ?_) (fun c_1794 => ?_)
  · replace h := op c_1794 h
    refine lv_iconst (v := 0) hx hb dX8_isProper_23 (by decide) ?_
    rw [hQQ]
    exact W.zret hx hb hr rfl (fun t ht hW => ⟨_, rfl, (congrArg b2i (Option.some.inj h).symm), ht⟩) (fun q hq => absurd hq List.not_mem_nil) dX8_isProper_24
  · replace h := on c_1794 h
    refine lv_aload_n hx hb dX8_isProper_8 rfl (lv_at hl 0 rfl) ?_
    refine va_get (D := (dC, dI)) (ci := 6) (v := .ref q_kinds) (C := RX8) (T := TX8) (N := 5) hx hb hts hi_X8 hown hK hP 0 rfl rfl 0 (by decide) (hts _ (List.mem_of_getElem? (i := 1) rfl)) (fun _ h9 => h9) rfl dX8_isProper_9 ?_
    refine lv_iload_n hx hb dX8_isProper_12 rfl (lv_at hl 1 rfl) ?_
    obtain ⟨hi_1795, h⟩ := og h
    refine va_iald hx hb hK hP 1 0 rfl rfl hi_1795 dX8_isProper_13 ?_
    refine lv_bipush (v := 10) hx hb dX8_isProper_14 (by decide) ?_
    refine lv_icmp_gt (tgt := 23) hx hb dX8_isProper_16 (by decide) (fun c_1796 => ?_) (fun c_1796 => ?_)
    · replace h := op c_1796 h
      refine lv_iconst (v := 0) hx hb dX8_isProper_23 (by decide) ?_
      rw [hQQ]
      exact W.zret hx hb hr rfl (fun t ht hW => ⟨_, rfl, (congrArg b2i (Option.some.inj h).symm), ht⟩) (fun q hq => absurd hq List.not_mem_nil) dX8_isProper_24
    · replace h := on c_1796 h
      refine lv_iconst (v := 1) hx hb dX8_isProper_19 (by decide) ?_
      refine lv_goto (tgt := 24) hx hb dX8_isProper_20 (by decide) ?_
      rw [hQQ]
      exact W.zret hx hb hr rfl (fun t ht hW => ⟨_, rfl, (congrArg b2i (Option.some.inj h).symm), ht⟩) (fun q hq => absurd hq List.not_mem_nil) dX8_isProper_24
def L_X8_properSet_4 (v_columns : Int32) (v_kinds : (Nat → Int32)) : Nat → Int32 → Int32 → Option Int32
  | 0, _, _ => none
  | n+1, x1_4, x2_4 => (if v_columns ≤ x2_4 then (some x1_4) else ((f_X8_isProper v_columns v_kinds x2_4).bind (fun o_1798 => (if (b2i o_1798) = 0 then (L_X8_properSet_4 v_columns v_kinds n x1_4 (x2_4 + 1)) else (L_X8_properSet_4 v_columns v_kinds n (x1_4 ||| ((1 : Int32) <<< (x2_4 &&& 31))) (x2_4 + 1))))))
def f_X8_properSet (v_columns : Int32) (v_kinds : Nat → Int32) : Option Int32 :=
  ((L_X8_properSet_4 v_columns v_kinds fu (0 : Int32) (0 : Int32)).bind (fun w_1801 => (some w_1801)))
abbrev rm_X8_properSet : Room := { frames := 2, cells := 0, slots := 0, locals := 42 }
set_option maxHeartbeats 4000000 in
set_option maxRecDepth 100000 in
theorem c_X8_properSet (l : Launch) (dC : Nat → ClassId) (dI : Nat → Nat → Nat) (cB cC cI cJ cZ cT : ClassId) (h0 q_kinds q_tags q_cells : Nat) (v_columns : Int32) (v_rows : Int32) (v_kinds : Nat → Int32) (o : Int32) (hf : f_X8_properSet v_columns v_kinds = some o) : Met l yX8_properSet wsX8_properSet rm_X8_properSet (va_Pc [.ref h0] (fun U => va_P (dC, dI) vwCl [(h0, .inr (6, [.ref q_kinds, .ref q_tags, .ref q_cells, .int v_columns, .int v_rows])), (q_kinds, .inl (cI, 6, .inl v_kinds))] U.heap ∧ va_K (dC, dI) vwCl (tyA cB cC cI cJ cZ cT) U)) (vp_Si (fun r => o = r)) 0 0 (fun _ => False) := by
  refine Met.ofW (cc := cX8_properSet) (maxL := 3) (ret := (some .int)) (by decide +kernel) rfl ?_
  intro p e s m args below meth c s₁ B hml hv
  obtain ⟨hav, hP, hK⟩ := hv
  have hx := B.exec
  have hb := B.bytes
  have hr := B.returns
  have hts := atoms_spec (ws := wsX8_properSet) B.pre
  have hown : s.vm.findClass RX8 = some m.cls := findClass_of_methodNamed B.named
  have hlocks := B.notSynchronized
  refine wstart (rm := rm_X8_properSet) hav (Nat.le_of_ble_eq_true rfl) (fun QQ ls hQQ hl => ?_)
  have hl : lv_has ls 3 [(0, .ref h0)] := hl
  have hi_X8 : ∀ w ∈ u_ws RX8 TX8 5, w ∈ wsX8_properSet := by decide +kernel
  have h := hf
  unfold f_X8_properSet at h
  refine lv_iconst (v := 0) hx hb dX8_properSet_0 (by decide) ?_
  refine lv_istore_n (lv' := [(1, .int (0 : Int32)), (0, .ref h0)]) hx hb dX8_properSet_1 rfl hl (by decide) rfl (fun ls hl => ?_)
  refine lv_iconst (v := 0) hx hb dX8_properSet_2 (by decide) ?_
  refine lv_istore_n (lv' := [(2, .int (0 : Int32)), (1, .int (0 : Int32)), (0, .ref h0)]) hx hb dX8_properSet_3 rfl hl (by decide) rfl (fun ls hl => ?_)
  have LP_1801 : ∀ (n : Nat) (x1_4 : Int32) (x2_4 : Int32) (w : Int32) (ls : Array Slot), L_X8_properSet_4 v_columns v_kinds n x1_4 x2_4 = some w → lv_has ls 3 [(0, .ref h0), (1, .int x1_4), (2, .int x2_4)] → (∀ (ls : Array Slot), lv_has ls 3 [(1, .int w)] → W p l e rm_X8_properSet s m args below meth c s.heap [] 0 0 QQ (F0 m 32 ls [])) → W p l e rm_X8_properSet s m args below meth c s.heap [] 0 0 QQ (F0 m 4 ls []) := by
    intro n
    induction n with
    | zero => intro x1_4 x2_4 w ls h; exact absurd (show none = some w from h) nofun
    | succ n ih =>
      intro x1_4 x2_4 w ls h hl K
      rw [L_X8_properSet_4] at h
      refine lv_iload_n hx hb dX8_properSet_4 rfl (lv_at hl 2 rfl) ?_
      refine lv_aload_n hx hb dX8_properSet_5 rfl (lv_at hl 0 rfl) ?_
      refine va_get (D := (dC, dI)) (ci := 6) (v := .int v_columns) (C := RX8) (T := TX8) (N := 5) hx hb hts hi_X8 hown hK hP 0 rfl rfl 3 (by decide) (hts _ (List.mem_of_getElem? (i := 1) rfl)) (fun _ h9 => h9) rfl dX8_properSet_6 ?_
      refine lv_icmp_ge (tgt := 32) hx hb dX8_properSet_9 (by decide) (fun c_1797 => ?_) (fun c_1797 => ?_)
      · replace h := op c_1797 h
        have ho := Option.some.inj h
        subst ho
        exact K ls (lv_sub hl [1] rfl)
      · replace h := on c_1797 h
        refine lv_aload_n hx hb dX8_properSet_12 rfl (lv_at hl 0 rfl) ?_
        refine lv_iload_n hx hb dX8_properSet_13 rfl (lv_at hl 2 rfl) ?_
        obtain ⟨o_1798, hr_1798, h⟩ := ob h
        refine vp_callSi (va_Run.run (va_runV (As := [.int x2_4]) (rest := []) ⟨hx, hb, hml, hown, hts⟩ (c_X8_isProper l dC dI cB cC cI cJ cZ cT h0 q_kinds q_tags q_cells v_columns v_rows v_kinds x2_4 o_1798 hr_1798) (cwV 1 hts gX8_properSet_X8_isProper rfl rfl rfl (by decide +kernel) ⟨Nat.le_of_ble_eq_true rfl, Nat.le_of_ble_eq_true rfl⟩) ⟨blR, va_recv hK hP (ci := 6) (q0 := 0) rfl rfl, fun U hU hW => ⟨rfl, by rw [hU]; exact hP.sub [0, 1] rfl, va_K.moved hW.alike hK⟩⟩ rfl rfl hl.1 rfl (lv_room (Nat.le_of_ble_eq_true rfl)) dX8_properSet_14 ⟨Nat.le_of_ble_eq_true rfl, Nat.le_of_ble_eq_true rfl⟩)) (fun r_1798 e_1798 => ?_)
        subst e_1798
        refine lv_if_eq (tgt := 26) hx hb dX8_properSet_17 (by decide) (fun c_1800 => ?_) (fun c_1800 => ?_)
        · replace h := op c_1800 h
          refine lv_iinc (v := (x2_4 + 1)) (lv' := [(2, .int (x2_4 + 1)), (0, .ref h0), (1, .int x1_4)]) hx hb dX8_properSet_26 hl (k := 2) rfl (by rfl) (by decide) rfl (fun ls hl => ?_)
          refine lv_goto (tgt := 4) hx hb dX8_properSet_29 (by decide) ?_
          exact ih x1_4 (x2_4 + 1) w ls h (lv_sub hl [1, 2, 0] rfl) K
        · replace h := on c_1800 h
          refine lv_iload_n hx hb dX8_properSet_20 rfl (lv_at hl 1 rfl) ?_
          refine lv_iconst (v := 1) hx hb dX8_properSet_21 (by decide) ?_
          refine lv_iload_n hx hb dX8_properSet_22 rfl (lv_at hl 2 rfl) ?_
          refine lv_ishl hx hb dX8_properSet_23 ?_
          refine lv_ior hx hb dX8_properSet_24 ?_
          refine lv_istore_n (lv' := [(1, .int (x1_4 ||| ((1 : Int32) <<< (x2_4 &&& 31)))), (0, .ref h0), (2, .int x2_4)]) hx hb dX8_properSet_25 rfl hl (by decide) rfl (fun ls hl => ?_)
          refine lv_iinc (v := (x2_4 + 1)) (lv' := [(2, .int (x2_4 + 1)), (1, .int (x1_4 ||| ((1 : Int32) <<< (x2_4 &&& 31)))), (0, .ref h0)]) hx hb dX8_properSet_26 hl (k := 2) rfl (by rfl) (by decide) rfl (fun ls hl => ?_)
          refine lv_goto (tgt := 4) hx hb dX8_properSet_29 (by decide) ?_
          exact ih (x1_4 ||| ((1 : Int32) <<< (x2_4 &&& 31))) (x2_4 + 1) w ls h (lv_sub hl [2, 1, 0] rfl) K
  obtain ⟨w_1801, hw_1801, h⟩ := ob h
  refine LP_1801 fu (0 : Int32) (0 : Int32) w_1801 ls hw_1801 (lv_sub hl [2, 1, 0] rfl) (fun ls hl => ?_)
  refine lv_iload_n hx hb dX8_properSet_32 rfl (lv_at hl 0 rfl) ?_
  rw [hQQ]
  exact W.iret hx hb hr (fun t ht hW => ⟨_, rfl, (Option.some.inj h).symm, ht⟩) (fun q hq => absurd hq List.not_mem_nil) dX8_properSet_33
def f_X8_cell (v_cells : Nat → Int64) (x1 : Int32) (x2 : Int32) : Option Int64 :=
  (if ((x1 * (16 : Int32)) + x2) < 0 ∨ 96 ≤ (((x1 * (16 : Int32)) + x2)).toNatClampNeg then none else (some (v_cells (((x1 * (16 : Int32)) + x2)).toNatClampNeg)))
abbrev rm_X8_cell : Room := { frames := 0, cells := 0, slots := 0, locals := 0 }
set_option maxHeartbeats 4000000 in
set_option maxRecDepth 100000 in
theorem c_X8_cell (l : Launch) (dC : Nat → ClassId) (dI : Nat → Nat → Nat) (cB cC cI cJ cZ cT : ClassId) (h0 q_kinds q_tags q_cells : Nat) (v_columns : Int32) (v_rows : Int32) (v_cells : Nat → Int64) (x1 : Int32) (x2 : Int32) (o : Int64) (hf : f_X8_cell v_cells x1 x2 = some o) : Met l yX8_cell wsX8_cell rm_X8_cell (va_Pc [.ref h0, .int x1, .int x2] (fun U => va_P (dC, dI) vwCl [(h0, .inr (6, [.ref q_kinds, .ref q_tags, .ref q_cells, .int v_columns, .int v_rows])), (q_cells, .inl (cJ, 96, .inr (.inl v_cells)))] U.heap ∧ va_K (dC, dI) vwCl (tyA cB cC cI cJ cZ cT) U)) (vp_Sl (fun r => o = r)) 0 0 (fun _ => False) := by
  refine Met.ofW (cc := cX8_cell) (maxL := 3) (ret := (some .long)) (by decide +kernel) rfl ?_
  intro p e s m args below meth c s₁ B hml hv
  obtain ⟨hav, hP, hK⟩ := hv
  have hx := B.exec
  have hb := B.bytes
  have hr := B.returns
  have hts := atoms_spec (ws := wsX8_cell) B.pre
  have hown : s.vm.findClass RX8 = some m.cls := findClass_of_methodNamed B.named
  have hlocks := B.notSynchronized
  refine wstart (rm := rm_X8_cell) hav (Nat.le_of_ble_eq_true rfl) (fun QQ ls hQQ hl => ?_)
  have hl : lv_has ls 3 [(0, .ref h0), (1, .int x1), (2, .int x2)] := hl
  have hi_X8 : ∀ w ∈ u_ws RX8 TX8 5, w ∈ wsX8_cell := by decide +kernel
  have h := hf
  unfold f_X8_cell at h
  refine lv_aload_n hx hb dX8_cell_0 rfl (lv_at hl 0 rfl) ?_
  refine va_get (D := (dC, dI)) (ci := 6) (v := .ref q_cells) (C := RX8) (T := TX8) (N := 5) hx hb hts hi_X8 hown hK hP 0 rfl rfl 2 (by decide) (hts _ (List.mem_of_getElem? (i := 1) rfl)) (fun _ h9 => h9) rfl dX8_cell_1 ?_
  refine lv_iload_n hx hb dX8_cell_4 rfl (lv_at hl 1 rfl) ?_
  refine lv_bipush (v := 16) hx hb dX8_cell_5 (by decide) ?_
  refine lv_imul hx hb dX8_cell_7 ?_
  refine lv_iload_n hx hb dX8_cell_8 rfl (lv_at hl 2 rfl) ?_
  refine lv_iadd hx hb dX8_cell_9 ?_
  obtain ⟨hi_1802, h⟩ := og h
  refine va_lald hx hb hK hP 1 1 rfl rfl hi_1802 dX8_cell_10 ?_
  rw [hQQ]
  exact W.lret hx hb hr (fun t ht hW => ⟨_, rfl, (Option.some.inj h).symm, ht⟩) (fun q hq => absurd hq List.not_mem_nil) dX8_cell_11
def f_X8_isLike (v_cells : Nat → Int64) (x1 : Int32) (x2 : Int32) (x3 : Int32) : Option Bool :=
  ((f_X8_cell v_cells x1 x2).bind (fun o_1803 => ((f_X8_cell v_cells x1 x3).bind (fun o_1805 => (if (lg_cmp o_1803 o_1805) = 0 then (some true) else (some false))))))
abbrev rm_X8_isLike : Room := { frames := 1, cells := 0, slots := 0, locals := 22 }
set_option maxHeartbeats 4000000 in
set_option maxRecDepth 100000 in
theorem c_X8_isLike (l : Launch) (dC : Nat → ClassId) (dI : Nat → Nat → Nat) (cB cC cI cJ cZ cT : ClassId) (h0 q_kinds q_tags q_cells : Nat) (v_columns : Int32) (v_rows : Int32) (v_cells : Nat → Int64) (x1 : Int32) (x2 : Int32) (x3 : Int32) (o : Bool) (hf : f_X8_isLike v_cells x1 x2 x3 = some o) : Met l yX8_isLike wsX8_isLike rm_X8_isLike (va_Pc [.ref h0, .int x1, .int x2, .int x3] (fun U => va_P (dC, dI) vwCl [(h0, .inr (6, [.ref q_kinds, .ref q_tags, .ref q_cells, .int v_columns, .int v_rows])), (q_cells, .inl (cJ, 96, .inr (.inl v_cells)))] U.heap ∧ va_K (dC, dI) vwCl (tyA cB cC cI cJ cZ cT) U)) (vp_Si (fun r => b2i o = r)) 0 0 (fun _ => False) := by
  refine Met.ofW (cc := cX8_isLike) (maxL := 4) (ret := (some .boolean)) (by decide +kernel) rfl ?_
  intro p e s m args below meth c s₁ B hml hv
  obtain ⟨hav, hP, hK⟩ := hv
  have hx := B.exec
  have hb := B.bytes
  have hr := B.returns
  have hts := atoms_spec (ws := wsX8_isLike) B.pre
  have hown : s.vm.findClass RX8 = some m.cls := findClass_of_methodNamed B.named
  have hlocks := B.notSynchronized
  refine wstart (rm := rm_X8_isLike) hav (Nat.le_of_ble_eq_true rfl) (fun QQ ls hQQ hl => ?_)
  have hl : lv_has ls 4 [(0, .ref h0), (1, .int x1), (2, .int x2), (3, .int x3)] := hl
  have h := hf
  unfold f_X8_isLike at h
  refine lv_aload_n hx hb dX8_isLike_0 rfl (lv_at hl 0 rfl) ?_
  refine lv_iload_n hx hb dX8_isLike_1 rfl (lv_at hl 1 rfl) ?_
  refine lv_iload_n hx hb dX8_isLike_2 rfl (lv_at hl 2 rfl) ?_
  obtain ⟨o_1803, hr_1803, h⟩ := ob h
  refine vp_callSl (va_Run.run (va_runV (As := [.int x1, .int x2]) (rest := []) ⟨hx, hb, hml, hown, hts⟩ (c_X8_cell l dC dI cB cC cI cJ cZ cT h0 q_kinds q_tags q_cells v_columns v_rows v_cells x1 x2 o_1803 hr_1803) (cwV 2 hts gX8_isLike_X8_cell rfl rfl rfl (by decide +kernel) ⟨Nat.le_of_ble_eq_true rfl, Nat.le_of_ble_eq_true rfl⟩) ⟨blR, va_recv hK hP (ci := 6) (q0 := 0) rfl rfl, fun U hU hW => ⟨rfl, by rw [hU]; exact hP.sub [0, 1] rfl, va_K.moved hW.alike hK⟩⟩ rfl rfl hl.1 rfl (lv_room (Nat.le_of_ble_eq_true rfl)) dX8_isLike_3 ⟨Nat.le_of_ble_eq_true rfl, Nat.le_of_ble_eq_true rfl⟩)) (fun r_1803 e_1803 => ?_)
  subst e_1803
  refine lv_aload_n hx hb dX8_isLike_6 rfl (lv_at hl 0 rfl) ?_
  refine lv_iload_n hx hb dX8_isLike_7 rfl (lv_at hl 1 rfl) ?_
  refine lv_iload_n hx hb dX8_isLike_8 rfl (lv_at hl 3 rfl) ?_
  obtain ⟨o_1805, hr_1805, h⟩ := ob h
  refine vp_callSl (va_Run.run (va_runV (As := [.int x1, .int x3]) (rest := [.long o_1803]) ⟨hx, hb, hml, hown, hts⟩ (c_X8_cell l dC dI cB cC cI cJ cZ cT h0 q_kinds q_tags q_cells v_columns v_rows v_cells x1 x3 o_1805 hr_1805) (cwV 2 hts gX8_isLike_X8_cell rfl rfl rfl (by decide +kernel) ⟨Nat.le_of_ble_eq_true rfl, Nat.le_of_ble_eq_true rfl⟩) ⟨blR, va_recv hK hP (ci := 6) (q0 := 0) rfl rfl, fun U hU hW => ⟨rfl, by rw [hU]; exact hP.sub [0, 1] rfl, va_K.moved hW.alike hK⟩⟩ rfl rfl hl.1 rfl (lv_room (Nat.le_of_ble_eq_true rfl)) dX8_isLike_9 ⟨Nat.le_of_ble_eq_true rfl, Nat.le_of_ble_eq_true rfl⟩)) (fun r_1805 e_1805 => ?_)
  subst e_1805
  refine W.lcmp hx hb dX8_isLike_12 ?_
  refine lv_if_ne (tgt := 20) hx hb dX8_isLike_13 (by decide) (fun c_1807 => ?_) (fun c_1807 => ?_)
  · replace h := on c_1807 h
    refine lv_iconst (v := 0) hx hb dX8_isLike_20 (by decide) ?_
    rw [hQQ]
    exact W.zret hx hb hr rfl (fun t ht hW => ⟨_, rfl, (congrArg b2i (Option.some.inj h).symm), ht⟩) (fun q hq => absurd hq List.not_mem_nil) dX8_isLike_21
  · replace h := op c_1807 h
    refine lv_iconst (v := 1) hx hb dX8_isLike_16 (by decide) ?_
    refine lv_goto (tgt := 21) hx hb dX8_isLike_17 (by decide) ?_
    rw [hQQ]
    exact W.zret hx hb hr rfl (fun t ht hW => ⟨_, rfl, (congrArg b2i (Option.some.inj h).symm), ht⟩) (fun q hq => absurd hq List.not_mem_nil) dX8_isLike_21
def L_X8_unlikeCells_5 (v_columns : Int32) (v_kinds : (Nat → Int32)) (v_cells : (Nat → Int64)) (x1 : Int32) (x2 : Int32) : Nat → Int32 → Int32 → Option Int32
  | 0, _, _ => none
  | n+1, x3_5, x4_5 => (if v_columns ≤ x4_5 then (some x3_5) else ((f_X8_isProper v_columns v_kinds x4_5).bind (fun o_1809 => (if (b2i o_1809) = 0 then (L_X8_unlikeCells_5 v_columns v_kinds v_cells x1 x2 n x3_5 (x4_5 + 1)) else ((f_X8_isLike v_cells x4_5 x1 x2).bind (fun o_1812 => (if (b2i o_1812) = 0 then (L_X8_unlikeCells_5 v_columns v_kinds v_cells x1 x2 n (x3_5 + 1) (x4_5 + 1)) else (L_X8_unlikeCells_5 v_columns v_kinds v_cells x1 x2 n x3_5 (x4_5 + 1)))))))))
def f_X8_unlikeCells (v_columns : Int32) (v_kinds : Nat → Int32) (v_cells : Nat → Int64) (x1 : Int32) (x2 : Int32) : Option Int32 :=
  ((L_X8_unlikeCells_5 v_columns v_kinds v_cells x1 x2 fu (0 : Int32) (0 : Int32)).bind (fun w_1815 => (some w_1815)))
abbrev rm_X8_unlikeCells : Room := { frames := 2, cells := 0, slots := 0, locals := 45 }
set_option maxHeartbeats 4000000 in
set_option maxRecDepth 100000 in
theorem c_X8_unlikeCells (l : Launch) (dC : Nat → ClassId) (dI : Nat → Nat → Nat) (cB cC cI cJ cZ cT : ClassId) (h0 q_kinds q_tags q_cells : Nat) (v_columns : Int32) (v_rows : Int32) (v_kinds : Nat → Int32) (v_cells : Nat → Int64) (x1 : Int32) (x2 : Int32) (o : Int32) (hf : f_X8_unlikeCells v_columns v_kinds v_cells x1 x2 = some o) : Met l yX8_unlikeCells wsX8_unlikeCells rm_X8_unlikeCells (va_Pc [.ref h0, .int x1, .int x2] (fun U => va_P (dC, dI) vwCl [(h0, .inr (6, [.ref q_kinds, .ref q_tags, .ref q_cells, .int v_columns, .int v_rows])), (q_kinds, .inl (cI, 6, .inl v_kinds)), (q_cells, .inl (cJ, 96, .inr (.inl v_cells)))] U.heap ∧ va_K (dC, dI) vwCl (tyA cB cC cI cJ cZ cT) U)) (vp_Si (fun r => o = r)) 0 0 (fun _ => False) := by
  refine Met.ofW (cc := cX8_unlikeCells) (maxL := 5) (ret := (some .int)) (by decide +kernel) rfl ?_
  intro p e s m args below meth c s₁ B hml hv
  obtain ⟨hav, hP, hK⟩ := hv
  have hx := B.exec
  have hb := B.bytes
  have hr := B.returns
  have hts := atoms_spec (ws := wsX8_unlikeCells) B.pre
  have hown : s.vm.findClass RX8 = some m.cls := findClass_of_methodNamed B.named
  have hlocks := B.notSynchronized
  refine wstart (rm := rm_X8_unlikeCells) hav (Nat.le_of_ble_eq_true rfl) (fun QQ ls hQQ hl => ?_)
  have hl : lv_has ls 5 [(0, .ref h0), (1, .int x1), (2, .int x2)] := hl
  have hi_X8 : ∀ w ∈ u_ws RX8 TX8 5, w ∈ wsX8_unlikeCells := by decide +kernel
  have h := hf
  unfold f_X8_unlikeCells at h
  refine lv_iconst (v := 0) hx hb dX8_unlikeCells_0 (by decide) ?_
  refine lv_istore_n (lv' := [(3, .int (0 : Int32)), (0, .ref h0), (1, .int x1), (2, .int x2)]) hx hb dX8_unlikeCells_1 rfl hl (by decide) rfl (fun ls hl => ?_)
  refine lv_iconst (v := 0) hx hb dX8_unlikeCells_2 (by decide) ?_
  refine lv_istore (lv' := [(4, .int (0 : Int32)), (3, .int (0 : Int32)), (0, .ref h0), (1, .int x1), (2, .int x2)]) hx hb dX8_unlikeCells_3 hl (by decide) rfl (fun ls hl => ?_)
  have LP_1815 : ∀ (n : Nat) (x3_5 : Int32) (x4_5 : Int32) (w : Int32) (ls : Array Slot), L_X8_unlikeCells_5 v_columns v_kinds v_cells x1 x2 n x3_5 x4_5 = some w → lv_has ls 5 [(0, .ref h0), (1, .int x1), (2, .int x2), (3, .int x3_5), (4, .int x4_5)] → (∀ (ls : Array Slot), lv_has ls 5 [(3, .int w)] → W p l e rm_X8_unlikeCells s m args below meth c s.heap [] 0 0 QQ (F0 m 43 ls [])) → W p l e rm_X8_unlikeCells s m args below meth c s.heap [] 0 0 QQ (F0 m 5 ls []) := by
    intro n
    induction n with
    | zero => intro x3_5 x4_5 w ls h; exact absurd (show none = some w from h) nofun
    | succ n ih =>
      intro x3_5 x4_5 w ls h hl K
      rw [L_X8_unlikeCells_5] at h
      refine lv_iload hx hb dX8_unlikeCells_5 (lv_at hl 4 rfl) ?_
      refine lv_aload_n hx hb dX8_unlikeCells_7 rfl (lv_at hl 0 rfl) ?_
      refine va_get (D := (dC, dI)) (ci := 6) (v := .int v_columns) (C := RX8) (T := TX8) (N := 5) hx hb hts hi_X8 hown hK hP 0 rfl rfl 3 (by decide) (hts _ (List.mem_of_getElem? (i := 1) rfl)) (fun _ h9 => h9) rfl dX8_unlikeCells_8 ?_
      refine lv_icmp_ge (tgt := 43) hx hb dX8_unlikeCells_11 (by decide) (fun c_1808 => ?_) (fun c_1808 => ?_)
      · replace h := op c_1808 h
        have ho := Option.some.inj h
        subst ho
        exact K ls (lv_sub hl [3] rfl)
      · replace h := on c_1808 h
        refine lv_aload_n hx hb dX8_unlikeCells_14 rfl (lv_at hl 0 rfl) ?_
        refine lv_iload hx hb dX8_unlikeCells_15 (lv_at hl 4 rfl) ?_
        obtain ⟨o_1809, hr_1809, h⟩ := ob h
        refine vp_callSi (va_Run.run (va_runV (As := [.int x4_5]) (rest := []) ⟨hx, hb, hml, hown, hts⟩ (c_X8_isProper l dC dI cB cC cI cJ cZ cT h0 q_kinds q_tags q_cells v_columns v_rows v_kinds x4_5 o_1809 hr_1809) (cwV 1 hts gX8_unlikeCells_X8_isProper rfl rfl rfl (by decide +kernel) ⟨Nat.le_of_ble_eq_true rfl, Nat.le_of_ble_eq_true rfl⟩) ⟨blR, va_recv hK hP (ci := 6) (q0 := 0) rfl rfl, fun U hU hW => ⟨rfl, by rw [hU]; exact hP.sub [0, 1] rfl, va_K.moved hW.alike hK⟩⟩ rfl rfl hl.1 rfl (lv_room (Nat.le_of_ble_eq_true rfl)) dX8_unlikeCells_17 ⟨Nat.le_of_ble_eq_true rfl, Nat.le_of_ble_eq_true rfl⟩)) (fun r_1809 e_1809 => ?_)
        subst e_1809
        refine lv_if_eq (tgt := 37) hx hb dX8_unlikeCells_20 (by decide) (fun c_1811 => ?_) (fun c_1811 => ?_)
        · replace h := op c_1811 h
          refine lv_iinc (v := (x4_5 + 1)) (lv' := [(4, .int (x4_5 + 1)), (0, .ref h0), (1, .int x1), (2, .int x2), (3, .int x3_5)]) hx hb dX8_unlikeCells_37 hl (k := 4) rfl (by rfl) (by decide) rfl (fun ls hl => ?_)
          refine lv_goto (tgt := 5) hx hb dX8_unlikeCells_40 (by decide) ?_
          exact ih x3_5 (x4_5 + 1) w ls h (lv_sub hl [1, 2, 3, 4, 0] rfl) K
        · replace h := on c_1811 h
          refine lv_aload_n hx hb dX8_unlikeCells_23 rfl (lv_at hl 0 rfl) ?_
          refine lv_iload hx hb dX8_unlikeCells_24 (lv_at hl 4 rfl) ?_
          refine lv_iload_n hx hb dX8_unlikeCells_26 rfl (lv_at hl 1 rfl) ?_
          refine lv_iload_n hx hb dX8_unlikeCells_27 rfl (lv_at hl 2 rfl) ?_
          obtain ⟨o_1812, hr_1812, h⟩ := ob h
          refine vp_callSi (va_Run.run (va_runV (As := [.int x4_5, .int x1, .int x2]) (rest := []) ⟨hx, hb, hml, hown, hts⟩ (c_X8_isLike l dC dI cB cC cI cJ cZ cT h0 q_kinds q_tags q_cells v_columns v_rows v_cells x4_5 x1 x2 o_1812 hr_1812) (cwV 3 hts gX8_unlikeCells_X8_isLike rfl rfl rfl (by decide +kernel) ⟨Nat.le_of_ble_eq_true rfl, Nat.le_of_ble_eq_true rfl⟩) ⟨blR, va_recv hK hP (ci := 6) (q0 := 0) rfl rfl, fun U hU hW => ⟨rfl, by rw [hU]; exact hP.sub [0, 2] rfl, va_K.moved hW.alike hK⟩⟩ rfl rfl hl.1 rfl (lv_room (Nat.le_of_ble_eq_true rfl)) dX8_unlikeCells_28 ⟨Nat.le_of_ble_eq_true rfl, Nat.le_of_ble_eq_true rfl⟩)) (fun r_1812 e_1812 => ?_)
          subst e_1812
          refine lv_if_ne (tgt := 37) hx hb dX8_unlikeCells_31 (by decide) (fun c_1814 => ?_) (fun c_1814 => ?_)
          · replace h := on c_1814 h
            refine lv_iinc (v := (x4_5 + 1)) (lv' := [(4, .int (x4_5 + 1)), (0, .ref h0), (1, .int x1), (2, .int x2), (3, .int x3_5)]) hx hb dX8_unlikeCells_37 hl (k := 4) rfl (by rfl) (by decide) rfl (fun ls hl => ?_)
            refine lv_goto (tgt := 5) hx hb dX8_unlikeCells_40 (by decide) ?_
            exact ih x3_5 (x4_5 + 1) w ls h (lv_sub hl [1, 2, 3, 4, 0] rfl) K
          · replace h := op c_1814 h
            refine lv_iinc (v := (x3_5 + 1)) (lv' := [(3, .int (x3_5 + 1)), (0, .ref h0), (1, .int x1), (2, .int x2), (4, .int x4_5)]) hx hb dX8_unlikeCells_34 hl (k := 3) rfl (by rfl) (by decide) rfl (fun ls hl => ?_)
            refine lv_iinc (v := (x4_5 + 1)) (lv' := [(4, .int (x4_5 + 1)), (3, .int (x3_5 + 1)), (0, .ref h0), (1, .int x1), (2, .int x2)]) hx hb dX8_unlikeCells_37 hl (k := 4) rfl (by rfl) (by decide) rfl (fun ls hl => ?_)
            refine lv_goto (tgt := 5) hx hb dX8_unlikeCells_40 (by decide) ?_
            exact ih (x3_5 + 1) (x4_5 + 1) w ls h (lv_sub hl [2, 3, 4, 1, 0] rfl) K
  obtain ⟨w_1815, hw_1815, h⟩ := ob h
  refine LP_1815 fu (0 : Int32) (0 : Int32) w_1815 ls hw_1815 (lv_sub hl [2, 3, 4, 1, 0] rfl) (fun ls hl => ?_)
  refine lv_iload_n hx hb dX8_unlikeCells_43 rfl (lv_at hl 0 rfl) ?_
  rw [hQQ]
  exact W.iret hx hb hr (fun t ht hW => ⟨_, rfl, (Option.some.inj h).symm, ht⟩) (fun q hq => absurd hq List.not_mem_nil) dX8_unlikeCells_44
def f_X8_become (v_kinds : Nat → Int32) (v_tags : Nat → Int32) (v_cells : Nat → Int64) (v_p1_columns : Int32) (v_p1_rows : Int32) (v_p1_kinds : Nat → Int32) (v_p1_tags : Nat → Int32) (v_p1_cells : Nat → Int64) : Option (Int32 × Int32 × (Nat → Int32) × (Nat → Int32) × (Nat → Int64)) :=
  (some (v_p1_columns, v_p1_rows, (va_cpy v_p1_kinds v_kinds ((0 : Int32)).toNatClampNeg ((0 : Int32)).toNatClampNeg ((6 : Int32)).toNatClampNeg), (va_cpy v_p1_tags v_tags ((0 : Int32)).toNatClampNeg ((0 : Int32)).toNatClampNeg ((16 : Int32)).toNatClampNeg), (va_cpy v_p1_cells v_cells ((0 : Int32)).toNatClampNeg ((0 : Int32)).toNatClampNeg ((96 : Int32)).toNatClampNeg)))
abbrev rm_X8_become : Room := { frames := 1, cells := 0, slots := 0, locals := 26 }
set_option maxHeartbeats 4000000 in
set_option maxRecDepth 100000 in
theorem c_X8_become (l : Launch) (dC : Nat → ClassId) (dI : Nat → Nat → Nat) (cB cC cI cJ cZ cT : ClassId) (h0 q_kinds q_tags q_cells q_p1 q_p1_kinds q_p1_tags q_p1_cells : Nat) (sz : Nat) (v_columns : Int32) (v_rows : Int32) (v_kinds : Nat → Int32) (v_tags : Nat → Int32) (v_cells : Nat → Int64) (v_p1_columns : Int32) (v_p1_rows : Int32) (v_p1_kinds : Nat → Int32) (v_p1_tags : Nat → Int32) (v_p1_cells : Nat → Int64) (o : (Int32 × Int32 × (Nat → Int32) × (Nat → Int32) × (Nat → Int64))) (hf : f_X8_become v_kinds v_tags v_cells v_p1_columns v_p1_rows v_p1_kinds v_p1_tags v_p1_cells = some o) : Met l yX8_become wsX8_become rm_X8_become (va_Pc [.ref h0, .ref q_p1] (fun U => U.heap.size = sz ∧ va_P (dC, dI) vwCl [(h0, .inr (6, [.ref q_kinds, .ref q_tags, .ref q_cells, .int v_columns, .int v_rows])), (q_kinds, .inl (cI, 6, .inl v_kinds)), (q_tags, .inl (cI, 16, .inl v_tags)), (q_cells, .inl (cJ, 96, .inr (.inl v_cells))), (q_p1, .inr (6, [.ref q_p1_kinds, .ref q_p1_tags, .ref q_p1_cells, .int v_p1_columns, .int v_p1_rows])), (q_p1_kinds, .inl (cI, 6, .inl v_p1_kinds)), (q_p1_tags, .inl (cI, 16, .inl v_p1_tags)), (q_p1_cells, .inl (cJ, 96, .inr (.inl v_p1_cells)))] U.heap ∧ va_K (dC, dI) vwCl (tyA cB cC cI cJ cZ cT) U ∧ va_D (fun _ => True) [(h0, .inr (6, [.ref q_kinds, .ref q_tags, .ref q_cells, .int v_columns, .int v_rows])), (q_kinds, .inl (cI, 6, .inl v_kinds)), (q_tags, .inl (cI, 16, .inl v_tags)), (q_cells, .inl (cJ, 96, .inr (.inl v_cells))), (q_p1, .inr (6, [.ref q_p1_kinds, .ref q_p1_tags, .ref q_p1_cells, .int v_p1_columns, .int v_p1_rows])), (q_p1_kinds, .inl (cI, 6, .inl v_p1_kinds)), (q_p1_tags, .inl (cI, 16, .inl v_p1_tags)), (q_p1_cells, .inl (cJ, 96, .inr (.inl v_p1_cells)))])) (va_Qv (fun _ : Unit => True) (fun _ t => va_P (dC, dI) vwCl [(h0, .inr (6, [.ref q_kinds, .ref q_tags, .ref q_cells, .int o.1, .int o.2.1])), (q_kinds, .inl (cI, 6, .inl o.2.2.1)), (q_tags, .inl (cI, 16, .inl o.2.2.2.1)), (q_cells, .inl (cJ, 96, .inr (.inl o.2.2.2.2))), (q_p1, .inr (6, [.ref q_p1_kinds, .ref q_p1_tags, .ref q_p1_cells, .int v_p1_columns, .int v_p1_rows])), (q_p1_kinds, .inl (cI, 6, .inl v_p1_kinds)), (q_p1_tags, .inl (cI, 16, .inl v_p1_tags)), (q_p1_cells, .inl (cJ, 96, .inr (.inl v_p1_cells)))] t.heap ∧ va_K (dC, dI) vwCl (tyA cB cC cI cJ cZ cT) t ∧ va_D (va_A [(h0, .inr (6, [.ref q_kinds, .ref q_tags, .ref q_cells, .int v_columns, .int v_rows])), (q_kinds, .inl (cI, 6, .inl v_kinds)), (q_tags, .inl (cI, 16, .inl v_tags)), (q_cells, .inl (cJ, 96, .inr (.inl v_cells))), (q_p1, .inr (6, [.ref q_p1_kinds, .ref q_p1_tags, .ref q_p1_cells, .int v_p1_columns, .int v_p1_rows])), (q_p1_kinds, .inl (cI, 6, .inl v_p1_kinds)), (q_p1_tags, .inl (cI, 16, .inl v_p1_tags)), (q_p1_cells, .inl (cJ, 96, .inr (.inl v_p1_cells)))] sz) [(h0, .inr (6, [.ref q_kinds, .ref q_tags, .ref q_cells, .int o.1, .int o.2.1])), (q_kinds, .inl (cI, 6, .inl o.2.2.1)), (q_tags, .inl (cI, 16, .inl o.2.2.2.1)), (q_cells, .inl (cJ, 96, .inr (.inl o.2.2.2.2))), (q_p1, .inr (6, [.ref q_p1_kinds, .ref q_p1_tags, .ref q_p1_cells, .int v_p1_columns, .int v_p1_rows])), (q_p1_kinds, .inl (cI, 6, .inl v_p1_kinds)), (q_p1_tags, .inl (cI, 16, .inl v_p1_tags)), (q_p1_cells, .inl (cJ, 96, .inr (.inl v_p1_cells)))]) (va_A [(h0, .inr (6, [.ref q_kinds, .ref q_tags, .ref q_cells, .int v_columns, .int v_rows])), (q_kinds, .inl (cI, 6, .inl v_kinds)), (q_tags, .inl (cI, 16, .inl v_tags)), (q_cells, .inl (cJ, 96, .inr (.inl v_cells))), (q_p1, .inr (6, [.ref q_p1_kinds, .ref q_p1_tags, .ref q_p1_cells, .int v_p1_columns, .int v_p1_rows])), (q_p1_kinds, .inl (cI, 6, .inl v_p1_kinds)), (q_p1_tags, .inl (cI, 16, .inl v_p1_tags)), (q_p1_cells, .inl (cJ, 96, .inr (.inl v_p1_cells)))] sz)) 0 0 (va_A [(h0, .inr (6, [.ref q_kinds, .ref q_tags, .ref q_cells, .int v_columns, .int v_rows])), (q_kinds, .inl (cI, 6, .inl v_kinds)), (q_tags, .inl (cI, 16, .inl v_tags)), (q_cells, .inl (cJ, 96, .inr (.inl v_cells))), (q_p1, .inr (6, [.ref q_p1_kinds, .ref q_p1_tags, .ref q_p1_cells, .int v_p1_columns, .int v_p1_rows])), (q_p1_kinds, .inl (cI, 6, .inl v_p1_kinds)), (q_p1_tags, .inl (cI, 16, .inl v_p1_tags)), (q_p1_cells, .inl (cJ, 96, .inr (.inl v_p1_cells)))] sz) := by
  refine Met.ofW (cc := cX8_become) (maxL := 2) (ret := none) (by decide +kernel) rfl ?_
  intro p e s m args below meth c s₁ B hml hv
  obtain ⟨hav, hsz, hP, hK, hD0⟩ := hv
  have hx := B.exec
  have hb := B.bytes
  have hr := B.returns
  have hts := atoms_spec (ws := wsX8_become) B.pre
  have hown : s.vm.findClass RX8 = some m.cls := findClass_of_methodNamed B.named
  have hlocks := B.notSynchronized
  subst hsz
  have hD := hD0.self (sz := s.heap.size)
  generalize hAe : va_A [(h0, .inr (6, [.ref q_kinds, .ref q_tags, .ref q_cells, .int v_columns, .int v_rows])), (q_kinds, .inl (cI, 6, .inl v_kinds)), (q_tags, .inl (cI, 16, .inl v_tags)), (q_cells, .inl (cJ, 96, .inr (.inl v_cells))), (q_p1, .inr (6, [.ref q_p1_kinds, .ref q_p1_tags, .ref q_p1_cells, .int v_p1_columns, .int v_p1_rows])), (q_p1_kinds, .inl (cI, 6, .inl v_p1_kinds)), (q_p1_tags, .inl (cI, 16, .inl v_p1_tags)), (q_p1_cells, .inl (cJ, 96, .inr (.inl v_p1_cells)))] s.heap.size = A at hD ⊢
  have hA : ∀ q : Nat, s.heap.size ≤ q → A q := fun q h => by rw [← hAe]; exact Or.inr h
  have hS : va_S A s.heap s.heap [] := va_S.rf
  refine wstart (rm := rm_X8_become) hav (Nat.le_of_ble_eq_true rfl) (fun QQ ls hQQ hl => ?_)
  have hl : lv_has ls 2 [(0, .ref h0), (1, .ref q_p1)] := hl
  have hi_X8 : ∀ w ∈ u_ws RX8 TX8 5, w ∈ wsX8_become := by decide +kernel
  have h := hf
  unfold f_X8_become at h
  refine lv_aload_n hx hb dX8_become_0 rfl (lv_at hl 1 rfl) ?_
  refine va_get (D := (dC, dI)) (ci := 6) (v := .ref q_p1_kinds) (C := RX8) (T := TX8) (N := 5) hx hb hts hi_X8 hown hK hP 4 rfl rfl 0 (by decide) (hts _ (List.mem_of_getElem? (i := 1) rfl)) (fun _ h9 => h9) rfl dX8_become_1 ?_
  refine lv_iconst (v := 0) hx hb dX8_become_4 (by decide) ?_
  refine lv_aload_n hx hb dX8_become_5 rfl (lv_at hl 0 rfl) ?_
  refine va_get (D := (dC, dI)) (ci := 6) (v := .ref q_kinds) (C := RX8) (T := TX8) (N := 5) hx hb hts hi_X8 hown hK hP 0 rfl rfl 0 (by decide) (hts _ (List.mem_of_getElem? (i := 1) rfl)) (fun _ h9 => h9) rfl dX8_become_6 ?_
  refine lv_iconst (v := 0) hx hb dX8_become_9 (by decide) ?_
  refine lv_bipush (v := 6) hx hb dX8_become_10 (by decide) ?_
  refine va_copyi (ty := .int) hx hb (hml.trans hl.1.symm) hown (hts _ (List.mem_of_getElem? (i := 2) rfl)) (hts _ (List.mem_of_getElem? (i := 3) rfl)) (hts _ (List.mem_of_getElem? (i := 4) rfl)) (hts _ (List.mem_of_getElem? (i := 5) rfl)) hK hP hD hS 5 1 0 0 rfl rfl rfl rfl rfl (by decide) (by decide) (by decide) (by decide) (by decide) (fun _ _ => rfl) (Nat.le_of_ble_eq_true rfl) (Nat.le_of_ble_eq_true rfl) dX8_become_12 (fun H locs hP hD hS => ?_)
  replace hP : va_P (dC, dI) vwCl [(h0, .inr (6, [.ref q_kinds, .ref q_tags, .ref q_cells, .int v_columns, .int v_rows])), (q_kinds, .inl (cI, 6, .inl (va_cpy v_p1_kinds v_kinds ((0 : Int32)).toNatClampNeg ((0 : Int32)).toNatClampNeg ((6 : Int32)).toNatClampNeg))), (q_tags, .inl (cI, 16, .inl v_tags)), (q_cells, .inl (cJ, 96, .inr (.inl v_cells))), (q_p1, .inr (6, [.ref q_p1_kinds, .ref q_p1_tags, .ref q_p1_cells, .int v_p1_columns, .int v_p1_rows])), (q_p1_kinds, .inl (cI, 6, .inl v_p1_kinds)), (q_p1_tags, .inl (cI, 16, .inl v_p1_tags)), (q_p1_cells, .inl (cJ, 96, .inr (.inl v_p1_cells)))] H := hP
  replace hD : va_D A [(h0, .inr (6, [.ref q_kinds, .ref q_tags, .ref q_cells, .int v_columns, .int v_rows])), (q_kinds, .inl (cI, 6, .inl (va_cpy v_p1_kinds v_kinds ((0 : Int32)).toNatClampNeg ((0 : Int32)).toNatClampNeg ((6 : Int32)).toNatClampNeg))), (q_tags, .inl (cI, 16, .inl v_tags)), (q_cells, .inl (cJ, 96, .inr (.inl v_cells))), (q_p1, .inr (6, [.ref q_p1_kinds, .ref q_p1_tags, .ref q_p1_cells, .int v_p1_columns, .int v_p1_rows])), (q_p1_kinds, .inl (cI, 6, .inl v_p1_kinds)), (q_p1_tags, .inl (cI, 16, .inl v_p1_tags)), (q_p1_cells, .inl (cJ, 96, .inr (.inl v_p1_cells)))] := hD
  refine lv_aload_n hx hb dX8_become_15 rfl (lv_at hl 1 rfl) ?_
  refine va_get (D := (dC, dI)) (ci := 6) (v := .ref q_p1_tags) (C := RX8) (T := TX8) (N := 5) hx hb hts hi_X8 hown hK hP 4 rfl rfl 1 (by decide) (hts _ (List.mem_of_getElem? (i := 6) rfl)) (fun _ h9 => h9) rfl dX8_become_16 ?_
  refine lv_iconst (v := 0) hx hb dX8_become_19 (by decide) ?_
  refine lv_aload_n hx hb dX8_become_20 rfl (lv_at hl 0 rfl) ?_
  refine va_get (D := (dC, dI)) (ci := 6) (v := .ref q_tags) (C := RX8) (T := TX8) (N := 5) hx hb hts hi_X8 hown hK hP 0 rfl rfl 1 (by decide) (hts _ (List.mem_of_getElem? (i := 6) rfl)) (fun _ h9 => h9) rfl dX8_become_21 ?_
  refine lv_iconst (v := 0) hx hb dX8_become_24 (by decide) ?_
  refine lv_bipush (v := 16) hx hb dX8_become_25 (by decide) ?_
  refine va_copyi (ty := .int) hx hb (hml.trans hl.1.symm) hown (hts _ (List.mem_of_getElem? (i := 2) rfl)) (hts _ (List.mem_of_getElem? (i := 3) rfl)) (hts _ (List.mem_of_getElem? (i := 4) rfl)) (hts _ (List.mem_of_getElem? (i := 5) rfl)) hK hP hD hS 6 2 0 0 rfl rfl rfl rfl rfl (by decide) (by decide) (by decide) (by decide) (by decide) (fun _ _ => rfl) (Nat.le_of_ble_eq_true rfl) (Nat.le_of_ble_eq_true rfl) dX8_become_27 (fun H locs hP hD hS => ?_)
  replace hP : va_P (dC, dI) vwCl [(h0, .inr (6, [.ref q_kinds, .ref q_tags, .ref q_cells, .int v_columns, .int v_rows])), (q_kinds, .inl (cI, 6, .inl (va_cpy v_p1_kinds v_kinds ((0 : Int32)).toNatClampNeg ((0 : Int32)).toNatClampNeg ((6 : Int32)).toNatClampNeg))), (q_tags, .inl (cI, 16, .inl (va_cpy v_p1_tags v_tags ((0 : Int32)).toNatClampNeg ((0 : Int32)).toNatClampNeg ((16 : Int32)).toNatClampNeg))), (q_cells, .inl (cJ, 96, .inr (.inl v_cells))), (q_p1, .inr (6, [.ref q_p1_kinds, .ref q_p1_tags, .ref q_p1_cells, .int v_p1_columns, .int v_p1_rows])), (q_p1_kinds, .inl (cI, 6, .inl v_p1_kinds)), (q_p1_tags, .inl (cI, 16, .inl v_p1_tags)), (q_p1_cells, .inl (cJ, 96, .inr (.inl v_p1_cells)))] H := hP
  replace hD : va_D A [(h0, .inr (6, [.ref q_kinds, .ref q_tags, .ref q_cells, .int v_columns, .int v_rows])), (q_kinds, .inl (cI, 6, .inl (va_cpy v_p1_kinds v_kinds ((0 : Int32)).toNatClampNeg ((0 : Int32)).toNatClampNeg ((6 : Int32)).toNatClampNeg))), (q_tags, .inl (cI, 16, .inl (va_cpy v_p1_tags v_tags ((0 : Int32)).toNatClampNeg ((0 : Int32)).toNatClampNeg ((16 : Int32)).toNatClampNeg))), (q_cells, .inl (cJ, 96, .inr (.inl v_cells))), (q_p1, .inr (6, [.ref q_p1_kinds, .ref q_p1_tags, .ref q_p1_cells, .int v_p1_columns, .int v_p1_rows])), (q_p1_kinds, .inl (cI, 6, .inl v_p1_kinds)), (q_p1_tags, .inl (cI, 16, .inl v_p1_tags)), (q_p1_cells, .inl (cJ, 96, .inr (.inl v_p1_cells)))] := hD
  refine lv_aload_n hx hb dX8_become_30 rfl (lv_at hl 1 rfl) ?_
  refine va_get (D := (dC, dI)) (ci := 6) (v := .ref q_p1_cells) (C := RX8) (T := TX8) (N := 5) hx hb hts hi_X8 hown hK hP 4 rfl rfl 2 (by decide) (hts _ (List.mem_of_getElem? (i := 7) rfl)) (fun _ h9 => h9) rfl dX8_become_31 ?_
  refine lv_iconst (v := 0) hx hb dX8_become_34 (by decide) ?_
  refine lv_aload_n hx hb dX8_become_35 rfl (lv_at hl 0 rfl) ?_
  refine va_get (D := (dC, dI)) (ci := 6) (v := .ref q_cells) (C := RX8) (T := TX8) (N := 5) hx hb hts hi_X8 hown hK hP 0 rfl rfl 2 (by decide) (hts _ (List.mem_of_getElem? (i := 7) rfl)) (fun _ h9 => h9) rfl dX8_become_36 ?_
  refine lv_iconst (v := 0) hx hb dX8_become_39 (by decide) ?_
  refine lv_bipush (v := 96) hx hb dX8_become_40 (by decide) ?_
  refine va_copyl (ty := .long) hx hb (hml.trans hl.1.symm) hown (hts _ (List.mem_of_getElem? (i := 2) rfl)) (hts _ (List.mem_of_getElem? (i := 3) rfl)) (hts _ (List.mem_of_getElem? (i := 4) rfl)) (hts _ (List.mem_of_getElem? (i := 5) rfl)) hK hP hD hS 7 3 1 1 rfl rfl rfl rfl rfl (by decide) (by decide) (by decide) (by decide) (by decide) (fun _ _ => rfl) (Nat.le_of_ble_eq_true rfl) (Nat.le_of_ble_eq_true rfl) dX8_become_42 (fun H locs hP hD hS => ?_)
  replace hP : va_P (dC, dI) vwCl [(h0, .inr (6, [.ref q_kinds, .ref q_tags, .ref q_cells, .int v_columns, .int v_rows])), (q_kinds, .inl (cI, 6, .inl (va_cpy v_p1_kinds v_kinds ((0 : Int32)).toNatClampNeg ((0 : Int32)).toNatClampNeg ((6 : Int32)).toNatClampNeg))), (q_tags, .inl (cI, 16, .inl (va_cpy v_p1_tags v_tags ((0 : Int32)).toNatClampNeg ((0 : Int32)).toNatClampNeg ((16 : Int32)).toNatClampNeg))), (q_cells, .inl (cJ, 96, .inr (.inl (va_cpy v_p1_cells v_cells ((0 : Int32)).toNatClampNeg ((0 : Int32)).toNatClampNeg ((96 : Int32)).toNatClampNeg)))), (q_p1, .inr (6, [.ref q_p1_kinds, .ref q_p1_tags, .ref q_p1_cells, .int v_p1_columns, .int v_p1_rows])), (q_p1_kinds, .inl (cI, 6, .inl v_p1_kinds)), (q_p1_tags, .inl (cI, 16, .inl v_p1_tags)), (q_p1_cells, .inl (cJ, 96, .inr (.inl v_p1_cells)))] H := hP
  replace hD : va_D A [(h0, .inr (6, [.ref q_kinds, .ref q_tags, .ref q_cells, .int v_columns, .int v_rows])), (q_kinds, .inl (cI, 6, .inl (va_cpy v_p1_kinds v_kinds ((0 : Int32)).toNatClampNeg ((0 : Int32)).toNatClampNeg ((6 : Int32)).toNatClampNeg))), (q_tags, .inl (cI, 16, .inl (va_cpy v_p1_tags v_tags ((0 : Int32)).toNatClampNeg ((0 : Int32)).toNatClampNeg ((16 : Int32)).toNatClampNeg))), (q_cells, .inl (cJ, 96, .inr (.inl (va_cpy v_p1_cells v_cells ((0 : Int32)).toNatClampNeg ((0 : Int32)).toNatClampNeg ((96 : Int32)).toNatClampNeg)))), (q_p1, .inr (6, [.ref q_p1_kinds, .ref q_p1_tags, .ref q_p1_cells, .int v_p1_columns, .int v_p1_rows])), (q_p1_kinds, .inl (cI, 6, .inl v_p1_kinds)), (q_p1_tags, .inl (cI, 16, .inl v_p1_tags)), (q_p1_cells, .inl (cJ, 96, .inr (.inl v_p1_cells)))] := hD
  refine lv_aload_n hx hb dX8_become_45 rfl (lv_at hl 0 rfl) ?_
  refine lv_aload_n hx hb dX8_become_46 rfl (lv_at hl 1 rfl) ?_
  refine va_get (D := (dC, dI)) (ci := 6) (v := .int v_p1_columns) (C := RX8) (T := TX8) (N := 5) hx hb hts hi_X8 hown hK hP 4 rfl rfl 3 (by decide) (hts _ (List.mem_of_getElem? (i := 8) rfl)) (fun _ h9 => h9) rfl dX8_become_47 ?_
  refine va_put (D := (dC, dI)) (ci := 6) (v := .int v_p1_columns) (ty := .int) (C := RX8) (T := TX8) (N := 5) hx hb hts hi_X8 tyX8 tyX8_ok nmX8 hown hK hP hD hS 0 rfl rfl 3 (by decide) (hts _ (List.mem_of_getElem? (i := 8) rfl)) (fun _ h9 => h9) rfl (by decide +kernel) rfl rfl (Nat.le_of_ble_eq_true rfl) dX8_become_50 (fun H locs hP hD hS => ?_)
  replace hP : va_P (dC, dI) vwCl [(h0, .inr (6, [.ref q_kinds, .ref q_tags, .ref q_cells, .int v_p1_columns, .int v_rows])), (q_kinds, .inl (cI, 6, .inl (va_cpy v_p1_kinds v_kinds ((0 : Int32)).toNatClampNeg ((0 : Int32)).toNatClampNeg ((6 : Int32)).toNatClampNeg))), (q_tags, .inl (cI, 16, .inl (va_cpy v_p1_tags v_tags ((0 : Int32)).toNatClampNeg ((0 : Int32)).toNatClampNeg ((16 : Int32)).toNatClampNeg))), (q_cells, .inl (cJ, 96, .inr (.inl (va_cpy v_p1_cells v_cells ((0 : Int32)).toNatClampNeg ((0 : Int32)).toNatClampNeg ((96 : Int32)).toNatClampNeg)))), (q_p1, .inr (6, [.ref q_p1_kinds, .ref q_p1_tags, .ref q_p1_cells, .int v_p1_columns, .int v_p1_rows])), (q_p1_kinds, .inl (cI, 6, .inl v_p1_kinds)), (q_p1_tags, .inl (cI, 16, .inl v_p1_tags)), (q_p1_cells, .inl (cJ, 96, .inr (.inl v_p1_cells)))] H := hP
  replace hD : va_D A [(h0, .inr (6, [.ref q_kinds, .ref q_tags, .ref q_cells, .int v_p1_columns, .int v_rows])), (q_kinds, .inl (cI, 6, .inl (va_cpy v_p1_kinds v_kinds ((0 : Int32)).toNatClampNeg ((0 : Int32)).toNatClampNeg ((6 : Int32)).toNatClampNeg))), (q_tags, .inl (cI, 16, .inl (va_cpy v_p1_tags v_tags ((0 : Int32)).toNatClampNeg ((0 : Int32)).toNatClampNeg ((16 : Int32)).toNatClampNeg))), (q_cells, .inl (cJ, 96, .inr (.inl (va_cpy v_p1_cells v_cells ((0 : Int32)).toNatClampNeg ((0 : Int32)).toNatClampNeg ((96 : Int32)).toNatClampNeg)))), (q_p1, .inr (6, [.ref q_p1_kinds, .ref q_p1_tags, .ref q_p1_cells, .int v_p1_columns, .int v_p1_rows])), (q_p1_kinds, .inl (cI, 6, .inl v_p1_kinds)), (q_p1_tags, .inl (cI, 16, .inl v_p1_tags)), (q_p1_cells, .inl (cJ, 96, .inr (.inl v_p1_cells)))] := hD
  refine lv_aload_n hx hb dX8_become_53 rfl (lv_at hl 0 rfl) ?_
  refine lv_aload_n hx hb dX8_become_54 rfl (lv_at hl 1 rfl) ?_
  refine va_get (D := (dC, dI)) (ci := 6) (v := .int v_p1_rows) (C := RX8) (T := TX8) (N := 5) hx hb hts hi_X8 hown hK hP 4 rfl rfl 4 (by decide) (hts _ (List.mem_of_getElem? (i := 9) rfl)) (fun _ h9 => h9) rfl dX8_become_55 ?_
  refine va_put (D := (dC, dI)) (ci := 6) (v := .int v_p1_rows) (ty := .int) (C := RX8) (T := TX8) (N := 5) hx hb hts hi_X8 tyX8 tyX8_ok nmX8 hown hK hP hD hS 0 rfl rfl 4 (by decide) (hts _ (List.mem_of_getElem? (i := 9) rfl)) (fun _ h9 => h9) rfl (by decide +kernel) rfl rfl (Nat.le_of_ble_eq_true rfl) dX8_become_58 (fun H locs hP hD hS => ?_)
  replace hP : va_P (dC, dI) vwCl [(h0, .inr (6, [.ref q_kinds, .ref q_tags, .ref q_cells, .int v_p1_columns, .int v_p1_rows])), (q_kinds, .inl (cI, 6, .inl (va_cpy v_p1_kinds v_kinds ((0 : Int32)).toNatClampNeg ((0 : Int32)).toNatClampNeg ((6 : Int32)).toNatClampNeg))), (q_tags, .inl (cI, 16, .inl (va_cpy v_p1_tags v_tags ((0 : Int32)).toNatClampNeg ((0 : Int32)).toNatClampNeg ((16 : Int32)).toNatClampNeg))), (q_cells, .inl (cJ, 96, .inr (.inl (va_cpy v_p1_cells v_cells ((0 : Int32)).toNatClampNeg ((0 : Int32)).toNatClampNeg ((96 : Int32)).toNatClampNeg)))), (q_p1, .inr (6, [.ref q_p1_kinds, .ref q_p1_tags, .ref q_p1_cells, .int v_p1_columns, .int v_p1_rows])), (q_p1_kinds, .inl (cI, 6, .inl v_p1_kinds)), (q_p1_tags, .inl (cI, 16, .inl v_p1_tags)), (q_p1_cells, .inl (cJ, 96, .inr (.inl v_p1_cells)))] H := hP
  replace hD : va_D A [(h0, .inr (6, [.ref q_kinds, .ref q_tags, .ref q_cells, .int v_p1_columns, .int v_p1_rows])), (q_kinds, .inl (cI, 6, .inl (va_cpy v_p1_kinds v_kinds ((0 : Int32)).toNatClampNeg ((0 : Int32)).toNatClampNeg ((6 : Int32)).toNatClampNeg))), (q_tags, .inl (cI, 16, .inl (va_cpy v_p1_tags v_tags ((0 : Int32)).toNatClampNeg ((0 : Int32)).toNatClampNeg ((16 : Int32)).toNatClampNeg))), (q_cells, .inl (cJ, 96, .inr (.inl (va_cpy v_p1_cells v_cells ((0 : Int32)).toNatClampNeg ((0 : Int32)).toNatClampNeg ((96 : Int32)).toNatClampNeg)))), (q_p1, .inr (6, [.ref q_p1_kinds, .ref q_p1_tags, .ref q_p1_cells, .int v_p1_columns, .int v_p1_rows])), (q_p1_kinds, .inl (cI, 6, .inl v_p1_kinds)), (q_p1_tags, .inl (cI, 16, .inl v_p1_tags)), (q_p1_cells, .inl (cJ, 96, .inr (.inl v_p1_cells)))] := hD
  rw [hQQ]
  have ho := Option.some.inj h
  subst ho
  exact W.vret hx hb hr (fun t ht hW => ⟨⟨(), rfl, trivial, by rw [ht]; exact hP, va_K.moved hW.alike hK, hD⟩, hS.F ht⟩) hS.2.2 dX8_become_61
def L_X8_begin_68 (x2_21 : Int32) (v_1830 : Int64) : Nat → Int32 → (Nat → Int64) → Option (Nat → Int64)
  | 0, _, _ => none
  | n+1, x5_68, v_cells_68 => (if (16 : Int32) ≤ x5_68 then (some v_cells_68) else (if ((x2_21 * (16 : Int32)) + x5_68) < 0 ∨ 96 ≤ (((x2_21 * (16 : Int32)) + x5_68)).toNatClampNeg then none else (L_X8_begin_68 x2_21 v_1830 n (x5_68 + 1) (vp_updL v_cells_68 (((x2_21 * (16 : Int32)) + x5_68)).toNatClampNeg v_1830))))
def L_X8_begin_21 (v_p1_size : Int32) (v_p1_signs : (Nat → Int32)) : Nat → Int32 → (Nat → Int32) → (Nat → Int64) → Option ((Nat → Int32) × (Nat → Int64))
  | 0, _, _, _ => none
  | n+1, x2_21, v_kinds_21, v_cells_21 => (if (v_p1_size - (2 : Int32)) ≤ x2_21 then (some (v_kinds_21, v_cells_21)) else ((f_X7_signAt v_p1_size v_p1_signs (x2_21 + (2 : Int32))).bind (fun o_1822 => ((f_X3_ofLetter o_1822).bind (fun o_1824 => (if x2_21 < 0 ∨ 6 ≤ (x2_21).toNatClampNeg then none else (if x2_21 < 0 ∨ 6 ≤ (x2_21).toNatClampNeg then none else ((f_X3_mayBeNothing ((upd v_kinds_21 (x2_21).toNatClampNeg o_1824) (x2_21).toNatClampNeg)).bind (fun o_1828 => (((if (b2i o_1828) = 0 then (some (0 : Int64)) else (some (-9223372036854775808 : Int64)))).bind (fun v_1830 => ((L_X8_begin_68 x2_21 v_1830 fu (0 : Int32) v_cells_21).bind (fun w_1835 => (L_X8_begin_21 v_p1_size v_p1_signs n (x2_21 + 1) (upd v_kinds_21 (x2_21).toNatClampNeg o_1824) w_1835))))))))))))))
def L_X8_begin_102  : Nat → Int32 → (Nat → Int32) → Option (Nat → Int32)
  | 0, _, _ => none
  | n+1, x2_102, v_tags_102 => (if (16 : Int32) ≤ x2_102 then (some v_tags_102) else (if x2_102 < 0 ∨ 16 ≤ (x2_102).toNatClampNeg then none else (L_X8_begin_102 n (x2_102 + 1) (upd v_tags_102 (x2_102).toNatClampNeg x2_102))))
def f_X8_begin (v_kinds : Nat → Int32) (v_tags : Nat → Int32) (v_cells : Nat → Int64) (v_p1_size : Int32) (v_p1_signs : Nat → Int32) : Option (Int32 × Int32 × (Nat → Int32) × (Nat → Int32) × (Nat → Int64)) :=
  ((f_X7_twoDigitsAt v_p1_size v_p1_signs (0 : Int32)).bind (fun o_1819 => ((L_X8_begin_21 v_p1_size v_p1_signs fu (0 : Int32) v_kinds v_cells).bind (fun w_1836 => ((L_X8_begin_102 fu (0 : Int32) v_tags).bind (fun w_1839 => (some ((v_p1_size - (2 : Int32)), o_1819, w_1836.1, w_1839, w_1836.2))))))))
abbrev rm_X8_begin : Room := { frames := 5, cells := 0, slots := 0, locals := 111 }
set_option maxHeartbeats 4000000 in
set_option maxRecDepth 100000 in
theorem c_X8_begin (l : Launch) (dC : Nat → ClassId) (dI : Nat → Nat → Nat) (cB cC cI cJ cZ cT : ClassId) (h0 q_kinds q_tags q_cells q_p1 q_p1_signs : Nat) (sz : Nat) (v_columns : Int32) (v_rows : Int32) (v_kinds : Nat → Int32) (v_tags : Nat → Int32) (v_cells : Nat → Int64) (v_p1_size : Int32) (v_p1_signs : Nat → Int32) (o : (Int32 × Int32 × (Nat → Int32) × (Nat → Int32) × (Nat → Int64))) (hf : f_X8_begin v_kinds v_tags v_cells v_p1_size v_p1_signs = some o) : Met l yX8_begin wsX8_begin rm_X8_begin (va_Pc [.ref h0, .ref q_p1] (fun U => U.heap.size = sz ∧ va_P (dC, dI) vwCl [(h0, .inr (6, [.ref q_kinds, .ref q_tags, .ref q_cells, .int v_columns, .int v_rows])), (q_kinds, .inl (cI, 6, .inl v_kinds)), (q_tags, .inl (cI, 16, .inl v_tags)), (q_cells, .inl (cJ, 96, .inr (.inl v_cells))), (q_p1, .inr (5, [.ref q_p1_signs, .int v_p1_size])), (q_p1_signs, .inl (cC, 80, .inl v_p1_signs))] U.heap ∧ va_K (dC, dI) vwCl (tyA cB cC cI cJ cZ cT) U ∧ va_D (fun _ => True) [(h0, .inr (6, [.ref q_kinds, .ref q_tags, .ref q_cells, .int v_columns, .int v_rows])), (q_kinds, .inl (cI, 6, .inl v_kinds)), (q_tags, .inl (cI, 16, .inl v_tags)), (q_cells, .inl (cJ, 96, .inr (.inl v_cells))), (q_p1, .inr (5, [.ref q_p1_signs, .int v_p1_size])), (q_p1_signs, .inl (cC, 80, .inl v_p1_signs))] ∧ SX (va_A [(h0, .inr (6, [.ref q_kinds, .ref q_tags, .ref q_cells, .int v_columns, .int v_rows])), (q_kinds, .inl (cI, 6, .inl v_kinds)), (q_tags, .inl (cI, 16, .inl v_tags)), (q_cells, .inl (cJ, 96, .inr (.inl v_cells))), (q_p1, .inr (5, [.ref q_p1_signs, .int v_p1_size])), (q_p1_signs, .inl (cC, 80, .inl v_p1_signs))] sz) U U.heap)) (va_Qv (fun _ : Unit => True) (fun _ t => va_P (dC, dI) vwCl [(h0, .inr (6, [.ref q_kinds, .ref q_tags, .ref q_cells, .int o.1, .int o.2.1])), (q_kinds, .inl (cI, 6, .inl o.2.2.1)), (q_tags, .inl (cI, 16, .inl o.2.2.2.1)), (q_cells, .inl (cJ, 96, .inr (.inl o.2.2.2.2))), (q_p1, .inr (5, [.ref q_p1_signs, .int v_p1_size])), (q_p1_signs, .inl (cC, 80, .inl v_p1_signs))] t.heap ∧ va_K (dC, dI) vwCl (tyA cB cC cI cJ cZ cT) t ∧ va_D (va_A [(h0, .inr (6, [.ref q_kinds, .ref q_tags, .ref q_cells, .int v_columns, .int v_rows])), (q_kinds, .inl (cI, 6, .inl v_kinds)), (q_tags, .inl (cI, 16, .inl v_tags)), (q_cells, .inl (cJ, 96, .inr (.inl v_cells))), (q_p1, .inr (5, [.ref q_p1_signs, .int v_p1_size])), (q_p1_signs, .inl (cC, 80, .inl v_p1_signs))] sz) [(h0, .inr (6, [.ref q_kinds, .ref q_tags, .ref q_cells, .int o.1, .int o.2.1])), (q_kinds, .inl (cI, 6, .inl o.2.2.1)), (q_tags, .inl (cI, 16, .inl o.2.2.2.1)), (q_cells, .inl (cJ, 96, .inr (.inl o.2.2.2.2))), (q_p1, .inr (5, [.ref q_p1_signs, .int v_p1_size])), (q_p1_signs, .inl (cC, 80, .inl v_p1_signs))]) (va_A [(h0, .inr (6, [.ref q_kinds, .ref q_tags, .ref q_cells, .int v_columns, .int v_rows])), (q_kinds, .inl (cI, 6, .inl v_kinds)), (q_tags, .inl (cI, 16, .inl v_tags)), (q_cells, .inl (cJ, 96, .inr (.inl v_cells))), (q_p1, .inr (5, [.ref q_p1_signs, .int v_p1_size])), (q_p1_signs, .inl (cC, 80, .inl v_p1_signs))] sz)) 0 0 (va_A [(h0, .inr (6, [.ref q_kinds, .ref q_tags, .ref q_cells, .int v_columns, .int v_rows])), (q_kinds, .inl (cI, 6, .inl v_kinds)), (q_tags, .inl (cI, 16, .inl v_tags)), (q_cells, .inl (cJ, 96, .inr (.inl v_cells))), (q_p1, .inr (5, [.ref q_p1_signs, .int v_p1_size])), (q_p1_signs, .inl (cC, 80, .inl v_p1_signs))] sz) := by
  refine Met.ofW (cc := cX8_begin) (maxL := 6) (ret := none) (by decide +kernel) rfl ?_
  intro p e s m args below meth c s₁ B hml hv
  obtain ⟨hav, hsz, hP, hK, hD0, hX⟩ := hv
  have hx := B.exec
  have hb := B.bytes
  have hr := B.returns
  have hts := atoms_spec (ws := wsX8_begin) B.pre
  have hown : s.vm.findClass RX8 = some m.cls := findClass_of_methodNamed B.named
  have hlocks := B.notSynchronized
  subst hsz
  have hD := hD0.self (sz := s.heap.size)
  generalize hAe : va_A [(h0, .inr (6, [.ref q_kinds, .ref q_tags, .ref q_cells, .int v_columns, .int v_rows])), (q_kinds, .inl (cI, 6, .inl v_kinds)), (q_tags, .inl (cI, 16, .inl v_tags)), (q_cells, .inl (cJ, 96, .inr (.inl v_cells))), (q_p1, .inr (5, [.ref q_p1_signs, .int v_p1_size])), (q_p1_signs, .inl (cC, 80, .inl v_p1_signs))] s.heap.size = A at hD hX ⊢
  have hA : ∀ q : Nat, s.heap.size ≤ q → A q := fun q h => by rw [← hAe]; exact Or.inr h
  have hS : va_S A s.heap s.heap [] := va_S.rf
  refine wstart (rm := rm_X8_begin) hav (Nat.le_of_ble_eq_true rfl) (fun QQ ls hQQ hl => ?_)
  have hl : lv_has ls 6 [(0, .ref h0), (1, .ref q_p1)] := hl
  have hi_X7 : ∀ w ∈ u_ws RX7 TX7 2, w ∈ wsX8_begin := by decide +kernel
  have hi_X8 : ∀ w ∈ u_ws RX8 TX8 5, w ∈ wsX8_begin := by decide +kernel
  have h := hf
  unfold f_X8_begin at h
  refine lv_aload_n hx hb dX8_begin_0 rfl (lv_at hl 0 rfl) ?_
  refine lv_aload_n hx hb dX8_begin_1 rfl (lv_at hl 1 rfl) ?_
  refine lv_iconst (v := 0) hx hb dX8_begin_2 (by decide) ?_
  obtain ⟨o_1819, hr_1819, h⟩ := ob h
  refine vp_callSi (va_Run.run (va_runV (As := [.int (0 : Int32)]) (rest := [.ref h0]) ⟨hx, hb, hml, hown, hts⟩ (c_X7_twoDigitsAt l dC dI cB cC cI cJ cZ cT q_p1 q_p1_signs v_p1_size v_p1_signs (0 : Int32) o_1819 hr_1819) (cwV 1 hts gX8_begin_X7_twoDigitsAt rfl rfl rfl (by decide +kernel) ⟨Nat.le_of_ble_eq_true rfl, Nat.le_of_ble_eq_true rfl⟩) ⟨blR, va_recv hK hP (ci := 5) (q0 := 4) rfl rfl, fun U hU hW => ⟨rfl, by rw [hU]; exact hP.sub [4, 5] rfl, va_K.moved hW.alike hK⟩⟩ rfl rfl hl.1 rfl (lv_room (Nat.le_of_ble_eq_true rfl)) dX8_begin_3 ⟨Nat.le_of_ble_eq_true rfl, Nat.le_of_ble_eq_true rfl⟩)) (fun r_1819 e_1819 => ?_)
  subst e_1819
  refine va_put (D := (dC, dI)) (ci := 6) (v := .int o_1819) (ty := .int) (C := RX8) (T := TX8) (N := 5) hx hb hts hi_X8 tyX8 tyX8_ok nmX8 hown hK hP hD hS 0 rfl rfl 4 (by decide) (hts _ (List.mem_of_getElem? (i := 1) rfl)) (fun _ h9 => h9) rfl (by decide +kernel) rfl rfl (Nat.le_of_ble_eq_true rfl) dX8_begin_6 (fun H locs hP hD hS => ?_)
  replace hP : va_P (dC, dI) vwCl [(h0, .inr (6, [.ref q_kinds, .ref q_tags, .ref q_cells, .int v_columns, .int o_1819])), (q_kinds, .inl (cI, 6, .inl v_kinds)), (q_tags, .inl (cI, 16, .inl v_tags)), (q_cells, .inl (cJ, 96, .inr (.inl v_cells))), (q_p1, .inr (5, [.ref q_p1_signs, .int v_p1_size])), (q_p1_signs, .inl (cC, 80, .inl v_p1_signs))] H := hP
  replace hD : va_D A [(h0, .inr (6, [.ref q_kinds, .ref q_tags, .ref q_cells, .int v_columns, .int o_1819])), (q_kinds, .inl (cI, 6, .inl v_kinds)), (q_tags, .inl (cI, 16, .inl v_tags)), (q_cells, .inl (cJ, 96, .inr (.inl v_cells))), (q_p1, .inr (5, [.ref q_p1_signs, .int v_p1_size])), (q_p1_signs, .inl (cC, 80, .inl v_p1_signs))] := hD
  refine lv_aload_n hx hb dX8_begin_9 rfl (lv_at hl 0 rfl) ?_
  refine lv_aload_n hx hb dX8_begin_10 rfl (lv_at hl 1 rfl) ?_
  refine va_get (D := (dC, dI)) (ci := 5) (v := .int v_p1_size) (C := RX7) (T := TX7) (N := 2) hx hb hts hi_X7 hown hK hP 4 rfl rfl 1 (by decide) (hts _ (List.mem_of_getElem? (i := 2) rfl)) (fun _ h9 => h9) rfl dX8_begin_11 ?_
  refine lv_iconst (v := 2) hx hb dX8_begin_14 (by decide) ?_
  refine lv_isub hx hb dX8_begin_15 ?_
  refine va_put (D := (dC, dI)) (ci := 6) (v := .int (v_p1_size - (2 : Int32))) (ty := .int) (C := RX8) (T := TX8) (N := 5) hx hb hts hi_X8 tyX8 tyX8_ok nmX8 hown hK hP hD hS 0 rfl rfl 3 (by decide) (hts _ (List.mem_of_getElem? (i := 3) rfl)) (fun _ h9 => h9) rfl (by decide +kernel) rfl rfl (Nat.le_of_ble_eq_true rfl) dX8_begin_16 (fun H locs hP hD hS => ?_)
  replace hP : va_P (dC, dI) vwCl [(h0, .inr (6, [.ref q_kinds, .ref q_tags, .ref q_cells, .int (v_p1_size - (2 : Int32)), .int o_1819])), (q_kinds, .inl (cI, 6, .inl v_kinds)), (q_tags, .inl (cI, 16, .inl v_tags)), (q_cells, .inl (cJ, 96, .inr (.inl v_cells))), (q_p1, .inr (5, [.ref q_p1_signs, .int v_p1_size])), (q_p1_signs, .inl (cC, 80, .inl v_p1_signs))] H := hP
  replace hD : va_D A [(h0, .inr (6, [.ref q_kinds, .ref q_tags, .ref q_cells, .int (v_p1_size - (2 : Int32)), .int o_1819])), (q_kinds, .inl (cI, 6, .inl v_kinds)), (q_tags, .inl (cI, 16, .inl v_tags)), (q_cells, .inl (cJ, 96, .inr (.inl v_cells))), (q_p1, .inr (5, [.ref q_p1_signs, .int v_p1_size])), (q_p1_signs, .inl (cC, 80, .inl v_p1_signs))] := hD
  refine lv_iconst (v := 0) hx hb dX8_begin_19 (by decide) ?_
  refine lv_istore_n (lv' := [(2, .int (0 : Int32)), (0, .ref h0), (1, .ref q_p1)]) hx hb dX8_begin_20 rfl hl (by decide) rfl (fun ls hl => ?_)
  have LP_1836 : ∀ (n : Nat) (x2_21 : Int32) (v_kinds_21 : (Nat → Int32)) (v_cells_21 : (Nat → Int64)) (w : ((Nat → Int32) × (Nat → Int64))) (H : Heap) (locs : List Loc) (ls : Array Slot), L_X8_begin_21 v_p1_size v_p1_signs n x2_21 v_kinds_21 v_cells_21 = some w → va_P (dC, dI) vwCl [(h0, .inr (6, [.ref q_kinds, .ref q_tags, .ref q_cells, .int (v_p1_size - (2 : Int32)), .int o_1819])), (q_kinds, .inl (cI, 6, .inl v_kinds_21)), (q_tags, .inl (cI, 16, .inl v_tags)), (q_cells, .inl (cJ, 96, .inr (.inl v_cells_21))), (q_p1, .inr (5, [.ref q_p1_signs, .int v_p1_size])), (q_p1_signs, .inl (cC, 80, .inl v_p1_signs))] H → va_D A [(h0, .inr (6, [.ref q_kinds, .ref q_tags, .ref q_cells, .int (v_p1_size - (2 : Int32)), .int o_1819])), (q_kinds, .inl (cI, 6, .inl v_kinds_21)), (q_tags, .inl (cI, 16, .inl v_tags)), (q_cells, .inl (cJ, 96, .inr (.inl v_cells_21))), (q_p1, .inr (5, [.ref q_p1_signs, .int v_p1_size])), (q_p1_signs, .inl (cC, 80, .inl v_p1_signs))] → va_S A s.heap H locs → lv_has ls 6 [(0, .ref h0), (1, .ref q_p1), (2, .int x2_21)] → (∀ (H : Heap) (locs : List Loc) (ls : Array Slot), va_P (dC, dI) vwCl [(h0, .inr (6, [.ref q_kinds, .ref q_tags, .ref q_cells, .int (v_p1_size - (2 : Int32)), .int o_1819])), (q_kinds, .inl (cI, 6, .inl w.1)), (q_tags, .inl (cI, 16, .inl v_tags)), (q_cells, .inl (cJ, 96, .inr (.inl w.2))), (q_p1, .inr (5, [.ref q_p1_signs, .int v_p1_size])), (q_p1_signs, .inl (cC, 80, .inl v_p1_signs))] H → va_D A [(h0, .inr (6, [.ref q_kinds, .ref q_tags, .ref q_cells, .int (v_p1_size - (2 : Int32)), .int o_1819])), (q_kinds, .inl (cI, 6, .inl w.1)), (q_tags, .inl (cI, 16, .inl v_tags)), (q_cells, .inl (cJ, 96, .inr (.inl w.2))), (q_p1, .inr (5, [.ref q_p1_signs, .int v_p1_size])), (q_p1_signs, .inl (cC, 80, .inl v_p1_signs))] → va_S A s.heap H locs → lv_has ls 6 [(0, .ref h0)] → W p l e rm_X8_begin s m args below meth c H locs 0 0 QQ (F0 m 100 ls [])) → W p l e rm_X8_begin s m args below meth c H locs 0 0 QQ (F0 m 21 ls []) := by
    intro n
    induction n with
    | zero => intro x2_21 v_kinds_21 v_cells_21 w H locs ls h; exact absurd (show none = some w from h) nofun
    | succ n ih =>
      intro x2_21 v_kinds_21 v_cells_21 w H locs ls h hP hD hS hl K
      rw [L_X8_begin_21] at h
      refine lv_iload_n hx hb dX8_begin_21 rfl (lv_at hl 2 rfl) ?_
      refine lv_aload_n hx hb dX8_begin_22 rfl (lv_at hl 0 rfl) ?_
      refine va_get (D := (dC, dI)) (ci := 6) (v := .int (v_p1_size - (2 : Int32))) (C := RX8) (T := TX8) (N := 5) hx hb hts hi_X8 hown hK hP 0 rfl rfl 3 (by decide) (hts _ (List.mem_of_getElem? (i := 3) rfl)) (fun _ h9 => h9) rfl dX8_begin_23 ?_
      refine lv_icmp_ge (tgt := 100) hx hb dX8_begin_26 (by decide) (fun c_1821 => ?_) (fun c_1821 => ?_)
      · replace h := op c_1821 h
        have ho := Option.some.inj h
        subst ho
        exact K H _ ls hP hD hS (lv_sub hl [0] rfl)
      · replace h := on c_1821 h
        refine lv_aload_n hx hb dX8_begin_29 rfl (lv_at hl 0 rfl) ?_
        refine va_get (D := (dC, dI)) (ci := 6) (v := .ref q_kinds) (C := RX8) (T := TX8) (N := 5) hx hb hts hi_X8 hown hK hP 0 rfl rfl 0 (by decide) (hts _ (List.mem_of_getElem? (i := 4) rfl)) (fun _ h9 => h9) rfl dX8_begin_30 ?_
        refine lv_iload_n hx hb dX8_begin_33 rfl (lv_at hl 2 rfl) ?_
        refine lv_aload_n hx hb dX8_begin_34 rfl (lv_at hl 1 rfl) ?_
        refine lv_iload_n hx hb dX8_begin_35 rfl (lv_at hl 2 rfl) ?_
        refine lv_iconst (v := 2) hx hb dX8_begin_36 (by decide) ?_
        refine lv_iadd hx hb dX8_begin_37 ?_
        obtain ⟨o_1822, hr_1822, h⟩ := ob h
        refine vp_callSi (va_Run.run (va_runV (As := [.int (x2_21 + (2 : Int32))]) (rest := [.int x2_21, .ref q_kinds]) ⟨hx, hb, hml, hown, hts⟩ (c_X7_signAt l dC dI cB cC cI cJ cZ cT q_p1 q_p1_signs v_p1_size v_p1_signs (x2_21 + (2 : Int32)) o_1822 hr_1822) (cwV 1 hts gX8_begin_X7_signAt rfl rfl rfl (by decide +kernel) ⟨Nat.le_of_ble_eq_true rfl, Nat.le_of_ble_eq_true rfl⟩) ⟨blR, va_recv hK hP (ci := 5) (q0 := 4) rfl rfl, fun U hU hW => ⟨rfl, by rw [hU]; exact hP.sub [4, 5] rfl, va_K.moved hW.alike hK⟩⟩ rfl rfl hl.1 rfl (lv_room (Nat.le_of_ble_eq_true rfl)) dX8_begin_38 ⟨Nat.le_of_ble_eq_true rfl, Nat.le_of_ble_eq_true rfl⟩)) (fun r_1822 e_1822 => ?_)
        subst e_1822
        obtain ⟨o_1824, hr_1824, h⟩ := ob h
        refine vp_callSi (va_Run.run (va_runS (As := [.int o_1822]) (rest := [.int x2_21, .ref q_kinds]) ⟨hx, hb, hml, hown, hts⟩ (c_X3_ofLetter l dC dI cB cC cI cJ cZ cT o_1822 o_1824 hr_1824) (va_cwS 1 hts gX8_begin_X3_ofLetter rfl rfl rfl (by decide +kernel) ⟨Nat.le_of_ble_eq_true rfl, Nat.le_of_ble_eq_true rfl⟩) ⟨blTX, fun U hU hW => ⟨rfl, by show SX (fun _ => False) U U.heap; rw [hU]; exact SX.use hW hS hX⟩⟩ rfl rfl hl.1 rfl (lv_room (Nat.le_of_ble_eq_true rfl)) dX8_begin_41 ⟨Nat.le_of_ble_eq_true rfl, Nat.le_of_ble_eq_true rfl⟩)) (fun r_1824 e_1824 => ?_)
        subst e_1824
        obtain ⟨hi_1826, h⟩ := og h
        refine va_iast hx hb hK hP hD hS 1 0 rfl rfl hi_1826 dX8_begin_44 (fun H locs hP hD hS => ?_)
        replace hP : va_P (dC, dI) vwCl [(h0, .inr (6, [.ref q_kinds, .ref q_tags, .ref q_cells, .int (v_p1_size - (2 : Int32)), .int o_1819])), (q_kinds, .inl (cI, 6, .inl (upd v_kinds_21 (x2_21).toNatClampNeg o_1824))), (q_tags, .inl (cI, 16, .inl v_tags)), (q_cells, .inl (cJ, 96, .inr (.inl v_cells_21))), (q_p1, .inr (5, [.ref q_p1_signs, .int v_p1_size])), (q_p1_signs, .inl (cC, 80, .inl v_p1_signs))] H := hP
        replace hD : va_D A [(h0, .inr (6, [.ref q_kinds, .ref q_tags, .ref q_cells, .int (v_p1_size - (2 : Int32)), .int o_1819])), (q_kinds, .inl (cI, 6, .inl (upd v_kinds_21 (x2_21).toNatClampNeg o_1824))), (q_tags, .inl (cI, 16, .inl v_tags)), (q_cells, .inl (cJ, 96, .inr (.inl v_cells_21))), (q_p1, .inr (5, [.ref q_p1_signs, .int v_p1_size])), (q_p1_signs, .inl (cC, 80, .inl v_p1_signs))] := hD
        refine lv_aload_n hx hb dX8_begin_45 rfl (lv_at hl 0 rfl) ?_
        refine va_get (D := (dC, dI)) (ci := 6) (v := .ref q_kinds) (C := RX8) (T := TX8) (N := 5) hx hb hts hi_X8 hown hK hP 0 rfl rfl 0 (by decide) (hts _ (List.mem_of_getElem? (i := 4) rfl)) (fun _ h9 => h9) rfl dX8_begin_46 ?_
        refine lv_iload_n hx hb dX8_begin_49 rfl (lv_at hl 2 rfl) ?_
        obtain ⟨hi_1827, h⟩ := og h
        refine va_iald hx hb hK hP 1 0 rfl rfl hi_1827 dX8_begin_50 ?_
        obtain ⟨o_1828, hr_1828, h⟩ := ob h
        refine vp_callSi (va_Run.run (va_runS (As := [.int ((upd v_kinds_21 (x2_21).toNatClampNeg o_1824) (x2_21).toNatClampNeg)]) (rest := []) ⟨hx, hb, hml, hown, hts⟩ (c_X3_mayBeNothing l dC dI cB cC cI cJ cZ cT ((upd v_kinds_21 (x2_21).toNatClampNeg o_1824) (x2_21).toNatClampNeg) o_1828 hr_1828) (va_cwS 1 hts gX8_begin_X3_mayBeNothing rfl rfl rfl (by decide +kernel) ⟨Nat.le_of_ble_eq_true rfl, Nat.le_of_ble_eq_true rfl⟩) ⟨blT, fun U hU hW => ⟨rfl, trivial⟩⟩ rfl rfl hl.1 rfl (lv_room (Nat.le_of_ble_eq_true rfl)) dX8_begin_51 ⟨Nat.le_of_ble_eq_true rfl, Nat.le_of_ble_eq_true rfl⟩)) (fun r_1828 e_1828 => ?_)
        subst e_1828
        obtain ⟨v_1830, hv_1830, h⟩ := ob h
        have J_1830 : ∀ (H : Heap) (locs : List Loc) (ls : Array Slot), va_P (dC, dI) vwCl [(h0, .inr (6, [.ref q_kinds, .ref q_tags, .ref q_cells, .int (v_p1_size - (2 : Int32)), .int o_1819])), (q_kinds, .inl (cI, 6, .inl (upd v_kinds_21 (x2_21).toNatClampNeg o_1824))), (q_tags, .inl (cI, 16, .inl v_tags)), (q_cells, .inl (cJ, 96, .inr (.inl v_cells_21))), (q_p1, .inr (5, [.ref q_p1_signs, .int v_p1_size])), (q_p1_signs, .inl (cC, 80, .inl v_p1_signs))] H → va_D A [(h0, .inr (6, [.ref q_kinds, .ref q_tags, .ref q_cells, .int (v_p1_size - (2 : Int32)), .int o_1819])), (q_kinds, .inl (cI, 6, .inl (upd v_kinds_21 (x2_21).toNatClampNeg o_1824))), (q_tags, .inl (cI, 16, .inl v_tags)), (q_cells, .inl (cJ, 96, .inr (.inl v_cells_21))), (q_p1, .inr (5, [.ref q_p1_signs, .int v_p1_size])), (q_p1_signs, .inl (cC, 80, .inl v_p1_signs))] → va_S A s.heap H locs → lv_has ls 6 [(0, .ref h0), (1, .ref q_p1), (2, .int x2_21)] → W p l e rm_X8_begin s m args below meth c H locs 0 0 QQ (F0 m 64 ls [.long v_1830]) := by
          intro H locs ls hP hD hS hl
          refine lv_lstore_n (lv' := [(3, .long v_1830), (0, .ref h0), (1, .ref q_p1), (2, .int x2_21)]) hx hb dX8_begin_64 rfl hl (by decide) rfl (fun ls hl => ?_)
          refine lv_iconst (v := 0) hx hb dX8_begin_65 (by decide) ?_
          refine lv_istore (lv' := [(5, .int (0 : Int32)), (3, .long v_1830), (0, .ref h0), (1, .ref q_p1), (2, .int x2_21)]) hx hb dX8_begin_66 hl (by decide) rfl (fun ls hl => ?_)
          have LP_1835 : ∀ (n : Nat) (x5_68 : Int32) (v_cells_68 : (Nat → Int64)) (w : (Nat → Int64)) (H : Heap) (locs : List Loc) (ls : Array Slot), L_X8_begin_68 x2_21 v_1830 n x5_68 v_cells_68 = some w → va_P (dC, dI) vwCl [(h0, .inr (6, [.ref q_kinds, .ref q_tags, .ref q_cells, .int (v_p1_size - (2 : Int32)), .int o_1819])), (q_kinds, .inl (cI, 6, .inl (upd v_kinds_21 (x2_21).toNatClampNeg o_1824))), (q_tags, .inl (cI, 16, .inl v_tags)), (q_cells, .inl (cJ, 96, .inr (.inl v_cells_68))), (q_p1, .inr (5, [.ref q_p1_signs, .int v_p1_size])), (q_p1_signs, .inl (cC, 80, .inl v_p1_signs))] H → va_D A [(h0, .inr (6, [.ref q_kinds, .ref q_tags, .ref q_cells, .int (v_p1_size - (2 : Int32)), .int o_1819])), (q_kinds, .inl (cI, 6, .inl (upd v_kinds_21 (x2_21).toNatClampNeg o_1824))), (q_tags, .inl (cI, 16, .inl v_tags)), (q_cells, .inl (cJ, 96, .inr (.inl v_cells_68))), (q_p1, .inr (5, [.ref q_p1_signs, .int v_p1_size])), (q_p1_signs, .inl (cC, 80, .inl v_p1_signs))] → va_S A s.heap H locs → lv_has ls 6 [(0, .ref h0), (1, .ref q_p1), (2, .int x2_21), (3, .long v_1830), (5, .int x5_68)] → (∀ (H : Heap) (locs : List Loc) (ls : Array Slot), va_P (dC, dI) vwCl [(h0, .inr (6, [.ref q_kinds, .ref q_tags, .ref q_cells, .int (v_p1_size - (2 : Int32)), .int o_1819])), (q_kinds, .inl (cI, 6, .inl (upd v_kinds_21 (x2_21).toNatClampNeg o_1824))), (q_tags, .inl (cI, 16, .inl v_tags)), (q_cells, .inl (cJ, 96, .inr (.inl w))), (q_p1, .inr (5, [.ref q_p1_signs, .int v_p1_size])), (q_p1_signs, .inl (cC, 80, .inl v_p1_signs))] H → va_D A [(h0, .inr (6, [.ref q_kinds, .ref q_tags, .ref q_cells, .int (v_p1_size - (2 : Int32)), .int o_1819])), (q_kinds, .inl (cI, 6, .inl (upd v_kinds_21 (x2_21).toNatClampNeg o_1824))), (q_tags, .inl (cI, 16, .inl v_tags)), (q_cells, .inl (cJ, 96, .inr (.inl w))), (q_p1, .inr (5, [.ref q_p1_signs, .int v_p1_size])), (q_p1_signs, .inl (cC, 80, .inl v_p1_signs))] → va_S A s.heap H locs → lv_has ls 6 [(0, .ref h0), (1, .ref q_p1), (2, .int x2_21)] → W p l e rm_X8_begin s m args below meth c H locs 0 0 QQ (F0 m 94 ls [])) → W p l e rm_X8_begin s m args below meth c H locs 0 0 QQ (F0 m 68 ls []) := by
            intro n
            induction n with
            | zero => intro x5_68 v_cells_68 w H locs ls h; exact absurd (show none = some w from h) nofun
            | succ n ih =>
              intro x5_68 v_cells_68 w H locs ls h hP hD hS hl K
              rw [L_X8_begin_68] at h
              refine lv_iload hx hb dX8_begin_68 (lv_at hl 4 rfl) ?_
              refine lv_bipush (v := 16) hx hb dX8_begin_70 (by decide) ?_
              refine lv_icmp_ge (tgt := 94) hx hb dX8_begin_72 (by decide) (fun c_1833 => ?_) (fun c_1833 => ?_)
              · replace h := op c_1833 h
                have ho := Option.some.inj h
                subst ho
                exact K H _ ls hP hD hS (lv_sub hl [0, 1, 2] rfl)
              · replace h := on c_1833 h
                refine lv_aload_n hx hb dX8_begin_75 rfl (lv_at hl 0 rfl) ?_
                refine va_get (D := (dC, dI)) (ci := 6) (v := .ref q_cells) (C := RX8) (T := TX8) (N := 5) hx hb hts hi_X8 hown hK hP 0 rfl rfl 2 (by decide) (hts _ (List.mem_of_getElem? (i := 6) rfl)) (fun _ h9 => h9) rfl dX8_begin_76 ?_
                refine lv_iload_n hx hb dX8_begin_79 rfl (lv_at hl 2 rfl) ?_
                refine lv_bipush (v := 16) hx hb dX8_begin_80 (by decide) ?_
                refine lv_imul hx hb dX8_begin_82 ?_
                refine lv_iload hx hb dX8_begin_83 (lv_at hl 4 rfl) ?_
                refine lv_iadd hx hb dX8_begin_85 ?_
                refine lv_lload_n hx hb dX8_begin_86 rfl (lv_at hl 3 rfl) ?_
                obtain ⟨hi_1834, h⟩ := og h
                refine va_last hx hb hK hP hD hS 3 1 rfl rfl hi_1834 dX8_begin_87 (fun H locs hP hD hS => ?_)
                replace hP : va_P (dC, dI) vwCl [(h0, .inr (6, [.ref q_kinds, .ref q_tags, .ref q_cells, .int (v_p1_size - (2 : Int32)), .int o_1819])), (q_kinds, .inl (cI, 6, .inl (upd v_kinds_21 (x2_21).toNatClampNeg o_1824))), (q_tags, .inl (cI, 16, .inl v_tags)), (q_cells, .inl (cJ, 96, .inr (.inl (vp_updL v_cells_68 (((x2_21 * (16 : Int32)) + x5_68)).toNatClampNeg v_1830)))), (q_p1, .inr (5, [.ref q_p1_signs, .int v_p1_size])), (q_p1_signs, .inl (cC, 80, .inl v_p1_signs))] H := hP
                replace hD : va_D A [(h0, .inr (6, [.ref q_kinds, .ref q_tags, .ref q_cells, .int (v_p1_size - (2 : Int32)), .int o_1819])), (q_kinds, .inl (cI, 6, .inl (upd v_kinds_21 (x2_21).toNatClampNeg o_1824))), (q_tags, .inl (cI, 16, .inl v_tags)), (q_cells, .inl (cJ, 96, .inr (.inl (vp_updL v_cells_68 (((x2_21 * (16 : Int32)) + x5_68)).toNatClampNeg v_1830)))), (q_p1, .inr (5, [.ref q_p1_signs, .int v_p1_size])), (q_p1_signs, .inl (cC, 80, .inl v_p1_signs))] := hD
                refine lv_iinc (v := (x5_68 + 1)) (lv' := [(5, .int (x5_68 + 1)), (0, .ref h0), (1, .ref q_p1), (2, .int x2_21), (3, .long v_1830)]) hx hb dX8_begin_88 hl (k := 4) rfl (by rfl) (by decide) rfl (fun ls hl => ?_)
                refine lv_goto (tgt := 68) hx hb dX8_begin_91 (by decide) ?_
                exact ih (x5_68 + 1) (vp_updL v_cells_68 (((x2_21 * (16 : Int32)) + x5_68)).toNatClampNeg v_1830) w H _ ls h hP hD hS (lv_sub hl [1, 2, 3, 4, 0] rfl) K
          obtain ⟨w_1835, hw_1835, h⟩ := ob h
          refine LP_1835 fu (0 : Int32) v_cells_21 w_1835 H _ ls hw_1835 hP hD hS (lv_sub hl [2, 3, 4, 1, 0] rfl) (fun H locs ls hP hD hS hl => ?_)
          refine lv_iinc (v := (x2_21 + 1)) (lv' := [(2, .int (x2_21 + 1)), (0, .ref h0), (1, .ref q_p1)]) hx hb dX8_begin_94 hl (k := 2) rfl (by rfl) (by decide) rfl (fun ls hl => ?_)
          refine lv_goto (tgt := 21) hx hb dX8_begin_97 (by decide) ?_
          exact ih (x2_21 + 1) (upd v_kinds_21 (x2_21).toNatClampNeg o_1824) w_1835 w H _ ls h hP hD hS (lv_sub hl [1, 2, 0] rfl) K
        replace h := hv_1830
        refine lv_if_eq (tgt := 63) hx hb dX8_begin_54 (by decide) (fun c_1832 => ?_) (fun c_1832 => ?_)
        · replace h := op c_1832 h
          refine lv_lconst (v := 0) hx hb dX8_begin_63 (by decide) ?_
          have ho := Option.some.inj h
          subst ho
          exact J_1830 H _ ls hP hD hS (lv_sub hl [0, 1, 2] rfl)
        · replace h := on c_1832 h
          refine lv_ldc2 (v := -9223372036854775808) hx hb hown (hts _ (List.mem_of_getElem? (i := 5) rfl)) dX8_begin_57 ?_
          refine lv_goto (tgt := 64) hx hb dX8_begin_60 (by decide) ?_
          have ho := Option.some.inj h
          subst ho
          exact J_1830 H _ ls hP hD hS (lv_sub hl [0, 1, 2] rfl)
  obtain ⟨w_1836, hw_1836, h⟩ := ob h
  refine LP_1836 fu (0 : Int32) v_kinds v_cells w_1836 H _ ls hw_1836 hP hD hS (lv_sub hl [1, 2, 0] rfl) (fun H locs ls hP hD hS hl => ?_)
  refine lv_iconst (v := 0) hx hb dX8_begin_100 (by decide) ?_
  refine lv_istore_n (lv' := [(2, .int (0 : Int32)), (0, .ref h0)]) hx hb dX8_begin_101 rfl hl (by decide) rfl (fun ls hl => ?_)
  have LP_1839 : ∀ (n : Nat) (x2_102 : Int32) (v_tags_102 : (Nat → Int32)) (w : (Nat → Int32)) (H : Heap) (locs : List Loc) (ls : Array Slot), L_X8_begin_102 n x2_102 v_tags_102 = some w → va_P (dC, dI) vwCl [(h0, .inr (6, [.ref q_kinds, .ref q_tags, .ref q_cells, .int (v_p1_size - (2 : Int32)), .int o_1819])), (q_kinds, .inl (cI, 6, .inl w_1836.1)), (q_tags, .inl (cI, 16, .inl v_tags_102)), (q_cells, .inl (cJ, 96, .inr (.inl w_1836.2))), (q_p1, .inr (5, [.ref q_p1_signs, .int v_p1_size])), (q_p1_signs, .inl (cC, 80, .inl v_p1_signs))] H → va_D A [(h0, .inr (6, [.ref q_kinds, .ref q_tags, .ref q_cells, .int (v_p1_size - (2 : Int32)), .int o_1819])), (q_kinds, .inl (cI, 6, .inl w_1836.1)), (q_tags, .inl (cI, 16, .inl v_tags_102)), (q_cells, .inl (cJ, 96, .inr (.inl w_1836.2))), (q_p1, .inr (5, [.ref q_p1_signs, .int v_p1_size])), (q_p1_signs, .inl (cC, 80, .inl v_p1_signs))] → va_S A s.heap H locs → lv_has ls 6 [(0, .ref h0), (2, .int x2_102)] → (∀ (H : Heap) (locs : List Loc) (ls : Array Slot), va_P (dC, dI) vwCl [(h0, .inr (6, [.ref q_kinds, .ref q_tags, .ref q_cells, .int (v_p1_size - (2 : Int32)), .int o_1819])), (q_kinds, .inl (cI, 6, .inl w_1836.1)), (q_tags, .inl (cI, 16, .inl w)), (q_cells, .inl (cJ, 96, .inr (.inl w_1836.2))), (q_p1, .inr (5, [.ref q_p1_signs, .int v_p1_size])), (q_p1_signs, .inl (cC, 80, .inl v_p1_signs))] H → va_D A [(h0, .inr (6, [.ref q_kinds, .ref q_tags, .ref q_cells, .int (v_p1_size - (2 : Int32)), .int o_1819])), (q_kinds, .inl (cI, 6, .inl w_1836.1)), (q_tags, .inl (cI, 16, .inl w)), (q_cells, .inl (cJ, 96, .inr (.inl w_1836.2))), (q_p1, .inr (5, [.ref q_p1_signs, .int v_p1_size])), (q_p1_signs, .inl (cC, 80, .inl v_p1_signs))] → va_S A s.heap H locs → lv_has ls 6 [] → W p l e rm_X8_begin s m args below meth c H locs 0 0 QQ (F0 m 121 ls [])) → W p l e rm_X8_begin s m args below meth c H locs 0 0 QQ (F0 m 102 ls []) := by
    intro n
    induction n with
    | zero => intro x2_102 v_tags_102 w H locs ls h; exact absurd (show none = some w from h) nofun
    | succ n ih =>
      intro x2_102 v_tags_102 w H locs ls h hP hD hS hl K
      rw [L_X8_begin_102] at h
      refine lv_iload_n hx hb dX8_begin_102 rfl (lv_at hl 1 rfl) ?_
      refine lv_bipush (v := 16) hx hb dX8_begin_103 (by decide) ?_
      refine lv_icmp_ge (tgt := 121) hx hb dX8_begin_105 (by decide) (fun c_1837 => ?_) (fun c_1837 => ?_)
      · replace h := op c_1837 h
        have ho := Option.some.inj h
        subst ho
        exact K H _ ls hP hD hS (lv_sub hl [] rfl)
      · replace h := on c_1837 h
        refine lv_aload_n hx hb dX8_begin_108 rfl (lv_at hl 0 rfl) ?_
        refine va_get (D := (dC, dI)) (ci := 6) (v := .ref q_tags) (C := RX8) (T := TX8) (N := 5) hx hb hts hi_X8 hown hK hP 0 rfl rfl 1 (by decide) (hts _ (List.mem_of_getElem? (i := 7) rfl)) (fun _ h9 => h9) rfl dX8_begin_109 ?_
        refine lv_iload_n hx hb dX8_begin_112 rfl (lv_at hl 1 rfl) ?_
        refine lv_iload_n hx hb dX8_begin_113 rfl (lv_at hl 1 rfl) ?_
        obtain ⟨hi_1838, h⟩ := og h
        refine va_iast hx hb hK hP hD hS 2 0 rfl rfl hi_1838 dX8_begin_114 (fun H locs hP hD hS => ?_)
        replace hP : va_P (dC, dI) vwCl [(h0, .inr (6, [.ref q_kinds, .ref q_tags, .ref q_cells, .int (v_p1_size - (2 : Int32)), .int o_1819])), (q_kinds, .inl (cI, 6, .inl w_1836.1)), (q_tags, .inl (cI, 16, .inl (upd v_tags_102 (x2_102).toNatClampNeg x2_102))), (q_cells, .inl (cJ, 96, .inr (.inl w_1836.2))), (q_p1, .inr (5, [.ref q_p1_signs, .int v_p1_size])), (q_p1_signs, .inl (cC, 80, .inl v_p1_signs))] H := hP
        replace hD : va_D A [(h0, .inr (6, [.ref q_kinds, .ref q_tags, .ref q_cells, .int (v_p1_size - (2 : Int32)), .int o_1819])), (q_kinds, .inl (cI, 6, .inl w_1836.1)), (q_tags, .inl (cI, 16, .inl (upd v_tags_102 (x2_102).toNatClampNeg x2_102))), (q_cells, .inl (cJ, 96, .inr (.inl w_1836.2))), (q_p1, .inr (5, [.ref q_p1_signs, .int v_p1_size])), (q_p1_signs, .inl (cC, 80, .inl v_p1_signs))] := hD
        refine lv_iinc (v := (x2_102 + 1)) (lv' := [(2, .int (x2_102 + 1)), (0, .ref h0)]) hx hb dX8_begin_115 hl (k := 1) rfl (by rfl) (by decide) rfl (fun ls hl => ?_)
        refine lv_goto (tgt := 102) hx hb dX8_begin_118 (by decide) ?_
        exact ih (x2_102 + 1) (upd v_tags_102 (x2_102).toNatClampNeg x2_102) w H _ ls h hP hD hS (lv_sub hl [1, 0] rfl) K
  obtain ⟨w_1839, hw_1839, h⟩ := ob h
  refine LP_1839 fu (0 : Int32) v_tags w_1839 H _ ls hw_1839 hP hD hS (lv_sub hl [1, 0] rfl) (fun H locs ls hP hD hS hl => ?_)
  rw [hQQ]
  have ho := Option.some.inj h
  subst ho
  exact W.vret hx hb hr (fun t ht hW => ⟨⟨(), rfl, trivial, by rw [ht]; exact hP, va_K.moved hW.alike hK, hD⟩, hS.F ht⟩) hS.2.2 dX8_begin_121
def f_X8_hasRow (v_rows : Int32) (x1 : Int32) : Option Bool :=
  (if x1 < 0 then (some false) else (if v_rows ≤ x1 then (some false) else (some true)))
abbrev rm_X8_hasRow : Room := { frames := 0, cells := 0, slots := 0, locals := 0 }
set_option maxHeartbeats 4000000 in
set_option maxRecDepth 100000 in
theorem c_X8_hasRow (l : Launch) (dC : Nat → ClassId) (dI : Nat → Nat → Nat) (cB cC cI cJ cZ cT : ClassId) (h0 q_kinds q_tags q_cells : Nat) (v_columns : Int32) (v_rows : Int32) (x1 : Int32) (o : Bool) (hf : f_X8_hasRow v_rows x1 = some o) : Met l yX8_hasRow wsX8_hasRow rm_X8_hasRow (va_Pc [.ref h0, .int x1] (fun U => va_P (dC, dI) vwCl [(h0, .inr (6, [.ref q_kinds, .ref q_tags, .ref q_cells, .int v_columns, .int v_rows]))] U.heap ∧ va_K (dC, dI) vwCl (tyA cB cC cI cJ cZ cT) U)) (vp_Si (fun r => b2i o = r)) 0 0 (fun _ => False) := by
  refine Met.ofW (cc := cX8_hasRow) (maxL := 2) (ret := (some .boolean)) (by decide +kernel) rfl ?_
  intro p e s m args below meth c s₁ B hml hv
  obtain ⟨hav, hP, hK⟩ := hv
  have hx := B.exec
  have hb := B.bytes
  have hr := B.returns
  have hts := atoms_spec (ws := wsX8_hasRow) B.pre
  have hown : s.vm.findClass RX8 = some m.cls := findClass_of_methodNamed B.named
  have hlocks := B.notSynchronized
  refine wstart (rm := rm_X8_hasRow) hav (Nat.le_of_ble_eq_true rfl) (fun QQ ls hQQ hl => ?_)
  have hl : lv_has ls 2 [(0, .ref h0), (1, .int x1)] := hl
  have hi_X8 : ∀ w ∈ u_ws RX8 TX8 5, w ∈ wsX8_hasRow := by decide +kernel
  have h := hf
  unfold f_X8_hasRow at h
  refine lv_iload_n hx hb dX8_hasRow_0 rfl (lv_at hl 1 rfl) ?_
  refine lv_if_lt (tgt := 16) hx hb dX8_hasRow_1 (by decide) (fun c_1840 => ?_) (fun c_1840 => ?_)
  · replace h := op c_1840 h
    refine lv_iconst (v := 0) hx hb dX8_hasRow_16 (by decide) ?_
    rw [hQQ]
    exact W.zret hx hb hr rfl (fun t ht hW => ⟨_, rfl, (congrArg b2i (Option.some.inj h).symm), ht⟩) (fun q hq => absurd hq List.not_mem_nil) dX8_hasRow_17
  · replace h := on c_1840 h
    refine lv_iload_n hx hb dX8_hasRow_4 rfl (lv_at hl 1 rfl) ?_
    refine lv_aload_n hx hb dX8_hasRow_5 rfl (lv_at hl 0 rfl) ?_
    refine va_get (D := (dC, dI)) (ci := 6) (v := .int v_rows) (C := RX8) (T := TX8) (N := 5) hx hb hts hi_X8 hown hK hP 0 rfl rfl 4 (by decide) (hts _ (List.mem_of_getElem? (i := 1) rfl)) (fun _ h9 => h9) rfl dX8_hasRow_6 ?_
    refine lv_icmp_ge (tgt := 16) hx hb dX8_hasRow_9 (by decide) (fun c_1841 => ?_) (fun c_1841 => ?_)
    · replace h := op c_1841 h
      refine lv_iconst (v := 0) hx hb dX8_hasRow_16 (by decide) ?_
      rw [hQQ]
      exact W.zret hx hb hr rfl (fun t ht hW => ⟨_, rfl, (congrArg b2i (Option.some.inj h).symm), ht⟩) (fun q hq => absurd hq List.not_mem_nil) dX8_hasRow_17
    · replace h := on c_1841 h
      refine lv_iconst (v := 1) hx hb dX8_hasRow_12 (by decide) ?_
      refine lv_goto (tgt := 17) hx hb dX8_hasRow_13 (by decide) ?_
      rw [hQQ]
      exact W.zret hx hb hr rfl (fun t ht hW => ⟨_, rfl, (congrArg b2i (Option.some.inj h).symm), ht⟩) (fun q hq => absurd hq List.not_mem_nil) dX8_hasRow_17
def f_X8_whyUnasked (v_kinds : Nat → Int32) (x1 : Int32) : Option Int32 :=
  (if x1 < 0 ∨ 6 ≤ (x1).toNatClampNeg then none else (if (10 : Int32) < (v_kinds (x1).toNatClampNeg) then (if x1 < 0 ∨ 6 ≤ (x1).toNatClampNeg then none else (if (v_kinds (x1).toNatClampNeg) = (11 : Int32) then (some (2 : Int32)) else (some (3 : Int32)))) else (some (0 : Int32))))
abbrev rm_X8_whyUnasked : Room := { frames := 0, cells := 0, slots := 0, locals := 0 }
set_option maxHeartbeats 4000000 in
set_option maxRecDepth 100000 in
theorem c_X8_whyUnasked (l : Launch) (dC : Nat → ClassId) (dI : Nat → Nat → Nat) (cB cC cI cJ cZ cT : ClassId) (h0 q_kinds q_tags q_cells : Nat) (v_columns : Int32) (v_rows : Int32) (v_kinds : Nat → Int32) (x1 : Int32) (o : Int32) (hf : f_X8_whyUnasked v_kinds x1 = some o) : Met l yX8_whyUnasked wsX8_whyUnasked rm_X8_whyUnasked (va_Pc [.ref h0, .int x1] (fun U => va_P (dC, dI) vwCl [(h0, .inr (6, [.ref q_kinds, .ref q_tags, .ref q_cells, .int v_columns, .int v_rows])), (q_kinds, .inl (cI, 6, .inl v_kinds))] U.heap ∧ va_K (dC, dI) vwCl (tyA cB cC cI cJ cZ cT) U)) (vp_Si (fun r => o = r)) 0 0 (fun _ => False) := by
  refine Met.ofW (cc := cX8_whyUnasked) (maxL := 2) (ret := (some .int)) (by decide +kernel) rfl ?_
  intro p e s m args below meth c s₁ B hml hv
  obtain ⟨hav, hP, hK⟩ := hv
  have hx := B.exec
  have hb := B.bytes
  have hr := B.returns
  have hts := atoms_spec (ws := wsX8_whyUnasked) B.pre
  have hown : s.vm.findClass RX8 = some m.cls := findClass_of_methodNamed B.named
  have hlocks := B.notSynchronized
  refine wstart (rm := rm_X8_whyUnasked) hav (Nat.le_of_ble_eq_true rfl) (fun QQ ls hQQ hl => ?_)
  have hl : lv_has ls 2 [(0, .ref h0), (1, .int x1)] := hl
  have hi_X8 : ∀ w ∈ u_ws RX8 TX8 5, w ∈ wsX8_whyUnasked := by decide +kernel
  have h := hf
  unfold f_X8_whyUnasked at h
  refine lv_aload_n hx hb dX8_whyUnasked_0 rfl (lv_at hl 0 rfl) ?_
  refine va_get (D := (dC, dI)) (ci := 6) (v := .ref q_kinds) (C := RX8) (T := TX8) (N := 5) hx hb hts hi_X8 hown hK hP 0 rfl rfl 0 (by decide) (hts _ (List.mem_of_getElem? (i := 1) rfl)) (fun _ h9 => h9) rfl dX8_whyUnasked_1 ?_
  refine lv_iload_n hx hb dX8_whyUnasked_4 rfl (lv_at hl 1 rfl) ?_
  obtain ⟨hi_1842, h⟩ := og h
  refine va_iald hx hb hK hP 1 0 rfl rfl hi_1842 dX8_whyUnasked_5 ?_
  refine lv_bipush (v := 10) hx hb dX8_whyUnasked_6 (by decide) ?_
  refine lv_icmp_gt (tgt := 13) hx hb dX8_whyUnasked_8 (by decide) (fun c_1843 => ?_) (fun c_1843 => ?_)
  · replace h := op c_1843 h
    refine lv_aload_n hx hb dX8_whyUnasked_13 rfl (lv_at hl 0 rfl) ?_
    refine va_get (D := (dC, dI)) (ci := 6) (v := .ref q_kinds) (C := RX8) (T := TX8) (N := 5) hx hb hts hi_X8 hown hK hP 0 rfl rfl 0 (by decide) (hts _ (List.mem_of_getElem? (i := 1) rfl)) (fun _ h9 => h9) rfl dX8_whyUnasked_14 ?_
    refine lv_iload_n hx hb dX8_whyUnasked_17 rfl (lv_at hl 1 rfl) ?_
    obtain ⟨hi_1844, h⟩ := og h
    refine va_iald hx hb hK hP 1 0 rfl rfl hi_1844 dX8_whyUnasked_18 ?_
    refine lv_bipush (v := 11) hx hb dX8_whyUnasked_19 (by decide) ?_
    refine lv_icmp_ne (tgt := 28) hx hb dX8_whyUnasked_21 (by decide) (fun c_1845 => ?_) (fun c_1845 => ?_)
    · replace h := on c_1845 h
      refine lv_iconst (v := 3) hx hb dX8_whyUnasked_28 (by decide) ?_
      rw [hQQ]
      exact W.iret hx hb hr (fun t ht hW => ⟨_, rfl, (Option.some.inj h).symm, ht⟩) (fun q hq => absurd hq List.not_mem_nil) dX8_whyUnasked_29
    · replace h := op c_1845 h
      refine lv_iconst (v := 2) hx hb dX8_whyUnasked_24 (by decide) ?_
      refine lv_goto (tgt := 29) hx hb dX8_whyUnasked_25 (by decide) ?_
      rw [hQQ]
      exact W.iret hx hb hr (fun t ht hW => ⟨_, rfl, (Option.some.inj h).symm, ht⟩) (fun q hq => absurd hq List.not_mem_nil) dX8_whyUnasked_29
  · replace h := on c_1843 h
    refine lv_iconst (v := 0) hx hb dX8_whyUnasked_11 (by decide) ?_
    rw [hQQ]
    exact W.iret hx hb hr (fun t ht hW => ⟨_, rfl, (Option.some.inj h).symm, ht⟩) (fun q hq => absurd hq List.not_mem_nil) dX8_whyUnasked_12
def f_X8_whyUnaskedOfBoth (v_kinds : Nat → Int32) (x1 : Int32) (x2 : Int32) : Option Int32 :=
  ((f_X8_whyUnasked v_kinds x1).bind (fun o_1846 => (if o_1846 = 0 then ((f_X8_whyUnasked v_kinds x2).bind (fun o_1849 => (some o_1849))) else (some o_1846))))
abbrev rm_X8_whyUnaskedOfBoth : Room := { frames := 1, cells := 0, slots := 0, locals := 21 }
set_option maxHeartbeats 4000000 in
set_option maxRecDepth 100000 in
theorem c_X8_whyUnaskedOfBoth (l : Launch) (dC : Nat → ClassId) (dI : Nat → Nat → Nat) (cB cC cI cJ cZ cT : ClassId) (h0 q_kinds q_tags q_cells : Nat) (v_columns : Int32) (v_rows : Int32) (v_kinds : Nat → Int32) (x1 : Int32) (x2 : Int32) (o : Int32) (hf : f_X8_whyUnaskedOfBoth v_kinds x1 x2 = some o) : Met l yX8_whyUnaskedOfBoth wsX8_whyUnaskedOfBoth rm_X8_whyUnaskedOfBoth (va_Pc [.ref h0, .int x1, .int x2] (fun U => va_P (dC, dI) vwCl [(h0, .inr (6, [.ref q_kinds, .ref q_tags, .ref q_cells, .int v_columns, .int v_rows])), (q_kinds, .inl (cI, 6, .inl v_kinds))] U.heap ∧ va_K (dC, dI) vwCl (tyA cB cC cI cJ cZ cT) U)) (vp_Si (fun r => o = r)) 0 0 (fun _ => False) := by
  refine Met.ofW (cc := cX8_whyUnaskedOfBoth) (maxL := 4) (ret := (some .int)) (by decide +kernel) rfl ?_
  intro p e s m args below meth c s₁ B hml hv
  obtain ⟨hav, hP, hK⟩ := hv
  have hx := B.exec
  have hb := B.bytes
  have hr := B.returns
  have hts := atoms_spec (ws := wsX8_whyUnaskedOfBoth) B.pre
  have hown : s.vm.findClass RX8 = some m.cls := findClass_of_methodNamed B.named
  have hlocks := B.notSynchronized
  refine wstart (rm := rm_X8_whyUnaskedOfBoth) hav (Nat.le_of_ble_eq_true rfl) (fun QQ ls hQQ hl => ?_)
  have hl : lv_has ls 4 [(0, .ref h0), (1, .int x1), (2, .int x2)] := hl
  have h := hf
  unfold f_X8_whyUnaskedOfBoth at h
  refine lv_aload_n hx hb dX8_whyUnaskedOfBoth_0 rfl (lv_at hl 0 rfl) ?_
  refine lv_iload_n hx hb dX8_whyUnaskedOfBoth_1 rfl (lv_at hl 1 rfl) ?_
  obtain ⟨o_1846, hr_1846, h⟩ := ob h
  refine vp_callSi (va_Run.run (va_runV (As := [.int x1]) (rest := []) ⟨hx, hb, hml, hown, hts⟩ (c_X8_whyUnasked l dC dI cB cC cI cJ cZ cT h0 q_kinds q_tags q_cells v_columns v_rows v_kinds x1 o_1846 hr_1846) (cwV 1 hts gX8_whyUnaskedOfBoth_X8_whyUnasked rfl rfl rfl (by decide +kernel) ⟨Nat.le_of_ble_eq_true rfl, Nat.le_of_ble_eq_true rfl⟩) ⟨blR, va_recv hK hP (ci := 6) (q0 := 0) rfl rfl, fun U hU hW => ⟨rfl, by rw [hU]; exact hP.sub [0, 1] rfl, va_K.moved hW.alike hK⟩⟩ rfl rfl hl.1 rfl (lv_room (Nat.le_of_ble_eq_true rfl)) dX8_whyUnaskedOfBoth_2 ⟨Nat.le_of_ble_eq_true rfl, Nat.le_of_ble_eq_true rfl⟩)) (fun r_1846 e_1846 => ?_)
  subst e_1846
  refine lv_istore_n (lv' := [(3, .int o_1846), (0, .ref h0), (1, .int x1), (2, .int x2)]) hx hb dX8_whyUnaskedOfBoth_5 rfl hl (by decide) rfl (fun ls hl => ?_)
  refine lv_iload_n hx hb dX8_whyUnaskedOfBoth_6 rfl (lv_at hl 0 rfl) ?_
  refine lv_if_eq (tgt := 14) hx hb dX8_whyUnaskedOfBoth_7 (by decide) (fun c_1848 => ?_) (fun c_1848 => ?_)
  · replace h := op c_1848 h
    refine lv_aload_n hx hb dX8_whyUnaskedOfBoth_14 rfl (lv_at hl 1 rfl) ?_
    refine lv_iload_n hx hb dX8_whyUnaskedOfBoth_15 rfl (lv_at hl 3 rfl) ?_
    obtain ⟨o_1849, hr_1849, h⟩ := ob h
    refine vp_callSi (va_Run.run (va_runV (As := [.int x2]) (rest := []) ⟨hx, hb, hml, hown, hts⟩ (c_X8_whyUnasked l dC dI cB cC cI cJ cZ cT h0 q_kinds q_tags q_cells v_columns v_rows v_kinds x2 o_1849 hr_1849) (cwV 1 hts gX8_whyUnaskedOfBoth_X8_whyUnasked rfl rfl rfl (by decide +kernel) ⟨Nat.le_of_ble_eq_true rfl, Nat.le_of_ble_eq_true rfl⟩) ⟨blR, va_recv hK hP (ci := 6) (q0 := 0) rfl rfl, fun U hU hW => ⟨rfl, by rw [hU]; exact hP.sub [0, 1] rfl, va_K.moved hW.alike hK⟩⟩ rfl rfl hl.1 rfl (lv_room (Nat.le_of_ble_eq_true rfl)) dX8_whyUnaskedOfBoth_16 ⟨Nat.le_of_ble_eq_true rfl, Nat.le_of_ble_eq_true rfl⟩)) (fun r_1849 e_1849 => ?_)
    subst e_1849
    rw [hQQ]
    exact W.iret hx hb hr (fun t ht hW => ⟨_, rfl, (Option.some.inj h).symm, ht⟩) (fun q hq => absurd hq List.not_mem_nil) dX8_whyUnaskedOfBoth_19
  · replace h := on c_1848 h
    refine lv_iload_n hx hb dX8_whyUnaskedOfBoth_10 rfl (lv_at hl 0 rfl) ?_
    refine lv_goto (tgt := 19) hx hb dX8_whyUnaskedOfBoth_11 (by decide) ?_
    rw [hQQ]
    exact W.iret hx hb hr (fun t ht hW => ⟨_, rfl, (Option.some.inj h).symm, ht⟩) (fun q hq => absurd hq List.not_mem_nil) dX8_whyUnaskedOfBoth_19
def f_X8_whyNoCell (v_rows : Int32) (v_kinds : Nat → Int32) (x1 : Int32) (x2 : Int32) (x3 : Int32) : Option Int32 :=
  ((f_X8_whyUnasked v_kinds x1).bind (fun o_1851 => (if o_1851 = 0 then ((f_X3_isNumberWay x3).bind (fun o_1854 => (if (b2i o_1854) = 0 then ((f_X8_hasRow v_rows x2).bind (fun o_1857 => (if (b2i o_1857) = 0 then (some (5 : Int32)) else (some (0 : Int32))))) else (if x1 < 0 ∨ 6 ≤ (x1).toNatClampNeg then none else (if (v_kinds (x1).toNatClampNeg) ≤ (7 : Int32) then ((f_X8_hasRow v_rows x2).bind (fun o_1862 => (if (b2i o_1862) = 0 then (some (5 : Int32)) else (some (0 : Int32))))) else (some (4 : Int32))))))) else (some o_1851))))
abbrev rm_X8_whyNoCell : Room := { frames := 1, cells := 0, slots := 0, locals := 21 }
set_option maxHeartbeats 4000000 in
set_option maxRecDepth 100000 in
theorem c_X8_whyNoCell (l : Launch) (dC : Nat → ClassId) (dI : Nat → Nat → Nat) (cB cC cI cJ cZ cT : ClassId) (h0 q_kinds q_tags q_cells : Nat) (v_columns : Int32) (v_rows : Int32) (v_kinds : Nat → Int32) (x1 : Int32) (x2 : Int32) (x3 : Int32) (o : Int32) (hf : f_X8_whyNoCell v_rows v_kinds x1 x2 x3 = some o) : Met l yX8_whyNoCell wsX8_whyNoCell rm_X8_whyNoCell (va_Pc [.ref h0, .int x1, .int x2, .int x3] (fun U => va_P (dC, dI) vwCl [(h0, .inr (6, [.ref q_kinds, .ref q_tags, .ref q_cells, .int v_columns, .int v_rows])), (q_kinds, .inl (cI, 6, .inl v_kinds))] U.heap ∧ va_K (dC, dI) vwCl (tyA cB cC cI cJ cZ cT) U)) (vp_Si (fun r => o = r)) 0 0 (fun _ => False) := by
  refine Met.ofW (cc := cX8_whyNoCell) (maxL := 5) (ret := (some .int)) (by decide +kernel) rfl ?_
  intro p e s m args below meth c s₁ B hml hv
  obtain ⟨hav, hP, hK⟩ := hv
  have hx := B.exec
  have hb := B.bytes
  have hr := B.returns
  have hts := atoms_spec (ws := wsX8_whyNoCell) B.pre
  have hown : s.vm.findClass RX8 = some m.cls := findClass_of_methodNamed B.named
  have hlocks := B.notSynchronized
  refine wstart (rm := rm_X8_whyNoCell) hav (Nat.le_of_ble_eq_true rfl) (fun QQ ls hQQ hl => ?_)
  have hl : lv_has ls 5 [(0, .ref h0), (1, .int x1), (2, .int x2), (3, .int x3)] := hl
  have hi_X8 : ∀ w ∈ u_ws RX8 TX8 5, w ∈ wsX8_whyNoCell := by decide +kernel
  have h := hf
  unfold f_X8_whyNoCell at h
  refine lv_aload_n hx hb dX8_whyNoCell_0 rfl (lv_at hl 0 rfl) ?_
  refine lv_iload_n hx hb dX8_whyNoCell_1 rfl (lv_at hl 1 rfl) ?_
  obtain ⟨o_1851, hr_1851, h⟩ := ob h
  refine vp_callSi (va_Run.run (va_runV (As := [.int x1]) (rest := []) ⟨hx, hb, hml, hown, hts⟩ (c_X8_whyUnasked l dC dI cB cC cI cJ cZ cT h0 q_kinds q_tags q_cells v_columns v_rows v_kinds x1 o_1851 hr_1851) (cwV 1 hts gX8_whyNoCell_X8_whyUnasked rfl rfl rfl (by decide +kernel) ⟨Nat.le_of_ble_eq_true rfl, Nat.le_of_ble_eq_true rfl⟩) ⟨blR, va_recv hK hP (ci := 6) (q0 := 0) rfl rfl, fun U hU hW => ⟨rfl, by rw [hU]; exact hP.sub [0, 1] rfl, va_K.moved hW.alike hK⟩⟩ rfl rfl hl.1 rfl (lv_room (Nat.le_of_ble_eq_true rfl)) dX8_whyNoCell_2 ⟨Nat.le_of_ble_eq_true rfl, Nat.le_of_ble_eq_true rfl⟩)) (fun r_1851 e_1851 => ?_)
  subst e_1851
  refine lv_istore (lv' := [(4, .int o_1851), (0, .ref h0), (1, .int x1), (2, .int x2), (3, .int x3)]) hx hb dX8_whyNoCell_5 hl (by decide) rfl (fun ls hl => ?_)
  refine lv_iload hx hb dX8_whyNoCell_7 (lv_at hl 0 rfl) ?_
  refine lv_if_eq (tgt := 15) hx hb dX8_whyNoCell_9 (by decide) (fun c_1853 => ?_) (fun c_1853 => ?_)
  · replace h := op c_1853 h
    refine lv_iload_n hx hb dX8_whyNoCell_15 rfl (lv_at hl 4 rfl) ?_
    obtain ⟨o_1854, hr_1854, h⟩ := ob h
    refine vp_callSi (va_Run.run (va_runS (As := [.int x3]) (rest := []) ⟨hx, hb, hml, hown, hts⟩ (c_X3_isNumberWay l dC dI cB cC cI cJ cZ cT x3 o_1854 hr_1854) (va_cwS 1 hts gX8_whyNoCell_X3_isNumberWay rfl rfl rfl (by decide +kernel) ⟨Nat.le_of_ble_eq_true rfl, Nat.le_of_ble_eq_true rfl⟩) ⟨blT, fun U hU hW => ⟨rfl, trivial⟩⟩ rfl rfl hl.1 rfl (lv_room (Nat.le_of_ble_eq_true rfl)) dX8_whyNoCell_16 ⟨Nat.le_of_ble_eq_true rfl, Nat.le_of_ble_eq_true rfl⟩)) (fun r_1854 e_1854 => ?_)
    subst e_1854
    refine lv_if_eq (tgt := 35) hx hb dX8_whyNoCell_19 (by decide) (fun c_1856 => ?_) (fun c_1856 => ?_)
    · replace h := op c_1856 h
      refine lv_aload_n hx hb dX8_whyNoCell_35 rfl (lv_at hl 1 rfl) ?_
      refine lv_iload_n hx hb dX8_whyNoCell_36 rfl (lv_at hl 3 rfl) ?_
      obtain ⟨o_1857, hr_1857, h⟩ := ob h
      refine vp_callSi (va_Run.run (va_runV (As := [.int x2]) (rest := []) ⟨hx, hb, hml, hown, hts⟩ (c_X8_hasRow l dC dI cB cC cI cJ cZ cT h0 q_kinds q_tags q_cells v_columns v_rows x2 o_1857 hr_1857) (cwV 1 hts gX8_whyNoCell_X8_hasRow rfl rfl rfl (by decide +kernel) ⟨Nat.le_of_ble_eq_true rfl, Nat.le_of_ble_eq_true rfl⟩) ⟨blR, va_recv hK hP (ci := 6) (q0 := 0) rfl rfl, fun U hU hW => ⟨rfl, by rw [hU]; exact hP.sub [0] rfl, va_K.moved hW.alike hK⟩⟩ rfl rfl hl.1 rfl (lv_room (Nat.le_of_ble_eq_true rfl)) dX8_whyNoCell_37 ⟨Nat.le_of_ble_eq_true rfl, Nat.le_of_ble_eq_true rfl⟩)) (fun r_1857 e_1857 => ?_)
      subst e_1857
      refine lv_if_eq (tgt := 47) hx hb dX8_whyNoCell_40 (by decide) (fun c_1859 => ?_) (fun c_1859 => ?_)
      · replace h := op c_1859 h
        refine lv_iconst (v := 5) hx hb dX8_whyNoCell_47 (by decide) ?_
        rw [hQQ]
        exact W.iret hx hb hr (fun t ht hW => ⟨_, rfl, (Option.some.inj h).symm, ht⟩) (fun q hq => absurd hq List.not_mem_nil) dX8_whyNoCell_48
      · replace h := on c_1859 h
        refine lv_iconst (v := 0) hx hb dX8_whyNoCell_43 (by decide) ?_
        refine lv_goto (tgt := 48) hx hb dX8_whyNoCell_44 (by decide) ?_
        rw [hQQ]
        exact W.iret hx hb hr (fun t ht hW => ⟨_, rfl, (Option.some.inj h).symm, ht⟩) (fun q hq => absurd hq List.not_mem_nil) dX8_whyNoCell_48
    · replace h := on c_1856 h
      refine lv_aload_n hx hb dX8_whyNoCell_22 rfl (lv_at hl 1 rfl) ?_
      refine va_get (D := (dC, dI)) (ci := 6) (v := .ref q_kinds) (C := RX8) (T := TX8) (N := 5) hx hb hts hi_X8 hown hK hP 0 rfl rfl 0 (by decide) (hts _ (List.mem_of_getElem? (i := 1) rfl)) (fun _ h9 => h9) rfl dX8_whyNoCell_23 ?_
      refine lv_iload_n hx hb dX8_whyNoCell_26 rfl (lv_at hl 2 rfl) ?_
      obtain ⟨hi_1860, h⟩ := og h
      refine va_iald hx hb hK hP 1 0 rfl rfl hi_1860 dX8_whyNoCell_27 ?_
      refine lv_bipush (v := 7) hx hb dX8_whyNoCell_28 (by decide) ?_
      refine lv_icmp_le (tgt := 35) hx hb dX8_whyNoCell_30 (by decide) (fun c_1861 => ?_) (fun c_1861 => ?_)
      · replace h := op c_1861 h
        refine lv_aload_n hx hb dX8_whyNoCell_35 rfl (lv_at hl 1 rfl) ?_
        refine lv_iload_n hx hb dX8_whyNoCell_36 rfl (lv_at hl 3 rfl) ?_
        obtain ⟨o_1862, hr_1862, h⟩ := ob h
        refine vp_callSi (va_Run.run (va_runV (As := [.int x2]) (rest := []) ⟨hx, hb, hml, hown, hts⟩ (c_X8_hasRow l dC dI cB cC cI cJ cZ cT h0 q_kinds q_tags q_cells v_columns v_rows x2 o_1862 hr_1862) (cwV 1 hts gX8_whyNoCell_X8_hasRow rfl rfl rfl (by decide +kernel) ⟨Nat.le_of_ble_eq_true rfl, Nat.le_of_ble_eq_true rfl⟩) ⟨blR, va_recv hK hP (ci := 6) (q0 := 0) rfl rfl, fun U hU hW => ⟨rfl, by rw [hU]; exact hP.sub [0] rfl, va_K.moved hW.alike hK⟩⟩ rfl rfl hl.1 rfl (lv_room (Nat.le_of_ble_eq_true rfl)) dX8_whyNoCell_37 ⟨Nat.le_of_ble_eq_true rfl, Nat.le_of_ble_eq_true rfl⟩)) (fun r_1862 e_1862 => ?_)
        subst e_1862
        refine lv_if_eq (tgt := 47) hx hb dX8_whyNoCell_40 (by decide) (fun c_1864 => ?_) (fun c_1864 => ?_)
        · replace h := op c_1864 h
          refine lv_iconst (v := 5) hx hb dX8_whyNoCell_47 (by decide) ?_
          rw [hQQ]
          exact W.iret hx hb hr (fun t ht hW => ⟨_, rfl, (Option.some.inj h).symm, ht⟩) (fun q hq => absurd hq List.not_mem_nil) dX8_whyNoCell_48
        · replace h := on c_1864 h
          refine lv_iconst (v := 0) hx hb dX8_whyNoCell_43 (by decide) ?_
          refine lv_goto (tgt := 48) hx hb dX8_whyNoCell_44 (by decide) ?_
          rw [hQQ]
          exact W.iret hx hb hr (fun t ht hW => ⟨_, rfl, (Option.some.inj h).symm, ht⟩) (fun q hq => absurd hq List.not_mem_nil) dX8_whyNoCell_48
      · replace h := on c_1861 h
        refine lv_iconst (v := 4) hx hb dX8_whyNoCell_33 (by decide) ?_
        rw [hQQ]
        exact W.iret hx hb hr (fun t ht hW => ⟨_, rfl, (Option.some.inj h).symm, ht⟩) (fun q hq => absurd hq List.not_mem_nil) dX8_whyNoCell_34
  · replace h := on c_1853 h
    refine lv_iload hx hb dX8_whyNoCell_12 (lv_at hl 0 rfl) ?_
    rw [hQQ]
    exact W.iret hx hb hr (fun t ht hW => ⟨_, rfl, (Option.some.inj h).symm, ht⟩) (fun q hq => absurd hq List.not_mem_nil) dX8_whyNoCell_14
def f_X8_whyNotPut (v_rows : Int32) (v_kinds : Nat → Int32) (x1 : Int32) (x2 : Int32) (x3 : Int32) : Option Int32 :=
  ((f_X8_whyNoCell v_rows v_kinds x1 x2 x3).bind (fun o_1865 => (if o_1865 = 0 then ((f_X3_toldKind x3).bind (fun o_1868 => (if x1 < 0 ∨ 6 ≤ (x1).toNatClampNeg then none else ((f_X3_fits o_1868 (v_kinds (x1).toNatClampNeg)).bind (fun o_1871 => (if (b2i o_1871) = 0 then (some (6 : Int32)) else (some (0 : Int32)))))))) else (some o_1865))))
abbrev rm_X8_whyNotPut : Room := { frames := 3, cells := 0, slots := 0, locals := 62 }
set_option maxHeartbeats 4000000 in
set_option maxRecDepth 100000 in
theorem c_X8_whyNotPut (l : Launch) (dC : Nat → ClassId) (dI : Nat → Nat → Nat) (cB cC cI cJ cZ cT : ClassId) (h0 q_kinds q_tags q_cells : Nat) (v_columns : Int32) (v_rows : Int32) (v_kinds : Nat → Int32) (x1 : Int32) (x2 : Int32) (x3 : Int32) (o : Int32) (hf : f_X8_whyNotPut v_rows v_kinds x1 x2 x3 = some o) : Met l yX8_whyNotPut wsX8_whyNotPut rm_X8_whyNotPut (va_Pc [.ref h0, .int x1, .int x2, .int x3] (fun U => va_P (dC, dI) vwCl [(h0, .inr (6, [.ref q_kinds, .ref q_tags, .ref q_cells, .int v_columns, .int v_rows])), (q_kinds, .inl (cI, 6, .inl v_kinds))] U.heap ∧ va_K (dC, dI) vwCl (tyA cB cC cI cJ cZ cT) U ∧ SX (fun _ => False) U U.heap)) (vp_Si (fun r => o = r)) 0 0 (fun _ => False) := by
  refine Met.ofW (cc := cX8_whyNotPut) (maxL := 5) (ret := (some .int)) (by decide +kernel) rfl ?_
  intro p e s m args below meth c s₁ B hml hv
  obtain ⟨hav, hP, hK, hX⟩ := hv
  have hx := B.exec
  have hb := B.bytes
  have hr := B.returns
  have hts := atoms_spec (ws := wsX8_whyNotPut) B.pre
  have hown : s.vm.findClass RX8 = some m.cls := findClass_of_methodNamed B.named
  have hlocks := B.notSynchronized
  have hS : va_S (fun _ => False) s.heap s.heap [] := va_S.rf
  refine wstart (rm := rm_X8_whyNotPut) hav (Nat.le_of_ble_eq_true rfl) (fun QQ ls hQQ hl => ?_)
  have hl : lv_has ls 5 [(0, .ref h0), (1, .int x1), (2, .int x2), (3, .int x3)] := hl
  have hi_X8 : ∀ w ∈ u_ws RX8 TX8 5, w ∈ wsX8_whyNotPut := by decide +kernel
  have h := hf
  unfold f_X8_whyNotPut at h
  refine lv_aload_n hx hb dX8_whyNotPut_0 rfl (lv_at hl 0 rfl) ?_
  refine lv_iload_n hx hb dX8_whyNotPut_1 rfl (lv_at hl 1 rfl) ?_
  refine lv_iload_n hx hb dX8_whyNotPut_2 rfl (lv_at hl 2 rfl) ?_
  refine lv_iload_n hx hb dX8_whyNotPut_3 rfl (lv_at hl 3 rfl) ?_
  obtain ⟨o_1865, hr_1865, h⟩ := ob h
  refine vp_callSi (va_Run.run (va_runV (As := [.int x1, .int x2, .int x3]) (rest := []) ⟨hx, hb, hml, hown, hts⟩ (c_X8_whyNoCell l dC dI cB cC cI cJ cZ cT h0 q_kinds q_tags q_cells v_columns v_rows v_kinds x1 x2 x3 o_1865 hr_1865) (cwV 3 hts gX8_whyNotPut_X8_whyNoCell rfl rfl rfl (by decide +kernel) ⟨Nat.le_of_ble_eq_true rfl, Nat.le_of_ble_eq_true rfl⟩) ⟨blR, va_recv hK hP (ci := 6) (q0 := 0) rfl rfl, fun U hU hW => ⟨rfl, by rw [hU]; exact hP.sub [0, 1] rfl, va_K.moved hW.alike hK⟩⟩ rfl rfl hl.1 rfl (lv_room (Nat.le_of_ble_eq_true rfl)) dX8_whyNotPut_4 ⟨Nat.le_of_ble_eq_true rfl, Nat.le_of_ble_eq_true rfl⟩)) (fun r_1865 e_1865 => ?_)
  subst e_1865
  refine lv_istore (lv' := [(4, .int o_1865), (0, .ref h0), (1, .int x1), (2, .int x2), (3, .int x3)]) hx hb dX8_whyNotPut_7 hl (by decide) rfl (fun ls hl => ?_)
  refine lv_iload hx hb dX8_whyNotPut_9 (lv_at hl 0 rfl) ?_
  refine lv_if_eq (tgt := 17) hx hb dX8_whyNotPut_11 (by decide) (fun c_1867 => ?_) (fun c_1867 => ?_)
  · replace h := op c_1867 h
    refine lv_iload_n hx hb dX8_whyNotPut_17 rfl (lv_at hl 4 rfl) ?_
    obtain ⟨o_1868, hr_1868, h⟩ := ob h
    refine vp_callSi (va_Run.run (va_runS (As := [.int x3]) (rest := []) ⟨hx, hb, hml, hown, hts⟩ (c_X3_toldKind l dC dI cB cC cI cJ cZ cT x3 o_1868 hr_1868) (va_cwS 1 hts gX8_whyNotPut_X3_toldKind rfl rfl rfl (by decide +kernel) ⟨Nat.le_of_ble_eq_true rfl, Nat.le_of_ble_eq_true rfl⟩) ⟨blT, fun U hU hW => ⟨rfl, trivial⟩⟩ rfl rfl hl.1 rfl (lv_room (Nat.le_of_ble_eq_true rfl)) dX8_whyNotPut_18 ⟨Nat.le_of_ble_eq_true rfl, Nat.le_of_ble_eq_true rfl⟩)) (fun r_1868 e_1868 => ?_)
    subst e_1868
    refine lv_aload_n hx hb dX8_whyNotPut_21 rfl (lv_at hl 1 rfl) ?_
    refine va_get (D := (dC, dI)) (ci := 6) (v := .ref q_kinds) (C := RX8) (T := TX8) (N := 5) hx hb hts hi_X8 hown hK hP 0 rfl rfl 0 (by decide) (hts _ (List.mem_of_getElem? (i := 1) rfl)) (fun _ h9 => h9) rfl dX8_whyNotPut_22 ?_
    refine lv_iload_n hx hb dX8_whyNotPut_25 rfl (lv_at hl 2 rfl) ?_
    obtain ⟨hi_1870, h⟩ := og h
    refine va_iald hx hb hK hP 1 0 rfl rfl hi_1870 dX8_whyNotPut_26 ?_
    obtain ⟨o_1871, hr_1871, h⟩ := ob h
    refine vp_callSi (va_Run.run (va_runS (As := [.int o_1868, .int (v_kinds (x1).toNatClampNeg)]) (rest := []) ⟨hx, hb, hml, hown, hts⟩ (c_X3_fits l dC dI cB cC cI cJ cZ cT o_1868 (v_kinds (x1).toNatClampNeg) o_1871 hr_1871) (va_cwS 2 hts gX8_whyNotPut_X3_fits rfl rfl rfl (by decide +kernel) ⟨Nat.le_of_ble_eq_true rfl, Nat.le_of_ble_eq_true rfl⟩) ⟨blTX, fun U hU hW => ⟨rfl, by show SX (fun _ => False) U U.heap; rw [hU]; exact SX.use hW hS hX⟩⟩ rfl rfl hl.1 rfl (lv_room (Nat.le_of_ble_eq_true rfl)) dX8_whyNotPut_27 ⟨Nat.le_of_ble_eq_true rfl, Nat.le_of_ble_eq_true rfl⟩)) (fun r_1871 e_1871 => ?_)
    subst e_1871
    refine lv_if_eq (tgt := 37) hx hb dX8_whyNotPut_30 (by decide) (fun c_1873 => ?_) (fun c_1873 => ?_)
    · replace h := op c_1873 h
      refine lv_bipush (v := 6) hx hb dX8_whyNotPut_37 (by decide) ?_
      rw [hQQ]
      exact W.iret hx hb hr (fun t ht hW => ⟨_, rfl, (Option.some.inj h).symm, ht⟩) (fun q hq => absurd hq List.not_mem_nil) dX8_whyNotPut_39
    · replace h := on c_1873 h
      refine lv_iconst (v := 0) hx hb dX8_whyNotPut_33 (by decide) ?_
      refine lv_goto (tgt := 39) hx hb dX8_whyNotPut_34 (by decide) ?_
      rw [hQQ]
      exact W.iret hx hb hr (fun t ht hW => ⟨_, rfl, (Option.some.inj h).symm, ht⟩) (fun q hq => absurd hq List.not_mem_nil) dX8_whyNotPut_39
  · replace h := on c_1867 h
    refine lv_iload hx hb dX8_whyNotPut_14 (lv_at hl 0 rfl) ?_
    rw [hQQ]
    exact W.iret hx hb hr (fun t ht hW => ⟨_, rfl, (Option.some.inj h).symm, ht⟩) (fun q hq => absurd hq List.not_mem_nil) dX8_whyNotPut_16
def f_X8_whyNotTaken (v_rows : Int32) (v_kinds : Nat → Int32) (x1 : Int32) (x2 : Int32) (x3 : Int32) : Option Int32 :=
  ((f_X8_whyNoCell v_rows v_kinds x1 x2 x3).bind (fun o_1874 => (if o_1874 = 0 then (if x3 = (10 : Int32) then (some (0 : Int32)) else (if x1 < 0 ∨ 6 ≤ (x1).toNatClampNeg then none else ((f_X3_widens (v_kinds (x1).toNatClampNeg) x3).bind (fun o_1879 => (if (b2i o_1879) = 0 then (some (6 : Int32)) else (some (0 : Int32))))))) else (some o_1874))))
abbrev rm_X8_whyNotTaken : Room := { frames := 2, cells := 0, slots := 0, locals := 45 }
set_option maxHeartbeats 4000000 in
set_option maxRecDepth 100000 in
theorem c_X8_whyNotTaken (l : Launch) (dC : Nat → ClassId) (dI : Nat → Nat → Nat) (cB cC cI cJ cZ cT : ClassId) (h0 q_kinds q_tags q_cells : Nat) (v_columns : Int32) (v_rows : Int32) (v_kinds : Nat → Int32) (x1 : Int32) (x2 : Int32) (x3 : Int32) (o : Int32) (hf : f_X8_whyNotTaken v_rows v_kinds x1 x2 x3 = some o) : Met l yX8_whyNotTaken wsX8_whyNotTaken rm_X8_whyNotTaken (va_Pc [.ref h0, .int x1, .int x2, .int x3] (fun U => va_P (dC, dI) vwCl [(h0, .inr (6, [.ref q_kinds, .ref q_tags, .ref q_cells, .int v_columns, .int v_rows])), (q_kinds, .inl (cI, 6, .inl v_kinds))] U.heap ∧ va_K (dC, dI) vwCl (tyA cB cC cI cJ cZ cT) U ∧ SX (fun _ => False) U U.heap)) (vp_Si (fun r => o = r)) 0 0 (fun _ => False) := by
  refine Met.ofW (cc := cX8_whyNotTaken) (maxL := 5) (ret := (some .int)) (by decide +kernel) rfl ?_
  intro p e s m args below meth c s₁ B hml hv
  obtain ⟨hav, hP, hK, hX⟩ := hv
  have hx := B.exec
  have hb := B.bytes
  have hr := B.returns
  have hts := atoms_spec (ws := wsX8_whyNotTaken) B.pre
  have hown : s.vm.findClass RX8 = some m.cls := findClass_of_methodNamed B.named
  have hlocks := B.notSynchronized
  have hS : va_S (fun _ => False) s.heap s.heap [] := va_S.rf
  refine wstart (rm := rm_X8_whyNotTaken) hav (Nat.le_of_ble_eq_true rfl) (fun QQ ls hQQ hl => ?_)
  have hl : lv_has ls 5 [(0, .ref h0), (1, .int x1), (2, .int x2), (3, .int x3)] := hl
  have hi_X8 : ∀ w ∈ u_ws RX8 TX8 5, w ∈ wsX8_whyNotTaken := by decide +kernel
  have h := hf
  unfold f_X8_whyNotTaken at h
  refine lv_aload_n hx hb dX8_whyNotTaken_0 rfl (lv_at hl 0 rfl) ?_
  refine lv_iload_n hx hb dX8_whyNotTaken_1 rfl (lv_at hl 1 rfl) ?_
  refine lv_iload_n hx hb dX8_whyNotTaken_2 rfl (lv_at hl 2 rfl) ?_
  refine lv_iload_n hx hb dX8_whyNotTaken_3 rfl (lv_at hl 3 rfl) ?_
  obtain ⟨o_1874, hr_1874, h⟩ := ob h
  refine vp_callSi (va_Run.run (va_runV (As := [.int x1, .int x2, .int x3]) (rest := []) ⟨hx, hb, hml, hown, hts⟩ (c_X8_whyNoCell l dC dI cB cC cI cJ cZ cT h0 q_kinds q_tags q_cells v_columns v_rows v_kinds x1 x2 x3 o_1874 hr_1874) (cwV 3 hts gX8_whyNotTaken_X8_whyNoCell rfl rfl rfl (by decide +kernel) ⟨Nat.le_of_ble_eq_true rfl, Nat.le_of_ble_eq_true rfl⟩) ⟨blR, va_recv hK hP (ci := 6) (q0 := 0) rfl rfl, fun U hU hW => ⟨rfl, by rw [hU]; exact hP.sub [0, 1] rfl, va_K.moved hW.alike hK⟩⟩ rfl rfl hl.1 rfl (lv_room (Nat.le_of_ble_eq_true rfl)) dX8_whyNotTaken_4 ⟨Nat.le_of_ble_eq_true rfl, Nat.le_of_ble_eq_true rfl⟩)) (fun r_1874 e_1874 => ?_)
  subst e_1874
  refine lv_istore (lv' := [(4, .int o_1874), (0, .ref h0), (1, .int x1), (2, .int x2), (3, .int x3)]) hx hb dX8_whyNotTaken_7 hl (by decide) rfl (fun ls hl => ?_)
  refine lv_iload hx hb dX8_whyNotTaken_9 (lv_at hl 0 rfl) ?_
  refine lv_if_eq (tgt := 17) hx hb dX8_whyNotTaken_11 (by decide) (fun c_1876 => ?_) (fun c_1876 => ?_)
  · replace h := op c_1876 h
    refine lv_iload_n hx hb dX8_whyNotTaken_17 rfl (lv_at hl 4 rfl) ?_
    refine lv_bipush (v := 10) hx hb dX8_whyNotTaken_18 (by decide) ?_
    refine lv_icmp_eq (tgt := 36) hx hb dX8_whyNotTaken_20 (by decide) (fun c_1877 => ?_) (fun c_1877 => ?_)
    · replace h := op c_1877 h
      refine lv_iconst (v := 0) hx hb dX8_whyNotTaken_36 (by decide) ?_
      refine lv_goto (tgt := 42) hx hb dX8_whyNotTaken_37 (by decide) ?_
      rw [hQQ]
      exact W.iret hx hb hr (fun t ht hW => ⟨_, rfl, (Option.some.inj h).symm, ht⟩) (fun q hq => absurd hq List.not_mem_nil) dX8_whyNotTaken_42
    · replace h := on c_1877 h
      refine lv_aload_n hx hb dX8_whyNotTaken_23 rfl (lv_at hl 1 rfl) ?_
      refine va_get (D := (dC, dI)) (ci := 6) (v := .ref q_kinds) (C := RX8) (T := TX8) (N := 5) hx hb hts hi_X8 hown hK hP 0 rfl rfl 0 (by decide) (hts _ (List.mem_of_getElem? (i := 1) rfl)) (fun _ h9 => h9) rfl dX8_whyNotTaken_24 ?_
      refine lv_iload_n hx hb dX8_whyNotTaken_27 rfl (lv_at hl 2 rfl) ?_
      obtain ⟨hi_1878, h⟩ := og h
      refine va_iald hx hb hK hP 1 0 rfl rfl hi_1878 dX8_whyNotTaken_28 ?_
      refine lv_iload_n hx hb dX8_whyNotTaken_29 rfl (lv_at hl 4 rfl) ?_
      obtain ⟨o_1879, hr_1879, h⟩ := ob h
      refine vp_callSi (va_Run.run (va_runS (As := [.int (v_kinds (x1).toNatClampNeg), .int x3]) (rest := []) ⟨hx, hb, hml, hown, hts⟩ (c_X3_widens l dC dI cB cC cI cJ cZ cT (v_kinds (x1).toNatClampNeg) x3 o_1879 hr_1879) (va_cwS 2 hts gX8_whyNotTaken_X3_widens rfl rfl rfl (by decide +kernel) ⟨Nat.le_of_ble_eq_true rfl, Nat.le_of_ble_eq_true rfl⟩) ⟨blTX, fun U hU hW => ⟨rfl, by show SX (fun _ => False) U U.heap; rw [hU]; exact SX.use hW hS hX⟩⟩ rfl rfl hl.1 rfl (lv_room (Nat.le_of_ble_eq_true rfl)) dX8_whyNotTaken_30 ⟨Nat.le_of_ble_eq_true rfl, Nat.le_of_ble_eq_true rfl⟩)) (fun r_1879 e_1879 => ?_)
      subst e_1879
      refine lv_if_eq (tgt := 40) hx hb dX8_whyNotTaken_33 (by decide) (fun c_1881 => ?_) (fun c_1881 => ?_)
      · replace h := op c_1881 h
        refine lv_bipush (v := 6) hx hb dX8_whyNotTaken_40 (by decide) ?_
        rw [hQQ]
        exact W.iret hx hb hr (fun t ht hW => ⟨_, rfl, (Option.some.inj h).symm, ht⟩) (fun q hq => absurd hq List.not_mem_nil) dX8_whyNotTaken_42
      · replace h := on c_1881 h
        refine lv_iconst (v := 0) hx hb dX8_whyNotTaken_36 (by decide) ?_
        refine lv_goto (tgt := 42) hx hb dX8_whyNotTaken_37 (by decide) ?_
        rw [hQQ]
        exact W.iret hx hb hr (fun t ht hW => ⟨_, rfl, (Option.some.inj h).symm, ht⟩) (fun q hq => absurd hq List.not_mem_nil) dX8_whyNotTaken_42
  · replace h := on c_1876 h
    refine lv_iload hx hb dX8_whyNotTaken_14 (lv_at hl 0 rfl) ?_
    rw [hQQ]
    exact W.iret hx hb hr (fun t ht hW => ⟨_, rfl, (Option.some.inj h).symm, ht⟩) (fun q hq => absurd hq List.not_mem_nil) dX8_whyNotTaken_16
def f_X8_store (v_kinds : Nat → Int32) (v_cells : Nat → Int64) (x1 : Int32) (x2 : Int32) (x3 : Int32) (x4 : Int64) : Option (Nat → Int64) :=
  (if x1 < 0 ∨ 6 ≤ (x1).toNatClampNeg then none else ((f_X3_widened x3 (v_kinds (x1).toNatClampNeg) x4).bind (fun o_1883 => (if ((x1 * (16 : Int32)) + x2) < 0 ∨ 96 ≤ (((x1 * (16 : Int32)) + x2)).toNatClampNeg then none else (some (vp_updL v_cells (((x1 * (16 : Int32)) + x2)).toNatClampNeg o_1883))))))
abbrev rm_X8_store : Room := { frames := 5, cells := 0, slots := 0, locals := 124 }
set_option maxHeartbeats 4000000 in
set_option maxRecDepth 100000 in
theorem c_X8_store (l : Launch) (dC : Nat → ClassId) (dI : Nat → Nat → Nat) (cB cC cI cJ cZ cT : ClassId) (h0 q_kinds q_tags q_cells : Nat) (sz : Nat) (v_columns : Int32) (v_rows : Int32) (v_kinds : Nat → Int32) (v_cells : Nat → Int64) (x1 : Int32) (x2 : Int32) (x3 : Int32) (x4 : Int64) (o : (Nat → Int64)) (hf : f_X8_store v_kinds v_cells x1 x2 x3 x4 = some o) : Met l yX8_store wsX8_store rm_X8_store (va_Pc [.ref h0, .int x1, .int x2, .int x3, .long x4] (fun U => U.heap.size = sz ∧ va_P (dC, dI) vwCl [(h0, .inr (6, [.ref q_kinds, .ref q_tags, .ref q_cells, .int v_columns, .int v_rows])), (q_kinds, .inl (cI, 6, .inl v_kinds)), (q_cells, .inl (cJ, 96, .inr (.inl v_cells)))] U.heap ∧ va_K (dC, dI) vwCl (tyA cB cC cI cJ cZ cT) U ∧ va_D (fun _ => True) [(h0, .inr (6, [.ref q_kinds, .ref q_tags, .ref q_cells, .int v_columns, .int v_rows])), (q_kinds, .inl (cI, 6, .inl v_kinds)), (q_cells, .inl (cJ, 96, .inr (.inl v_cells)))])) (va_Qv (fun _ : Unit => True) (fun _ t => va_P (dC, dI) vwCl [(h0, .inr (6, [.ref q_kinds, .ref q_tags, .ref q_cells, .int v_columns, .int v_rows])), (q_kinds, .inl (cI, 6, .inl v_kinds)), (q_cells, .inl (cJ, 96, .inr (.inl o)))] t.heap ∧ va_K (dC, dI) vwCl (tyA cB cC cI cJ cZ cT) t ∧ va_D (va_A [(h0, .inr (6, [.ref q_kinds, .ref q_tags, .ref q_cells, .int v_columns, .int v_rows])), (q_kinds, .inl (cI, 6, .inl v_kinds)), (q_cells, .inl (cJ, 96, .inr (.inl v_cells)))] sz) [(h0, .inr (6, [.ref q_kinds, .ref q_tags, .ref q_cells, .int v_columns, .int v_rows])), (q_kinds, .inl (cI, 6, .inl v_kinds)), (q_cells, .inl (cJ, 96, .inr (.inl o)))]) (va_A [(h0, .inr (6, [.ref q_kinds, .ref q_tags, .ref q_cells, .int v_columns, .int v_rows])), (q_kinds, .inl (cI, 6, .inl v_kinds)), (q_cells, .inl (cJ, 96, .inr (.inl v_cells)))] sz)) 0 0 (va_A [(h0, .inr (6, [.ref q_kinds, .ref q_tags, .ref q_cells, .int v_columns, .int v_rows])), (q_kinds, .inl (cI, 6, .inl v_kinds)), (q_cells, .inl (cJ, 96, .inr (.inl v_cells)))] sz) := by
  refine Met.ofW (cc := cX8_store) (maxL := 6) (ret := none) (by decide +kernel) rfl ?_
  intro p e s m args below meth c s₁ B hml hv
  obtain ⟨hav, hsz, hP, hK, hD0⟩ := hv
  have hx := B.exec
  have hb := B.bytes
  have hr := B.returns
  have hts := atoms_spec (ws := wsX8_store) B.pre
  have hown : s.vm.findClass RX8 = some m.cls := findClass_of_methodNamed B.named
  have hlocks := B.notSynchronized
  subst hsz
  have hD := hD0.self (sz := s.heap.size)
  generalize hAe : va_A [(h0, .inr (6, [.ref q_kinds, .ref q_tags, .ref q_cells, .int v_columns, .int v_rows])), (q_kinds, .inl (cI, 6, .inl v_kinds)), (q_cells, .inl (cJ, 96, .inr (.inl v_cells)))] s.heap.size = A at hD ⊢
  have hA : ∀ q : Nat, s.heap.size ≤ q → A q := fun q h => by rw [← hAe]; exact Or.inr h
  have hS : va_S A s.heap s.heap [] := va_S.rf
  refine wstart (rm := rm_X8_store) hav (Nat.le_of_ble_eq_true rfl) (fun QQ ls hQQ hl => ?_)
  have hl : lv_has ls 6 [(0, .ref h0), (1, .int x1), (2, .int x2), (3, .int x3), (4, .long x4)] := hl
  have hi_X8 : ∀ w ∈ u_ws RX8 TX8 5, w ∈ wsX8_store := by decide +kernel
  have h := hf
  unfold f_X8_store at h
  refine lv_aload_n hx hb dX8_store_0 rfl (lv_at hl 0 rfl) ?_
  refine va_get (D := (dC, dI)) (ci := 6) (v := .ref q_cells) (C := RX8) (T := TX8) (N := 5) hx hb hts hi_X8 hown hK hP 0 rfl rfl 2 (by decide) (hts _ (List.mem_of_getElem? (i := 1) rfl)) (fun _ h9 => h9) rfl dX8_store_1 ?_
  refine lv_iload_n hx hb dX8_store_4 rfl (lv_at hl 1 rfl) ?_
  refine lv_bipush (v := 16) hx hb dX8_store_5 (by decide) ?_
  refine lv_imul hx hb dX8_store_7 ?_
  refine lv_iload_n hx hb dX8_store_8 rfl (lv_at hl 2 rfl) ?_
  refine lv_iadd hx hb dX8_store_9 ?_
  refine lv_iload_n hx hb dX8_store_10 rfl (lv_at hl 3 rfl) ?_
  refine lv_aload_n hx hb dX8_store_11 rfl (lv_at hl 0 rfl) ?_
  refine va_get (D := (dC, dI)) (ci := 6) (v := .ref q_kinds) (C := RX8) (T := TX8) (N := 5) hx hb hts hi_X8 hown hK hP 0 rfl rfl 0 (by decide) (hts _ (List.mem_of_getElem? (i := 2) rfl)) (fun _ h9 => h9) rfl dX8_store_12 ?_
  refine lv_iload_n hx hb dX8_store_15 rfl (lv_at hl 1 rfl) ?_
  obtain ⟨hi_1882, h⟩ := og h
  refine va_iald hx hb hK hP 1 0 rfl rfl hi_1882 dX8_store_16 ?_
  refine lv_lload hx hb dX8_store_17 (lv_at hl 4 rfl) ?_
  obtain ⟨o_1883, hr_1883, h⟩ := ob h
  refine vp_callSl (va_Run.run (va_runS (As := [.int x3, .int (v_kinds (x1).toNatClampNeg), .long x4]) (rest := [.int ((x1 * (16 : Int32)) + x2), .ref q_cells]) ⟨hx, hb, hml, hown, hts⟩ (c_X3_widened l dC dI cB cC cI cJ cZ cT x3 (v_kinds (x1).toNatClampNeg) x4 o_1883 hr_1883) (va_cwS 3 hts gX8_store_X3_widened rfl rfl rfl (by decide +kernel) ⟨Nat.le_of_ble_eq_true rfl, Nat.le_of_ble_eq_true rfl⟩) ⟨blT, fun U hU hW => ⟨rfl, trivial⟩⟩ rfl rfl hl.1 rfl (lv_room (Nat.le_of_ble_eq_true rfl)) dX8_store_19 ⟨Nat.le_of_ble_eq_true rfl, Nat.le_of_ble_eq_true rfl⟩)) (fun r_1883 e_1883 => ?_)
  subst e_1883
  obtain ⟨hi_1885, h⟩ := og h
  refine va_last hx hb hK hP hD hS 2 1 rfl rfl hi_1885 dX8_store_22 (fun H locs hP hD hS => ?_)
  replace hP : va_P (dC, dI) vwCl [(h0, .inr (6, [.ref q_kinds, .ref q_tags, .ref q_cells, .int v_columns, .int v_rows])), (q_kinds, .inl (cI, 6, .inl v_kinds)), (q_cells, .inl (cJ, 96, .inr (.inl (vp_updL v_cells (((x1 * (16 : Int32)) + x2)).toNatClampNeg o_1883))))] H := hP
  replace hD : va_D A [(h0, .inr (6, [.ref q_kinds, .ref q_tags, .ref q_cells, .int v_columns, .int v_rows])), (q_kinds, .inl (cI, 6, .inl v_kinds)), (q_cells, .inl (cJ, 96, .inr (.inl (vp_updL v_cells (((x1 * (16 : Int32)) + x2)).toNatClampNeg o_1883))))] := hD
  rw [hQQ]
  have ho := Option.some.inj h
  subst ho
  exact W.vret hx hb hr (fun t ht hW => ⟨⟨(), rfl, trivial, by rw [ht]; exact hP, va_K.moved hW.alike hK, hD⟩, hS.F ht⟩) hS.2.2 dX8_store_23
def f_X8_taken (v_kinds : Nat → Int32) (v_cells : Nat → Int64) (x1 : Int32) (x2 : Int32) (x3 : Int32) : Option Int64 :=
  ((f_X8_cell v_cells x1 x2).bind (fun o_1886 => (if x3 = (10 : Int32) then (some o_1886) else (if x1 < 0 ∨ 6 ≤ (x1).toNatClampNeg then none else ((f_X3_widened (v_kinds (x1).toNatClampNeg) x3 o_1886).bind (fun o_1890 => (some o_1890)))))))
abbrev rm_X8_taken : Room := { frames := 5, cells := 0, slots := 0, locals := 124 }
set_option maxHeartbeats 4000000 in
set_option maxRecDepth 100000 in
theorem c_X8_taken (l : Launch) (dC : Nat → ClassId) (dI : Nat → Nat → Nat) (cB cC cI cJ cZ cT : ClassId) (h0 q_kinds q_tags q_cells : Nat) (v_columns : Int32) (v_rows : Int32) (v_kinds : Nat → Int32) (v_cells : Nat → Int64) (x1 : Int32) (x2 : Int32) (x3 : Int32) (o : Int64) (hf : f_X8_taken v_kinds v_cells x1 x2 x3 = some o) : Met l yX8_taken wsX8_taken rm_X8_taken (va_Pc [.ref h0, .int x1, .int x2, .int x3] (fun U => va_P (dC, dI) vwCl [(h0, .inr (6, [.ref q_kinds, .ref q_tags, .ref q_cells, .int v_columns, .int v_rows])), (q_kinds, .inl (cI, 6, .inl v_kinds)), (q_cells, .inl (cJ, 96, .inr (.inl v_cells)))] U.heap ∧ va_K (dC, dI) vwCl (tyA cB cC cI cJ cZ cT) U)) (vp_Sl (fun r => o = r)) 0 0 (fun _ => False) := by
  refine Met.ofW (cc := cX8_taken) (maxL := 6) (ret := (some .long)) (by decide +kernel) rfl ?_
  intro p e s m args below meth c s₁ B hml hv
  obtain ⟨hav, hP, hK⟩ := hv
  have hx := B.exec
  have hb := B.bytes
  have hr := B.returns
  have hts := atoms_spec (ws := wsX8_taken) B.pre
  have hown : s.vm.findClass RX8 = some m.cls := findClass_of_methodNamed B.named
  have hlocks := B.notSynchronized
  refine wstart (rm := rm_X8_taken) hav (Nat.le_of_ble_eq_true rfl) (fun QQ ls hQQ hl => ?_)
  have hl : lv_has ls 6 [(0, .ref h0), (1, .int x1), (2, .int x2), (3, .int x3)] := hl
  have hi_X8 : ∀ w ∈ u_ws RX8 TX8 5, w ∈ wsX8_taken := by decide +kernel
  have h := hf
  unfold f_X8_taken at h
  refine lv_aload_n hx hb dX8_taken_0 rfl (lv_at hl 0 rfl) ?_
  refine lv_iload_n hx hb dX8_taken_1 rfl (lv_at hl 1 rfl) ?_
  refine lv_iload_n hx hb dX8_taken_2 rfl (lv_at hl 2 rfl) ?_
  obtain ⟨o_1886, hr_1886, h⟩ := ob h
  refine vp_callSl (va_Run.run (va_runV (As := [.int x1, .int x2]) (rest := []) ⟨hx, hb, hml, hown, hts⟩ (c_X8_cell l dC dI cB cC cI cJ cZ cT h0 q_kinds q_tags q_cells v_columns v_rows v_cells x1 x2 o_1886 hr_1886) (cwV 2 hts gX8_taken_X8_cell rfl rfl rfl (by decide +kernel) ⟨Nat.le_of_ble_eq_true rfl, Nat.le_of_ble_eq_true rfl⟩) ⟨blR, va_recv hK hP (ci := 6) (q0 := 0) rfl rfl, fun U hU hW => ⟨rfl, by rw [hU]; exact hP.sub [0, 2] rfl, va_K.moved hW.alike hK⟩⟩ rfl rfl hl.1 rfl (lv_room (Nat.le_of_ble_eq_true rfl)) dX8_taken_3 ⟨Nat.le_of_ble_eq_true rfl, Nat.le_of_ble_eq_true rfl⟩)) (fun r_1886 e_1886 => ?_)
  subst e_1886
  refine lv_lstore (lv' := [(4, .long o_1886), (0, .ref h0), (1, .int x1), (2, .int x2), (3, .int x3)]) hx hb dX8_taken_6 hl (by decide) rfl (fun ls hl => ?_)
  refine lv_iload_n hx hb dX8_taken_8 rfl (lv_at hl 4 rfl) ?_
  refine lv_bipush (v := 10) hx hb dX8_taken_9 (by decide) ?_
  refine lv_icmp_ne (tgt := 19) hx hb dX8_taken_11 (by decide) (fun c_1888 => ?_) (fun c_1888 => ?_)
  · replace h := on c_1888 h
    refine lv_aload_n hx hb dX8_taken_19 rfl (lv_at hl 1 rfl) ?_
    refine va_get (D := (dC, dI)) (ci := 6) (v := .ref q_kinds) (C := RX8) (T := TX8) (N := 5) hx hb hts hi_X8 hown hK hP 0 rfl rfl 0 (by decide) (hts _ (List.mem_of_getElem? (i := 1) rfl)) (fun _ h9 => h9) rfl dX8_taken_20 ?_
    refine lv_iload_n hx hb dX8_taken_23 rfl (lv_at hl 2 rfl) ?_
    obtain ⟨hi_1889, h⟩ := og h
    refine va_iald hx hb hK hP 1 0 rfl rfl hi_1889 dX8_taken_24 ?_
    refine lv_iload_n hx hb dX8_taken_25 rfl (lv_at hl 4 rfl) ?_
    refine lv_lload hx hb dX8_taken_26 (lv_at hl 0 rfl) ?_
    obtain ⟨o_1890, hr_1890, h⟩ := ob h
    refine vp_callSl (va_Run.run (va_runS (As := [.int (v_kinds (x1).toNatClampNeg), .int x3, .long o_1886]) (rest := []) ⟨hx, hb, hml, hown, hts⟩ (c_X3_widened l dC dI cB cC cI cJ cZ cT (v_kinds (x1).toNatClampNeg) x3 o_1886 o_1890 hr_1890) (va_cwS 3 hts gX8_taken_X3_widened rfl rfl rfl (by decide +kernel) ⟨Nat.le_of_ble_eq_true rfl, Nat.le_of_ble_eq_true rfl⟩) ⟨blT, fun U hU hW => ⟨rfl, trivial⟩⟩ rfl rfl hl.1 rfl (lv_room (Nat.le_of_ble_eq_true rfl)) dX8_taken_28 ⟨Nat.le_of_ble_eq_true rfl, Nat.le_of_ble_eq_true rfl⟩)) (fun r_1890 e_1890 => ?_)
    subst e_1890
    rw [hQQ]
    exact W.lret hx hb hr (fun t ht hW => ⟨_, rfl, (Option.some.inj h).symm, ht⟩) (fun q hq => absurd hq List.not_mem_nil) dX8_taken_31
  · replace h := op c_1888 h
    refine lv_lload hx hb dX8_taken_14 (lv_at hl 0 rfl) ?_
    refine lv_goto (tgt := 31) hx hb dX8_taken_16 (by decide) ?_
    rw [hQQ]
    exact W.lret hx hb hr (fun t ht hW => ⟨_, rfl, (Option.some.inj h).symm, ht⟩) (fun q hq => absurd hq List.not_mem_nil) dX8_taken_31
def f_X8_copyCell (v_rows : Int32) (v_kinds : Nat → Int32) (v_cells : Nat → Int64) (x1 : Int32) (x2 : Int32) (x3 : Int32) : Option (Bool × (Nat → Int64)) :=
  ((f_X8_cell v_cells x1 x3).bind (fun o_1892 => (if x1 < 0 ∨ 6 ≤ (x1).toNatClampNeg then none else ((f_X3_ownWay (v_kinds (x1).toNatClampNeg) o_1892).bind (fun o_1895 => ((f_X8_whyNotPut v_rows v_kinds x2 x3 o_1895).bind (fun o_1897 => (if o_1897 = 0 then ((f_X3_toldKind o_1895).bind (fun o_1900 => ((f_X8_store v_kinds v_cells x2 x3 o_1900 o_1892).bind (fun o_1902 => (some (true, o_1902)))))) else (some (false, v_cells))))))))))
abbrev rm_X8_copyCell : Room := { frames := 6, cells := 0, slots := 0, locals := 149 }
set_option maxHeartbeats 4000000 in
set_option maxRecDepth 100000 in
theorem c_X8_copyCell (l : Launch) (dC : Nat → ClassId) (dI : Nat → Nat → Nat) (cB cC cI cJ cZ cT : ClassId) (h0 q_kinds q_tags q_cells : Nat) (sz : Nat) (v_columns : Int32) (v_rows : Int32) (v_kinds : Nat → Int32) (v_cells : Nat → Int64) (x1 : Int32) (x2 : Int32) (x3 : Int32) (o : (Bool × (Nat → Int64))) (hf : f_X8_copyCell v_rows v_kinds v_cells x1 x2 x3 = some o) : Met l yX8_copyCell wsX8_copyCell rm_X8_copyCell (va_Pc [.ref h0, .int x1, .int x2, .int x3] (fun U => U.heap.size = sz ∧ va_P (dC, dI) vwCl [(h0, .inr (6, [.ref q_kinds, .ref q_tags, .ref q_cells, .int v_columns, .int v_rows])), (q_kinds, .inl (cI, 6, .inl v_kinds)), (q_cells, .inl (cJ, 96, .inr (.inl v_cells)))] U.heap ∧ va_K (dC, dI) vwCl (tyA cB cC cI cJ cZ cT) U ∧ va_D (fun _ => True) [(h0, .inr (6, [.ref q_kinds, .ref q_tags, .ref q_cells, .int v_columns, .int v_rows])), (q_kinds, .inl (cI, 6, .inl v_kinds)), (q_cells, .inl (cJ, 96, .inr (.inl v_cells)))] ∧ SX (va_A [(h0, .inr (6, [.ref q_kinds, .ref q_tags, .ref q_cells, .int v_columns, .int v_rows])), (q_kinds, .inl (cI, 6, .inl v_kinds)), (q_cells, .inl (cJ, 96, .inr (.inl v_cells)))] sz) U U.heap)) (va_Qi (fun (r : Int32) (_ : Unit) => b2i o.1 = r) (fun _ t => va_P (dC, dI) vwCl [(h0, .inr (6, [.ref q_kinds, .ref q_tags, .ref q_cells, .int v_columns, .int v_rows])), (q_kinds, .inl (cI, 6, .inl v_kinds)), (q_cells, .inl (cJ, 96, .inr (.inl o.2)))] t.heap ∧ va_K (dC, dI) vwCl (tyA cB cC cI cJ cZ cT) t ∧ va_D (va_A [(h0, .inr (6, [.ref q_kinds, .ref q_tags, .ref q_cells, .int v_columns, .int v_rows])), (q_kinds, .inl (cI, 6, .inl v_kinds)), (q_cells, .inl (cJ, 96, .inr (.inl v_cells)))] sz) [(h0, .inr (6, [.ref q_kinds, .ref q_tags, .ref q_cells, .int v_columns, .int v_rows])), (q_kinds, .inl (cI, 6, .inl v_kinds)), (q_cells, .inl (cJ, 96, .inr (.inl o.2)))]) (va_A [(h0, .inr (6, [.ref q_kinds, .ref q_tags, .ref q_cells, .int v_columns, .int v_rows])), (q_kinds, .inl (cI, 6, .inl v_kinds)), (q_cells, .inl (cJ, 96, .inr (.inl v_cells)))] sz)) 0 0 (va_A [(h0, .inr (6, [.ref q_kinds, .ref q_tags, .ref q_cells, .int v_columns, .int v_rows])), (q_kinds, .inl (cI, 6, .inl v_kinds)), (q_cells, .inl (cJ, 96, .inr (.inl v_cells)))] sz) := by
  refine Met.ofW (cc := cX8_copyCell) (maxL := 7) (ret := (some .boolean)) (by decide +kernel) rfl ?_
  intro p e s m args below meth c s₁ B hml hv
  obtain ⟨hav, hsz, hP, hK, hD0, hX⟩ := hv
  have hx := B.exec
  have hb := B.bytes
  have hr := B.returns
  have hts := atoms_spec (ws := wsX8_copyCell) B.pre
  have hown : s.vm.findClass RX8 = some m.cls := findClass_of_methodNamed B.named
  have hlocks := B.notSynchronized
  subst hsz
  have hD := hD0.self (sz := s.heap.size)
  generalize hAe : va_A [(h0, .inr (6, [.ref q_kinds, .ref q_tags, .ref q_cells, .int v_columns, .int v_rows])), (q_kinds, .inl (cI, 6, .inl v_kinds)), (q_cells, .inl (cJ, 96, .inr (.inl v_cells)))] s.heap.size = A at hD hX ⊢
  have hA : ∀ q : Nat, s.heap.size ≤ q → A q := fun q h => by rw [← hAe]; exact Or.inr h
  have hS : va_S A s.heap s.heap [] := va_S.rf
  refine wstart (rm := rm_X8_copyCell) hav (Nat.le_of_ble_eq_true rfl) (fun QQ ls hQQ hl => ?_)
  have hl : lv_has ls 7 [(0, .ref h0), (1, .int x1), (2, .int x2), (3, .int x3)] := hl
  have hi_X8 : ∀ w ∈ u_ws RX8 TX8 5, w ∈ wsX8_copyCell := by decide +kernel
  have h := hf
  unfold f_X8_copyCell at h
  refine lv_aload_n hx hb dX8_copyCell_0 rfl (lv_at hl 0 rfl) ?_
  refine lv_iload_n hx hb dX8_copyCell_1 rfl (lv_at hl 1 rfl) ?_
  refine lv_iload_n hx hb dX8_copyCell_2 rfl (lv_at hl 3 rfl) ?_
  obtain ⟨o_1892, hr_1892, h⟩ := ob h
  refine vp_callSl (va_Run.run (va_runV (As := [.int x1, .int x3]) (rest := []) ⟨hx, hb, hml, hown, hts⟩ (c_X8_cell l dC dI cB cC cI cJ cZ cT h0 q_kinds q_tags q_cells v_columns v_rows v_cells x1 x3 o_1892 hr_1892) (cwV 2 hts gX8_copyCell_X8_cell rfl rfl rfl (by decide +kernel) ⟨Nat.le_of_ble_eq_true rfl, Nat.le_of_ble_eq_true rfl⟩) ⟨blR, va_recv hK hP (ci := 6) (q0 := 0) rfl rfl, fun U hU hW => ⟨rfl, by rw [hU]; exact hP.sub [0, 2] rfl, va_K.moved hW.alike hK⟩⟩ rfl rfl hl.1 rfl (lv_room (Nat.le_of_ble_eq_true rfl)) dX8_copyCell_3 ⟨Nat.le_of_ble_eq_true rfl, Nat.le_of_ble_eq_true rfl⟩)) (fun r_1892 e_1892 => ?_)
  subst e_1892
  refine lv_lstore (lv' := [(4, .long o_1892), (0, .ref h0), (1, .int x1), (2, .int x2), (3, .int x3)]) hx hb dX8_copyCell_6 hl (by decide) rfl (fun ls hl => ?_)
  refine lv_aload_n hx hb dX8_copyCell_8 rfl (lv_at hl 1 rfl) ?_
  refine va_get (D := (dC, dI)) (ci := 6) (v := .ref q_kinds) (C := RX8) (T := TX8) (N := 5) hx hb hts hi_X8 hown hK hP 0 rfl rfl 0 (by decide) (hts _ (List.mem_of_getElem? (i := 1) rfl)) (fun _ h9 => h9) rfl dX8_copyCell_9 ?_
  refine lv_iload_n hx hb dX8_copyCell_12 rfl (lv_at hl 2 rfl) ?_
  obtain ⟨hi_1894, h⟩ := og h
  refine va_iald hx hb hK hP 1 0 rfl rfl hi_1894 dX8_copyCell_13 ?_
  refine lv_lload hx hb dX8_copyCell_14 (lv_at hl 0 rfl) ?_
  obtain ⟨o_1895, hr_1895, h⟩ := ob h
  refine vp_callSi (va_Run.run (va_runS (As := [.int (v_kinds (x1).toNatClampNeg), .long o_1892]) (rest := []) ⟨hx, hb, hml, hown, hts⟩ (c_X3_ownWay l dC dI cB cC cI cJ cZ cT (v_kinds (x1).toNatClampNeg) o_1892 o_1895 hr_1895) (va_cwS 2 hts gX8_copyCell_X3_ownWay rfl rfl rfl (by decide +kernel) ⟨Nat.le_of_ble_eq_true rfl, Nat.le_of_ble_eq_true rfl⟩) ⟨blT, fun U hU hW => ⟨rfl, trivial⟩⟩ rfl rfl hl.1 rfl (lv_room (Nat.le_of_ble_eq_true rfl)) dX8_copyCell_16 ⟨Nat.le_of_ble_eq_true rfl, Nat.le_of_ble_eq_true rfl⟩)) (fun r_1895 e_1895 => ?_)
  subst e_1895
  refine lv_istore (lv' := [(6, .int o_1895), (4, .long o_1892), (0, .ref h0), (1, .int x1), (2, .int x2), (3, .int x3)]) hx hb dX8_copyCell_19 hl (by decide) rfl (fun ls hl => ?_)
  refine lv_aload_n hx hb dX8_copyCell_21 rfl (lv_at hl 2 rfl) ?_
  refine lv_iload_n hx hb dX8_copyCell_22 rfl (lv_at hl 4 rfl) ?_
  refine lv_iload_n hx hb dX8_copyCell_23 rfl (lv_at hl 5 rfl) ?_
  refine lv_iload hx hb dX8_copyCell_24 (lv_at hl 0 rfl) ?_
  obtain ⟨o_1897, hr_1897, h⟩ := ob h
  refine vp_callSi (va_Run.run (va_runV (As := [.int x2, .int x3, .int o_1895]) (rest := []) ⟨hx, hb, hml, hown, hts⟩ (c_X8_whyNotPut l dC dI cB cC cI cJ cZ cT h0 q_kinds q_tags q_cells v_columns v_rows v_kinds x2 x3 o_1895 o_1897 hr_1897) (cwV 3 hts gX8_copyCell_X8_whyNotPut rfl rfl rfl (by decide +kernel) ⟨Nat.le_of_ble_eq_true rfl, Nat.le_of_ble_eq_true rfl⟩) ⟨blRX, va_recv hK hP (ci := 6) (q0 := 0) rfl rfl, fun U hU hW => ⟨rfl, by rw [hU]; exact hP.sub [0, 1] rfl, va_K.moved hW.alike hK, by rw [hU]; exact SX.use hW hS hX⟩⟩ rfl rfl hl.1 rfl (lv_room (Nat.le_of_ble_eq_true rfl)) dX8_copyCell_26 ⟨Nat.le_of_ble_eq_true rfl, Nat.le_of_ble_eq_true rfl⟩)) (fun r_1897 e_1897 => ?_)
  subst e_1897
  refine lv_if_eq (tgt := 34) hx hb dX8_copyCell_29 (by decide) (fun c_1899 => ?_) (fun c_1899 => ?_)
  · replace h := op c_1899 h
    refine lv_aload_n hx hb dX8_copyCell_34 rfl (lv_at hl 2 rfl) ?_
    refine lv_iload_n hx hb dX8_copyCell_35 rfl (lv_at hl 4 rfl) ?_
    refine lv_iload_n hx hb dX8_copyCell_36 rfl (lv_at hl 5 rfl) ?_
    refine lv_iload hx hb dX8_copyCell_37 (lv_at hl 0 rfl) ?_
    obtain ⟨o_1900, hr_1900, h⟩ := ob h
    refine vp_callSi (va_Run.run (va_runS (As := [.int o_1895]) (rest := [.int x3, .int x2, .ref h0]) ⟨hx, hb, hml, hown, hts⟩ (c_X3_toldKind l dC dI cB cC cI cJ cZ cT o_1895 o_1900 hr_1900) (va_cwS 1 hts gX8_copyCell_X3_toldKind rfl rfl rfl (by decide +kernel) ⟨Nat.le_of_ble_eq_true rfl, Nat.le_of_ble_eq_true rfl⟩) ⟨blT, fun U hU hW => ⟨rfl, trivial⟩⟩ rfl rfl hl.1 rfl (lv_room (Nat.le_of_ble_eq_true rfl)) dX8_copyCell_39 ⟨Nat.le_of_ble_eq_true rfl, Nat.le_of_ble_eq_true rfl⟩)) (fun r_1900 e_1900 => ?_)
    subst e_1900
    refine lv_lload hx hb dX8_copyCell_42 (lv_at hl 1 rfl) ?_
    obtain ⟨o_1902, hr_1902, h⟩ := ob h
    have hPc := hP.sub (ws' := [(h0, .inr (6, [.ref q_kinds, .ref q_tags, .ref q_cells, .int v_columns, .int v_rows])), (q_kinds, .inl (cI, 6, .inl v_kinds)), (q_cells, .inl (cJ, 96, .inr (.inl v_cells)))]) [0, 1, 2] rfl
    have hDc := hD.sub (ws' := [(h0, .inr (6, [.ref q_kinds, .ref q_tags, .ref q_cells, .int v_columns, .int v_rows])), (q_kinds, .inl (cI, 6, .inl v_kinds)), (q_cells, .inl (cJ, 96, .inr (.inl v_cells)))]) [0, 1, 2] (by decide) rfl
    have hFc := va_free (wc := [(h0, .inr (6, [.ref q_kinds, .ref q_tags, .ref q_cells, .int v_columns, .int v_rows])), (q_kinds, .inl (cI, 6, .inl v_kinds)), (q_cells, .inl (cJ, 96, .inr (.inl v_cells)))]) hD hS hA [0, 1, 2] rfl
    refine va_callv (va_runV (As := [.int x2, .int x3, .int o_1900, .long o_1892]) (rest := []) ⟨hx, hb, hml, hown, hts⟩ (c_X8_store l dC dI cB cC cI cJ cZ cT h0 q_kinds q_tags q_cells s.heap.size v_columns v_rows v_kinds v_cells x2 x3 o_1900 o_1892 o_1902 hr_1902) (cwV 4 hts gX8_copyCell_X8_store rfl rfl rfl (by decide +kernel) ⟨Nat.le_of_ble_eq_true rfl, Nat.le_of_ble_eq_true rfl⟩) ⟨blW, va_recv hK hP (ci := 6) (q0 := 0) rfl rfl, fun U hU hW => ⟨rfl, by rw [hU], by rw [hU]; exact hPc, va_K.moved hW.alike hK, hDc.weaken (fun _ _ _ _ => trivial)⟩⟩ rfl rfl hl.1 rfl (lv_room (Nat.le_of_ble_eq_true rfl)) dX8_copyCell_44 ⟨Nat.le_of_ble_eq_true rfl, Nat.le_of_ble_eq_true rfl⟩) hS (fun q _ h => hFc q h) hFc (fun u_1902 t_1902 H locs ht hvm e_1902 hB hz1 hk1 hS => ?_)
    obtain ⟨hP1, -, hD1⟩ := hB
    rw [ht] at hP1
    obtain ⟨hP, hD⟩ := va_join (wr := []) (w1 := [(h0, .inr (6, [.ref q_kinds, .ref q_tags, .ref q_cells, .int v_columns, .int v_rows])), (q_kinds, .inl (cI, 6, .inl v_kinds)), (q_cells, .inl (cJ, 96, .inr (.inl o_1902)))]) hP hD [0, 1, 2] [] rfl rfl (by decide) (by decide) hk1 hFc hP1 hD1
    replace hP := hP.sub (ws' := [(h0, .inr (6, [.ref q_kinds, .ref q_tags, .ref q_cells, .int v_columns, .int v_rows])), (q_kinds, .inl (cI, 6, .inl v_kinds)), (q_cells, .inl (cJ, 96, .inr (.inl o_1902)))]) [0, 1, 2] rfl
    replace hD := hD.sub (ws' := [(h0, .inr (6, [.ref q_kinds, .ref q_tags, .ref q_cells, .int v_columns, .int v_rows])), (q_kinds, .inl (cI, 6, .inl v_kinds)), (q_cells, .inl (cJ, 96, .inr (.inl o_1902)))]) [0, 1, 2] (by decide) rfl
    refine lv_iconst (v := 1) hx hb dX8_copyCell_47 (by decide) ?_
    rw [hQQ]
    have ho := Option.some.inj h
    subst ho
    exact W.zret hx hb hr rfl (fun t ht hW => ⟨⟨_, (), rfl, rfl, by rw [ht]; exact hP, va_K.moved hW.alike hK, hD⟩, hS.F ht⟩) hS.2.2 dX8_copyCell_48
  · replace h := on c_1899 h
    refine lv_iconst (v := 0) hx hb dX8_copyCell_32 (by decide) ?_
    rw [hQQ]
    have ho := Option.some.inj h
    subst ho
    exact W.zret hx hb hr rfl (fun t ht hW => ⟨⟨_, (), rfl, rfl, by rw [ht]; exact hP, va_K.moved hW.alike hK, hD⟩, hS.F ht⟩) hS.2.2 dX8_copyCell_33
def f_X8_sameWorth (v_kinds : Nat → Int32) (v_cells : Nat → Int64) (x1 : Int32) (x2 : Int32) (x3 : Int32) : Option Bool :=
  (if x1 < 0 ∨ 6 ≤ (x1).toNatClampNeg then none else ((f_X8_cell v_cells x1 x3).bind (fun o_1905 => (if x2 < 0 ∨ 6 ≤ (x2).toNatClampNeg then none else ((f_X8_cell v_cells x2 x3).bind (fun o_1908 => ((f_X3_sameWorth (v_kinds (x1).toNatClampNeg) o_1905 (v_kinds (x2).toNatClampNeg) o_1908).bind (fun o_1910 => (some o_1910)))))))))
abbrev rm_X8_sameWorth : Room := { frames := 6, cells := 0, slots := 0, locals := 150 }
set_option maxHeartbeats 4000000 in
set_option maxRecDepth 100000 in
theorem c_X8_sameWorth (l : Launch) (dC : Nat → ClassId) (dI : Nat → Nat → Nat) (cB cC cI cJ cZ cT : ClassId) (h0 q_kinds q_tags q_cells : Nat) (v_columns : Int32) (v_rows : Int32) (v_kinds : Nat → Int32) (v_cells : Nat → Int64) (x1 : Int32) (x2 : Int32) (x3 : Int32) (o : Bool) (hf : f_X8_sameWorth v_kinds v_cells x1 x2 x3 = some o) : Met l yX8_sameWorth wsX8_sameWorth rm_X8_sameWorth (va_Pc [.ref h0, .int x1, .int x2, .int x3] (fun U => va_P (dC, dI) vwCl [(h0, .inr (6, [.ref q_kinds, .ref q_tags, .ref q_cells, .int v_columns, .int v_rows])), (q_kinds, .inl (cI, 6, .inl v_kinds)), (q_cells, .inl (cJ, 96, .inr (.inl v_cells)))] U.heap ∧ va_K (dC, dI) vwCl (tyA cB cC cI cJ cZ cT) U)) (vp_Si (fun r => b2i o = r)) 0 0 (fun _ => False) := by
  refine Met.ofW (cc := cX8_sameWorth) (maxL := 4) (ret := (some .boolean)) (by decide +kernel) rfl ?_
  intro p e s m args below meth c s₁ B hml hv
  obtain ⟨hav, hP, hK⟩ := hv
  have hx := B.exec
  have hb := B.bytes
  have hr := B.returns
  have hts := atoms_spec (ws := wsX8_sameWorth) B.pre
  have hown : s.vm.findClass RX8 = some m.cls := findClass_of_methodNamed B.named
  have hlocks := B.notSynchronized
  refine wstart (rm := rm_X8_sameWorth) hav (Nat.le_of_ble_eq_true rfl) (fun QQ ls hQQ hl => ?_)
  have hl : lv_has ls 4 [(0, .ref h0), (1, .int x1), (2, .int x2), (3, .int x3)] := hl
  have hi_X8 : ∀ w ∈ u_ws RX8 TX8 5, w ∈ wsX8_sameWorth := by decide +kernel
  have h := hf
  unfold f_X8_sameWorth at h
  refine lv_aload_n hx hb dX8_sameWorth_0 rfl (lv_at hl 0 rfl) ?_
  refine va_get (D := (dC, dI)) (ci := 6) (v := .ref q_kinds) (C := RX8) (T := TX8) (N := 5) hx hb hts hi_X8 hown hK hP 0 rfl rfl 0 (by decide) (hts _ (List.mem_of_getElem? (i := 1) rfl)) (fun _ h9 => h9) rfl dX8_sameWorth_1 ?_
  refine lv_iload_n hx hb dX8_sameWorth_4 rfl (lv_at hl 1 rfl) ?_
  obtain ⟨hi_1904, h⟩ := og h
  refine va_iald hx hb hK hP 1 0 rfl rfl hi_1904 dX8_sameWorth_5 ?_
  refine lv_aload_n hx hb dX8_sameWorth_6 rfl (lv_at hl 0 rfl) ?_
  refine lv_iload_n hx hb dX8_sameWorth_7 rfl (lv_at hl 1 rfl) ?_
  refine lv_iload_n hx hb dX8_sameWorth_8 rfl (lv_at hl 3 rfl) ?_
  obtain ⟨o_1905, hr_1905, h⟩ := ob h
  refine vp_callSl (va_Run.run (va_runV (As := [.int x1, .int x3]) (rest := [.int (v_kinds (x1).toNatClampNeg)]) ⟨hx, hb, hml, hown, hts⟩ (c_X8_cell l dC dI cB cC cI cJ cZ cT h0 q_kinds q_tags q_cells v_columns v_rows v_cells x1 x3 o_1905 hr_1905) (cwV 2 hts gX8_sameWorth_X8_cell rfl rfl rfl (by decide +kernel) ⟨Nat.le_of_ble_eq_true rfl, Nat.le_of_ble_eq_true rfl⟩) ⟨blR, va_recv hK hP (ci := 6) (q0 := 0) rfl rfl, fun U hU hW => ⟨rfl, by rw [hU]; exact hP.sub [0, 2] rfl, va_K.moved hW.alike hK⟩⟩ rfl rfl hl.1 rfl (lv_room (Nat.le_of_ble_eq_true rfl)) dX8_sameWorth_9 ⟨Nat.le_of_ble_eq_true rfl, Nat.le_of_ble_eq_true rfl⟩)) (fun r_1905 e_1905 => ?_)
  subst e_1905
  refine lv_aload_n hx hb dX8_sameWorth_12 rfl (lv_at hl 0 rfl) ?_
  refine va_get (D := (dC, dI)) (ci := 6) (v := .ref q_kinds) (C := RX8) (T := TX8) (N := 5) hx hb hts hi_X8 hown hK hP 0 rfl rfl 0 (by decide) (hts _ (List.mem_of_getElem? (i := 1) rfl)) (fun _ h9 => h9) rfl dX8_sameWorth_13 ?_
  refine lv_iload_n hx hb dX8_sameWorth_16 rfl (lv_at hl 2 rfl) ?_
  obtain ⟨hi_1907, h⟩ := og h
  refine va_iald hx hb hK hP 1 0 rfl rfl hi_1907 dX8_sameWorth_17 ?_
  refine lv_aload_n hx hb dX8_sameWorth_18 rfl (lv_at hl 0 rfl) ?_
  refine lv_iload_n hx hb dX8_sameWorth_19 rfl (lv_at hl 2 rfl) ?_
  refine lv_iload_n hx hb dX8_sameWorth_20 rfl (lv_at hl 3 rfl) ?_
  obtain ⟨o_1908, hr_1908, h⟩ := ob h
  refine vp_callSl (va_Run.run (va_runV (As := [.int x2, .int x3]) (rest := [.int (v_kinds (x2).toNatClampNeg), .long o_1905, .int (v_kinds (x1).toNatClampNeg)]) ⟨hx, hb, hml, hown, hts⟩ (c_X8_cell l dC dI cB cC cI cJ cZ cT h0 q_kinds q_tags q_cells v_columns v_rows v_cells x2 x3 o_1908 hr_1908) (cwV 2 hts gX8_sameWorth_X8_cell rfl rfl rfl (by decide +kernel) ⟨Nat.le_of_ble_eq_true rfl, Nat.le_of_ble_eq_true rfl⟩) ⟨blR, va_recv hK hP (ci := 6) (q0 := 0) rfl rfl, fun U hU hW => ⟨rfl, by rw [hU]; exact hP.sub [0, 2] rfl, va_K.moved hW.alike hK⟩⟩ rfl rfl hl.1 rfl (lv_room (Nat.le_of_ble_eq_true rfl)) dX8_sameWorth_21 ⟨Nat.le_of_ble_eq_true rfl, Nat.le_of_ble_eq_true rfl⟩)) (fun r_1908 e_1908 => ?_)
  subst e_1908
  obtain ⟨o_1910, hr_1910, h⟩ := ob h
  refine vp_callSi (va_Run.run (va_runS (As := [.int (v_kinds (x1).toNatClampNeg), .long o_1905, .int (v_kinds (x2).toNatClampNeg), .long o_1908]) (rest := []) ⟨hx, hb, hml, hown, hts⟩ (c_X3_sameWorth l dC dI cB cC cI cJ cZ cT (v_kinds (x1).toNatClampNeg) o_1905 (v_kinds (x2).toNatClampNeg) o_1908 o_1910 hr_1910) (va_cwS 4 hts gX8_sameWorth_X3_sameWorth rfl rfl rfl (by decide +kernel) ⟨Nat.le_of_ble_eq_true rfl, Nat.le_of_ble_eq_true rfl⟩) ⟨blT, fun U hU hW => ⟨rfl, trivial⟩⟩ rfl rfl hl.1 rfl (lv_room (Nat.le_of_ble_eq_true rfl)) dX8_sameWorth_24 ⟨Nat.le_of_ble_eq_true rfl, Nat.le_of_ble_eq_true rfl⟩)) (fun r_1910 e_1910 => ?_)
  subst e_1910
  rw [hQQ]
  exact W.zret hx hb hr (nzb _) (fun t ht hW => ⟨_, rfl, (congrArg b2i (Option.some.inj h).symm), ht⟩) (fun q hq => absurd hq List.not_mem_nil) dX8_sameWorth_27
def L_X8_isLikeInAll_3 (v_columns : Int32) (v_kinds : (Nat → Int32)) (v_cells : (Nat → Int64)) (x1 : Int32) (x2 : Int32) (x3 : Int32) : Nat → Int32 → Option (Unit ⊕ Bool)
  | 0, _ => none
  | n+1, x4_3 => (if v_columns ≤ x4_3 then (some (.inl ())) else (if ((x1 >>> (x4_3 &&& 31)) &&& (1 : Int32)) = 0 then (L_X8_isLikeInAll_3 v_columns v_kinds v_cells x1 x2 x3 n (x4_3 + 1)) else ((f_X8_isProper v_columns v_kinds x4_3).bind (fun o_1914 => (if (b2i o_1914) = 0 then (L_X8_isLikeInAll_3 v_columns v_kinds v_cells x1 x2 x3 n (x4_3 + 1)) else ((f_X8_isLike v_cells x4_3 x2 x3).bind (fun o_1917 => (if (b2i o_1917) = 0 then (some (.inr false)) else (L_X8_isLikeInAll_3 v_columns v_kinds v_cells x1 x2 x3 n (x4_3 + 1))))))))))
def f_X8_isLikeInAll (v_columns : Int32) (v_kinds : Nat → Int32) (v_cells : Nat → Int64) (x1 : Int32) (x2 : Int32) (x3 : Int32) : Option Bool :=
  ((L_X8_isLikeInAll_3 v_columns v_kinds v_cells x1 x2 x3 fu (0 : Int32)).bind (sm (fun u_1920 => (some true))))
abbrev rm_X8_isLikeInAll : Room := { frames := 2, cells := 0, slots := 0, locals := 45 }
set_option maxHeartbeats 4000000 in
set_option maxRecDepth 100000 in
theorem c_X8_isLikeInAll (l : Launch) (dC : Nat → ClassId) (dI : Nat → Nat → Nat) (cB cC cI cJ cZ cT : ClassId) (h0 q_kinds q_tags q_cells : Nat) (v_columns : Int32) (v_rows : Int32) (v_kinds : Nat → Int32) (v_cells : Nat → Int64) (x1 : Int32) (x2 : Int32) (x3 : Int32) (o : Bool) (hf : f_X8_isLikeInAll v_columns v_kinds v_cells x1 x2 x3 = some o) : Met l yX8_isLikeInAll wsX8_isLikeInAll rm_X8_isLikeInAll (va_Pc [.ref h0, .int x1, .int x2, .int x3] (fun U => va_P (dC, dI) vwCl [(h0, .inr (6, [.ref q_kinds, .ref q_tags, .ref q_cells, .int v_columns, .int v_rows])), (q_kinds, .inl (cI, 6, .inl v_kinds)), (q_cells, .inl (cJ, 96, .inr (.inl v_cells)))] U.heap ∧ va_K (dC, dI) vwCl (tyA cB cC cI cJ cZ cT) U)) (vp_Si (fun r => b2i o = r)) 0 0 (fun _ => False) := by
  refine Met.ofW (cc := cX8_isLikeInAll) (maxL := 5) (ret := (some .boolean)) (by decide +kernel) rfl ?_
  intro p e s m args below meth c s₁ B hml hv
  obtain ⟨hav, hP, hK⟩ := hv
  have hx := B.exec
  have hb := B.bytes
  have hr := B.returns
  have hts := atoms_spec (ws := wsX8_isLikeInAll) B.pre
  have hown : s.vm.findClass RX8 = some m.cls := findClass_of_methodNamed B.named
  have hlocks := B.notSynchronized
  refine wstart (rm := rm_X8_isLikeInAll) hav (Nat.le_of_ble_eq_true rfl) (fun QQ ls hQQ hl => ?_)
  have hl : lv_has ls 5 [(0, .ref h0), (1, .int x1), (2, .int x2), (3, .int x3)] := hl
  have hi_X8 : ∀ w ∈ u_ws RX8 TX8 5, w ∈ wsX8_isLikeInAll := by decide +kernel
  have h := hf
  unfold f_X8_isLikeInAll at h
  refine lv_iconst (v := 0) hx hb dX8_isLikeInAll_0 (by decide) ?_
  refine lv_istore (lv' := [(4, .int (0 : Int32)), (0, .ref h0), (1, .int x1), (2, .int x2), (3, .int x3)]) hx hb dX8_isLikeInAll_1 hl (by decide) rfl (fun ls hl => ?_)
  have LP_1920 : ∀ (n : Nat) (x4_3 : Int32) (w : (Unit ⊕ Bool)) (ls : Array Slot), L_X8_isLikeInAll_3 v_columns v_kinds v_cells x1 x2 x3 n x4_3 = some w → lv_has ls 5 [(0, .ref h0), (1, .int x1), (2, .int x2), (3, .int x3), (4, .int x4_3)] → (∀ u : Unit, w = .inl u → ∀ (ls : Array Slot), lv_has ls 5 [] → W p l e rm_X8_isLikeInAll s m args below meth c s.heap [] 0 0 QQ (F0 m 49 ls [])) → (∀ r : Bool, w = .inr r → some r = some o) → W p l e rm_X8_isLikeInAll s m args below meth c s.heap [] 0 0 QQ (F0 m 3 ls []) := by
    intro n
    induction n with
    | zero => intro x4_3 w ls h; exact absurd (show none = some w from h) nofun
    | succ n ih =>
      intro x4_3 w ls h hl K KR
      rw [L_X8_isLikeInAll_3] at h
      refine lv_iload hx hb dX8_isLikeInAll_3 (lv_at hl 4 rfl) ?_
      refine lv_aload_n hx hb dX8_isLikeInAll_5 rfl (lv_at hl 0 rfl) ?_
      refine va_get (D := (dC, dI)) (ci := 6) (v := .int v_columns) (C := RX8) (T := TX8) (N := 5) hx hb hts hi_X8 hown hK hP 0 rfl rfl 3 (by decide) (hts _ (List.mem_of_getElem? (i := 1) rfl)) (fun _ h9 => h9) rfl dX8_isLikeInAll_6 ?_
      refine lv_icmp_ge (tgt := 49) hx hb dX8_isLikeInAll_9 (by decide) (fun c_1912 => ?_) (fun c_1912 => ?_)
      · replace h := op c_1912 h
        have ho := Option.some.inj h
        subst ho
        exact K _ rfl ls (lv_sub hl [] rfl)
      · replace h := on c_1912 h
        refine lv_iload_n hx hb dX8_isLikeInAll_12 rfl (lv_at hl 1 rfl) ?_
        refine lv_iload hx hb dX8_isLikeInAll_13 (lv_at hl 4 rfl) ?_
        refine lv_ishr hx hb dX8_isLikeInAll_15 ?_
        refine lv_iconst (v := 1) hx hb dX8_isLikeInAll_16 (by decide) ?_
        refine lv_iand hx hb dX8_isLikeInAll_17 ?_
        refine lv_if_eq (tgt := 43) hx hb dX8_isLikeInAll_18 (by decide) (fun c_1913 => ?_) (fun c_1913 => ?_)
        · replace h := op c_1913 h
          refine lv_iinc (v := (x4_3 + 1)) (lv' := [(4, .int (x4_3 + 1)), (0, .ref h0), (1, .int x1), (2, .int x2), (3, .int x3)]) hx hb dX8_isLikeInAll_43 hl (k := 4) rfl (by rfl) (by decide) rfl (fun ls hl => ?_)
          refine lv_goto (tgt := 3) hx hb dX8_isLikeInAll_46 (by decide) ?_
          exact ih (x4_3 + 1) w ls h (lv_sub hl [1, 2, 3, 4, 0] rfl) K KR
        · replace h := on c_1913 h
          refine lv_aload_n hx hb dX8_isLikeInAll_21 rfl (lv_at hl 0 rfl) ?_
          refine lv_iload hx hb dX8_isLikeInAll_22 (lv_at hl 4 rfl) ?_
          obtain ⟨o_1914, hr_1914, h⟩ := ob h
          refine vp_callSi (va_Run.run (va_runV (As := [.int x4_3]) (rest := []) ⟨hx, hb, hml, hown, hts⟩ (c_X8_isProper l dC dI cB cC cI cJ cZ cT h0 q_kinds q_tags q_cells v_columns v_rows v_kinds x4_3 o_1914 hr_1914) (cwV 1 hts gX8_isLikeInAll_X8_isProper rfl rfl rfl (by decide +kernel) ⟨Nat.le_of_ble_eq_true rfl, Nat.le_of_ble_eq_true rfl⟩) ⟨blR, va_recv hK hP (ci := 6) (q0 := 0) rfl rfl, fun U hU hW => ⟨rfl, by rw [hU]; exact hP.sub [0, 1] rfl, va_K.moved hW.alike hK⟩⟩ rfl rfl hl.1 rfl (lv_room (Nat.le_of_ble_eq_true rfl)) dX8_isLikeInAll_24 ⟨Nat.le_of_ble_eq_true rfl, Nat.le_of_ble_eq_true rfl⟩)) (fun r_1914 e_1914 => ?_)
          subst e_1914
          refine lv_if_eq (tgt := 43) hx hb dX8_isLikeInAll_27 (by decide) (fun c_1916 => ?_) (fun c_1916 => ?_)
          · replace h := op c_1916 h
            refine lv_iinc (v := (x4_3 + 1)) (lv' := [(4, .int (x4_3 + 1)), (0, .ref h0), (1, .int x1), (2, .int x2), (3, .int x3)]) hx hb dX8_isLikeInAll_43 hl (k := 4) rfl (by rfl) (by decide) rfl (fun ls hl => ?_)
            refine lv_goto (tgt := 3) hx hb dX8_isLikeInAll_46 (by decide) ?_
            exact ih (x4_3 + 1) w ls h (lv_sub hl [1, 2, 3, 4, 0] rfl) K KR
          · replace h := on c_1916 h
            refine lv_aload_n hx hb dX8_isLikeInAll_30 rfl (lv_at hl 0 rfl) ?_
            refine lv_iload hx hb dX8_isLikeInAll_31 (lv_at hl 4 rfl) ?_
            refine lv_iload_n hx hb dX8_isLikeInAll_33 rfl (lv_at hl 2 rfl) ?_
            refine lv_iload_n hx hb dX8_isLikeInAll_34 rfl (lv_at hl 3 rfl) ?_
            obtain ⟨o_1917, hr_1917, h⟩ := ob h
            refine vp_callSi (va_Run.run (va_runV (As := [.int x4_3, .int x2, .int x3]) (rest := []) ⟨hx, hb, hml, hown, hts⟩ (c_X8_isLike l dC dI cB cC cI cJ cZ cT h0 q_kinds q_tags q_cells v_columns v_rows v_cells x4_3 x2 x3 o_1917 hr_1917) (cwV 3 hts gX8_isLikeInAll_X8_isLike rfl rfl rfl (by decide +kernel) ⟨Nat.le_of_ble_eq_true rfl, Nat.le_of_ble_eq_true rfl⟩) ⟨blR, va_recv hK hP (ci := 6) (q0 := 0) rfl rfl, fun U hU hW => ⟨rfl, by rw [hU]; exact hP.sub [0, 2] rfl, va_K.moved hW.alike hK⟩⟩ rfl rfl hl.1 rfl (lv_room (Nat.le_of_ble_eq_true rfl)) dX8_isLikeInAll_35 ⟨Nat.le_of_ble_eq_true rfl, Nat.le_of_ble_eq_true rfl⟩)) (fun r_1917 e_1917 => ?_)
            subst e_1917
            refine lv_if_ne (tgt := 43) hx hb dX8_isLikeInAll_38 (by decide) (fun c_1919 => ?_) (fun c_1919 => ?_)
            · replace h := on c_1919 h
              refine lv_iinc (v := (x4_3 + 1)) (lv' := [(4, .int (x4_3 + 1)), (0, .ref h0), (1, .int x1), (2, .int x2), (3, .int x3)]) hx hb dX8_isLikeInAll_43 hl (k := 4) rfl (by rfl) (by decide) rfl (fun ls hl => ?_)
              refine lv_goto (tgt := 3) hx hb dX8_isLikeInAll_46 (by decide) ?_
              exact ih (x4_3 + 1) w ls h (lv_sub hl [1, 2, 3, 4, 0] rfl) K KR
            · replace h := op c_1919 h
              refine lv_iconst (v := 0) hx hb dX8_isLikeInAll_41 (by decide) ?_
              replace h := KR _ (Option.some.inj h).symm
              rw [hQQ]
              exact W.zret hx hb hr rfl (fun t ht hW => ⟨_, rfl, (congrArg b2i (Option.some.inj h).symm), ht⟩) (fun q hq => absurd hq List.not_mem_nil) dX8_isLikeInAll_42
  obtain ⟨w_1920, hw_1920, h⟩ := ob h
  refine LP_1920 fu (0 : Int32) w_1920 ls hw_1920 (lv_sub hl [1, 2, 3, 4, 0] rfl) (fun u_1920 e_1920 ls hl => ?_) (fun r_1920 e_1920 => by subst e_1920; exact h)
  subst e_1920
  replace h := sm_l h
  refine lv_iconst (v := 1) hx hb dX8_isLikeInAll_49 (by decide) ?_
  rw [hQQ]
  exact W.zret hx hb hr rfl (fun t ht hW => ⟨_, rfl, (congrArg b2i (Option.some.inj h).symm), ht⟩) (fun q hq => absurd hq List.not_mem_nil) dX8_isLikeInAll_50
def f_X8_beginsRun (v_cells : Nat → Int64) (x1 : Int32) (x2 : Int32) : Option Bool :=
  (if x2 = 0 then (some true) else ((f_X8_isLike v_cells x1 (x2 - (1 : Int32)) x2).bind (fun o_1922 => (if (b2i o_1922) = 0 then (some true) else (some false)))))
abbrev rm_X8_beginsRun : Room := { frames := 2, cells := 0, slots := 0, locals := 45 }
set_option maxHeartbeats 4000000 in
set_option maxRecDepth 100000 in
theorem c_X8_beginsRun (l : Launch) (dC : Nat → ClassId) (dI : Nat → Nat → Nat) (cB cC cI cJ cZ cT : ClassId) (h0 q_kinds q_tags q_cells : Nat) (v_columns : Int32) (v_rows : Int32) (v_cells : Nat → Int64) (x1 : Int32) (x2 : Int32) (o : Bool) (hf : f_X8_beginsRun v_cells x1 x2 = some o) : Met l yX8_beginsRun wsX8_beginsRun rm_X8_beginsRun (va_Pc [.ref h0, .int x1, .int x2] (fun U => va_P (dC, dI) vwCl [(h0, .inr (6, [.ref q_kinds, .ref q_tags, .ref q_cells, .int v_columns, .int v_rows])), (q_cells, .inl (cJ, 96, .inr (.inl v_cells)))] U.heap ∧ va_K (dC, dI) vwCl (tyA cB cC cI cJ cZ cT) U)) (vp_Si (fun r => b2i o = r)) 0 0 (fun _ => False) := by
  refine Met.ofW (cc := cX8_beginsRun) (maxL := 3) (ret := (some .boolean)) (by decide +kernel) rfl ?_
  intro p e s m args below meth c s₁ B hml hv
  obtain ⟨hav, hP, hK⟩ := hv
  have hx := B.exec
  have hb := B.bytes
  have hr := B.returns
  have hts := atoms_spec (ws := wsX8_beginsRun) B.pre
  have hown : s.vm.findClass RX8 = some m.cls := findClass_of_methodNamed B.named
  have hlocks := B.notSynchronized
  refine wstart (rm := rm_X8_beginsRun) hav (Nat.le_of_ble_eq_true rfl) (fun QQ ls hQQ hl => ?_)
  have hl : lv_has ls 3 [(0, .ref h0), (1, .int x1), (2, .int x2)] := hl
  have h := hf
  unfold f_X8_beginsRun at h
  refine lv_iload_n hx hb dX8_beginsRun_0 rfl (lv_at hl 2 rfl) ?_
  refine lv_if_eq (tgt := 16) hx hb dX8_beginsRun_1 (by decide) (fun c_1921 => ?_) (fun c_1921 => ?_)
  · replace h := op c_1921 h
    refine lv_iconst (v := 1) hx hb dX8_beginsRun_16 (by decide) ?_
    refine lv_goto (tgt := 21) hx hb dX8_beginsRun_17 (by decide) ?_
    rw [hQQ]
    exact W.zret hx hb hr rfl (fun t ht hW => ⟨_, rfl, (congrArg b2i (Option.some.inj h).symm), ht⟩) (fun q hq => absurd hq List.not_mem_nil) dX8_beginsRun_21
  · replace h := on c_1921 h
    refine lv_aload_n hx hb dX8_beginsRun_4 rfl (lv_at hl 0 rfl) ?_
    refine lv_iload_n hx hb dX8_beginsRun_5 rfl (lv_at hl 1 rfl) ?_
    refine lv_iload_n hx hb dX8_beginsRun_6 rfl (lv_at hl 2 rfl) ?_
    refine lv_iconst (v := 1) hx hb dX8_beginsRun_7 (by decide) ?_
    refine lv_isub hx hb dX8_beginsRun_8 ?_
    refine lv_iload_n hx hb dX8_beginsRun_9 rfl (lv_at hl 2 rfl) ?_
    obtain ⟨o_1922, hr_1922, h⟩ := ob h
    refine vp_callSi (va_Run.run (va_runV (As := [.int x1, .int (x2 - (1 : Int32)), .int x2]) (rest := []) ⟨hx, hb, hml, hown, hts⟩ (c_X8_isLike l dC dI cB cC cI cJ cZ cT h0 q_kinds q_tags q_cells v_columns v_rows v_cells x1 (x2 - (1 : Int32)) x2 o_1922 hr_1922) (cwV 3 hts gX8_beginsRun_X8_isLike rfl rfl rfl (by decide +kernel) ⟨Nat.le_of_ble_eq_true rfl, Nat.le_of_ble_eq_true rfl⟩) ⟨blR, va_recv hK hP (ci := 6) (q0 := 0) rfl rfl, fun U hU hW => ⟨rfl, by rw [hU]; exact hP.sub [0, 1] rfl, va_K.moved hW.alike hK⟩⟩ rfl rfl hl.1 rfl (lv_room (Nat.le_of_ble_eq_true rfl)) dX8_beginsRun_10 ⟨Nat.le_of_ble_eq_true rfl, Nat.le_of_ble_eq_true rfl⟩)) (fun r_1922 e_1922 => ?_)
    subst e_1922
    refine lv_if_ne (tgt := 20) hx hb dX8_beginsRun_13 (by decide) (fun c_1924 => ?_) (fun c_1924 => ?_)
    · replace h := on c_1924 h
      refine lv_iconst (v := 0) hx hb dX8_beginsRun_20 (by decide) ?_
      rw [hQQ]
      exact W.zret hx hb hr rfl (fun t ht hW => ⟨_, rfl, (congrArg b2i (Option.some.inj h).symm), ht⟩) (fun q hq => absurd hq List.not_mem_nil) dX8_beginsRun_21
    · replace h := op c_1924 h
      refine lv_iconst (v := 1) hx hb dX8_beginsRun_16 (by decide) ?_
      refine lv_goto (tgt := 21) hx hb dX8_beginsRun_17 (by decide) ?_
      rw [hQQ]
      exact W.zret hx hb hr rfl (fun t ht hW => ⟨_, rfl, (congrArg b2i (Option.some.inj h).symm), ht⟩) (fun q hq => absurd hq List.not_mem_nil) dX8_beginsRun_21
def L_X8_runsOf_4 (v_rows : Int32) (v_cells : (Nat → Int64)) (x1 : Int32) : Nat → Int32 → Int32 → Option Int32
  | 0, _, _ => none
  | n+1, x2_4, x3_4 => (if v_rows ≤ x3_4 then (some x2_4) else ((f_X8_beginsRun v_cells x1 x3_4).bind (fun o_1926 => (if (b2i o_1926) = 0 then (L_X8_runsOf_4 v_rows v_cells x1 n x2_4 (x3_4 + 1)) else (L_X8_runsOf_4 v_rows v_cells x1 n (x2_4 + 1) (x3_4 + 1))))))
def f_X8_runsOf (v_rows : Int32) (v_cells : Nat → Int64) (x1 : Int32) : Option Int32 :=
  ((L_X8_runsOf_4 v_rows v_cells x1 fu (0 : Int32) (0 : Int32)).bind (fun w_1929 => (some w_1929)))
abbrev rm_X8_runsOf : Room := { frames := 3, cells := 0, slots := 0, locals := 67 }
set_option maxHeartbeats 4000000 in
set_option maxRecDepth 100000 in
theorem c_X8_runsOf (l : Launch) (dC : Nat → ClassId) (dI : Nat → Nat → Nat) (cB cC cI cJ cZ cT : ClassId) (h0 q_kinds q_tags q_cells : Nat) (v_columns : Int32) (v_rows : Int32) (v_cells : Nat → Int64) (x1 : Int32) (o : Int32) (hf : f_X8_runsOf v_rows v_cells x1 = some o) : Met l yX8_runsOf wsX8_runsOf rm_X8_runsOf (va_Pc [.ref h0, .int x1] (fun U => va_P (dC, dI) vwCl [(h0, .inr (6, [.ref q_kinds, .ref q_tags, .ref q_cells, .int v_columns, .int v_rows])), (q_cells, .inl (cJ, 96, .inr (.inl v_cells)))] U.heap ∧ va_K (dC, dI) vwCl (tyA cB cC cI cJ cZ cT) U)) (vp_Si (fun r => o = r)) 0 0 (fun _ => False) := by
  refine Met.ofW (cc := cX8_runsOf) (maxL := 4) (ret := (some .int)) (by decide +kernel) rfl ?_
  intro p e s m args below meth c s₁ B hml hv
  obtain ⟨hav, hP, hK⟩ := hv
  have hx := B.exec
  have hb := B.bytes
  have hr := B.returns
  have hts := atoms_spec (ws := wsX8_runsOf) B.pre
  have hown : s.vm.findClass RX8 = some m.cls := findClass_of_methodNamed B.named
  have hlocks := B.notSynchronized
  refine wstart (rm := rm_X8_runsOf) hav (Nat.le_of_ble_eq_true rfl) (fun QQ ls hQQ hl => ?_)
  have hl : lv_has ls 4 [(0, .ref h0), (1, .int x1)] := hl
  have hi_X8 : ∀ w ∈ u_ws RX8 TX8 5, w ∈ wsX8_runsOf := by decide +kernel
  have h := hf
  unfold f_X8_runsOf at h
  refine lv_iconst (v := 0) hx hb dX8_runsOf_0 (by decide) ?_
  refine lv_istore_n (lv' := [(2, .int (0 : Int32)), (0, .ref h0), (1, .int x1)]) hx hb dX8_runsOf_1 rfl hl (by decide) rfl (fun ls hl => ?_)
  refine lv_iconst (v := 0) hx hb dX8_runsOf_2 (by decide) ?_
  refine lv_istore_n (lv' := [(3, .int (0 : Int32)), (2, .int (0 : Int32)), (0, .ref h0), (1, .int x1)]) hx hb dX8_runsOf_3 rfl hl (by decide) rfl (fun ls hl => ?_)
  have LP_1929 : ∀ (n : Nat) (x2_4 : Int32) (x3_4 : Int32) (w : Int32) (ls : Array Slot), L_X8_runsOf_4 v_rows v_cells x1 n x2_4 x3_4 = some w → lv_has ls 4 [(0, .ref h0), (1, .int x1), (2, .int x2_4), (3, .int x3_4)] → (∀ (ls : Array Slot), lv_has ls 4 [(2, .int w)] → W p l e rm_X8_runsOf s m args below meth c s.heap [] 0 0 QQ (F0 m 30 ls [])) → W p l e rm_X8_runsOf s m args below meth c s.heap [] 0 0 QQ (F0 m 4 ls []) := by
    intro n
    induction n with
    | zero => intro x2_4 x3_4 w ls h; exact absurd (show none = some w from h) nofun
    | succ n ih =>
      intro x2_4 x3_4 w ls h hl K
      rw [L_X8_runsOf_4] at h
      refine lv_iload_n hx hb dX8_runsOf_4 rfl (lv_at hl 3 rfl) ?_
      refine lv_aload_n hx hb dX8_runsOf_5 rfl (lv_at hl 0 rfl) ?_
      refine va_get (D := (dC, dI)) (ci := 6) (v := .int v_rows) (C := RX8) (T := TX8) (N := 5) hx hb hts hi_X8 hown hK hP 0 rfl rfl 4 (by decide) (hts _ (List.mem_of_getElem? (i := 1) rfl)) (fun _ h9 => h9) rfl dX8_runsOf_6 ?_
      refine lv_icmp_ge (tgt := 30) hx hb dX8_runsOf_9 (by decide) (fun c_1925 => ?_) (fun c_1925 => ?_)
      · replace h := op c_1925 h
        have ho := Option.some.inj h
        subst ho
        exact K ls (lv_sub hl [2] rfl)
      · replace h := on c_1925 h
        refine lv_aload_n hx hb dX8_runsOf_12 rfl (lv_at hl 0 rfl) ?_
        refine lv_iload_n hx hb dX8_runsOf_13 rfl (lv_at hl 1 rfl) ?_
        refine lv_iload_n hx hb dX8_runsOf_14 rfl (lv_at hl 3 rfl) ?_
        obtain ⟨o_1926, hr_1926, h⟩ := ob h
        refine vp_callSi (va_Run.run (va_runV (As := [.int x1, .int x3_4]) (rest := []) ⟨hx, hb, hml, hown, hts⟩ (c_X8_beginsRun l dC dI cB cC cI cJ cZ cT h0 q_kinds q_tags q_cells v_columns v_rows v_cells x1 x3_4 o_1926 hr_1926) (cwV 2 hts gX8_runsOf_X8_beginsRun rfl rfl rfl (by decide +kernel) ⟨Nat.le_of_ble_eq_true rfl, Nat.le_of_ble_eq_true rfl⟩) ⟨blR, va_recv hK hP (ci := 6) (q0 := 0) rfl rfl, fun U hU hW => ⟨rfl, by rw [hU]; exact hP.sub [0, 1] rfl, va_K.moved hW.alike hK⟩⟩ rfl rfl hl.1 rfl (lv_room (Nat.le_of_ble_eq_true rfl)) dX8_runsOf_15 ⟨Nat.le_of_ble_eq_true rfl, Nat.le_of_ble_eq_true rfl⟩)) (fun r_1926 e_1926 => ?_)
        subst e_1926
        refine lv_if_eq (tgt := 24) hx hb dX8_runsOf_18 (by decide) (fun c_1928 => ?_) (fun c_1928 => ?_)
        · replace h := op c_1928 h
          refine lv_iinc (v := (x3_4 + 1)) (lv' := [(3, .int (x3_4 + 1)), (0, .ref h0), (1, .int x1), (2, .int x2_4)]) hx hb dX8_runsOf_24 hl (k := 3) rfl (by rfl) (by decide) rfl (fun ls hl => ?_)
          refine lv_goto (tgt := 4) hx hb dX8_runsOf_27 (by decide) ?_
          exact ih x2_4 (x3_4 + 1) w ls h (lv_sub hl [1, 2, 3, 0] rfl) K
        · replace h := on c_1928 h
          refine lv_iinc (v := (x2_4 + 1)) (lv' := [(2, .int (x2_4 + 1)), (0, .ref h0), (1, .int x1), (3, .int x3_4)]) hx hb dX8_runsOf_21 hl (k := 2) rfl (by rfl) (by decide) rfl (fun ls hl => ?_)
          refine lv_iinc (v := (x3_4 + 1)) (lv' := [(3, .int (x3_4 + 1)), (2, .int (x2_4 + 1)), (0, .ref h0), (1, .int x1)]) hx hb dX8_runsOf_24 hl (k := 3) rfl (by rfl) (by decide) rfl (fun ls hl => ?_)
          refine lv_goto (tgt := 4) hx hb dX8_runsOf_27 (by decide) ?_
          exact ih (x2_4 + 1) (x3_4 + 1) w ls h (lv_sub hl [2, 3, 1, 0] rfl) K
  obtain ⟨w_1929, hw_1929, h⟩ := ob h
  refine LP_1929 fu (0 : Int32) (0 : Int32) w_1929 ls hw_1929 (lv_sub hl [2, 3, 1, 0] rfl) (fun ls hl => ?_)
  refine lv_iload_n hx hb dX8_runsOf_30 rfl (lv_at hl 0 rfl) ?_
  rw [hQQ]
  exact W.iret hx hb hr (fun t ht hW => ⟨_, rfl, (Option.some.inj h).symm, ht⟩) (fun q hq => absurd hq List.not_mem_nil) dX8_runsOf_31
def L_X8_runsOfAll_4 (v_columns : Int32) (v_rows : Int32) (v_kinds : (Nat → Int32)) (v_cells : (Nat → Int64)) : Nat → Int32 → Int32 → Option Int32
  | 0, _, _ => none
  | n+1, x1_4, x2_4 => (if v_columns ≤ x2_4 then (some x1_4) else ((f_X8_isProper v_columns v_kinds x2_4).bind (fun o_1931 => (if (b2i o_1931) = 0 then (L_X8_runsOfAll_4 v_columns v_rows v_kinds v_cells n x1_4 (x2_4 + 1)) else ((f_X8_runsOf v_rows v_cells x2_4).bind (fun o_1934 => (L_X8_runsOfAll_4 v_columns v_rows v_kinds v_cells n (x1_4 + o_1934) (x2_4 + 1))))))))
def f_X8_runsOfAll (v_columns : Int32) (v_rows : Int32) (v_kinds : Nat → Int32) (v_cells : Nat → Int64) : Option Int32 :=
  ((L_X8_runsOfAll_4 v_columns v_rows v_kinds v_cells fu (0 : Int32) (0 : Int32)).bind (fun w_1936 => (some w_1936)))
abbrev rm_X8_runsOfAll : Room := { frames := 4, cells := 0, slots := 0, locals := 90 }
set_option maxHeartbeats 4000000 in
set_option maxRecDepth 100000 in
theorem c_X8_runsOfAll (l : Launch) (dC : Nat → ClassId) (dI : Nat → Nat → Nat) (cB cC cI cJ cZ cT : ClassId) (h0 q_kinds q_tags q_cells : Nat) (v_columns : Int32) (v_rows : Int32) (v_kinds : Nat → Int32) (v_cells : Nat → Int64) (o : Int32) (hf : f_X8_runsOfAll v_columns v_rows v_kinds v_cells = some o) : Met l yX8_runsOfAll wsX8_runsOfAll rm_X8_runsOfAll (va_Pc [.ref h0] (fun U => va_P (dC, dI) vwCl [(h0, .inr (6, [.ref q_kinds, .ref q_tags, .ref q_cells, .int v_columns, .int v_rows])), (q_kinds, .inl (cI, 6, .inl v_kinds)), (q_cells, .inl (cJ, 96, .inr (.inl v_cells)))] U.heap ∧ va_K (dC, dI) vwCl (tyA cB cC cI cJ cZ cT) U)) (vp_Si (fun r => o = r)) 0 0 (fun _ => False) := by
  refine Met.ofW (cc := cX8_runsOfAll) (maxL := 3) (ret := (some .int)) (by decide +kernel) rfl ?_
  intro p e s m args below meth c s₁ B hml hv
  obtain ⟨hav, hP, hK⟩ := hv
  have hx := B.exec
  have hb := B.bytes
  have hr := B.returns
  have hts := atoms_spec (ws := wsX8_runsOfAll) B.pre
  have hown : s.vm.findClass RX8 = some m.cls := findClass_of_methodNamed B.named
  have hlocks := B.notSynchronized
  refine wstart (rm := rm_X8_runsOfAll) hav (Nat.le_of_ble_eq_true rfl) (fun QQ ls hQQ hl => ?_)
  have hl : lv_has ls 3 [(0, .ref h0)] := hl
  have hi_X8 : ∀ w ∈ u_ws RX8 TX8 5, w ∈ wsX8_runsOfAll := by decide +kernel
  have h := hf
  unfold f_X8_runsOfAll at h
  refine lv_iconst (v := 0) hx hb dX8_runsOfAll_0 (by decide) ?_
  refine lv_istore_n (lv' := [(1, .int (0 : Int32)), (0, .ref h0)]) hx hb dX8_runsOfAll_1 rfl hl (by decide) rfl (fun ls hl => ?_)
  refine lv_iconst (v := 0) hx hb dX8_runsOfAll_2 (by decide) ?_
  refine lv_istore_n (lv' := [(2, .int (0 : Int32)), (1, .int (0 : Int32)), (0, .ref h0)]) hx hb dX8_runsOfAll_3 rfl hl (by decide) rfl (fun ls hl => ?_)
  have LP_1936 : ∀ (n : Nat) (x1_4 : Int32) (x2_4 : Int32) (w : Int32) (ls : Array Slot), L_X8_runsOfAll_4 v_columns v_rows v_kinds v_cells n x1_4 x2_4 = some w → lv_has ls 3 [(0, .ref h0), (1, .int x1_4), (2, .int x2_4)] → (∀ (ls : Array Slot), lv_has ls 3 [(1, .int w)] → W p l e rm_X8_runsOfAll s m args below meth c s.heap [] 0 0 QQ (F0 m 34 ls [])) → W p l e rm_X8_runsOfAll s m args below meth c s.heap [] 0 0 QQ (F0 m 4 ls []) := by
    intro n
    induction n with
    | zero => intro x1_4 x2_4 w ls h; exact absurd (show none = some w from h) nofun
    | succ n ih =>
      intro x1_4 x2_4 w ls h hl K
      rw [L_X8_runsOfAll_4] at h
      refine lv_iload_n hx hb dX8_runsOfAll_4 rfl (lv_at hl 2 rfl) ?_
      refine lv_aload_n hx hb dX8_runsOfAll_5 rfl (lv_at hl 0 rfl) ?_
      refine va_get (D := (dC, dI)) (ci := 6) (v := .int v_columns) (C := RX8) (T := TX8) (N := 5) hx hb hts hi_X8 hown hK hP 0 rfl rfl 3 (by decide) (hts _ (List.mem_of_getElem? (i := 1) rfl)) (fun _ h9 => h9) rfl dX8_runsOfAll_6 ?_
      refine lv_icmp_ge (tgt := 34) hx hb dX8_runsOfAll_9 (by decide) (fun c_1930 => ?_) (fun c_1930 => ?_)
      · replace h := op c_1930 h
        have ho := Option.some.inj h
        subst ho
        exact K ls (lv_sub hl [1] rfl)
      · replace h := on c_1930 h
        refine lv_aload_n hx hb dX8_runsOfAll_12 rfl (lv_at hl 0 rfl) ?_
        refine lv_iload_n hx hb dX8_runsOfAll_13 rfl (lv_at hl 2 rfl) ?_
        obtain ⟨o_1931, hr_1931, h⟩ := ob h
        refine vp_callSi (va_Run.run (va_runV (As := [.int x2_4]) (rest := []) ⟨hx, hb, hml, hown, hts⟩ (c_X8_isProper l dC dI cB cC cI cJ cZ cT h0 q_kinds q_tags q_cells v_columns v_rows v_kinds x2_4 o_1931 hr_1931) (cwV 1 hts gX8_runsOfAll_X8_isProper rfl rfl rfl (by decide +kernel) ⟨Nat.le_of_ble_eq_true rfl, Nat.le_of_ble_eq_true rfl⟩) ⟨blR, va_recv hK hP (ci := 6) (q0 := 0) rfl rfl, fun U hU hW => ⟨rfl, by rw [hU]; exact hP.sub [0, 1] rfl, va_K.moved hW.alike hK⟩⟩ rfl rfl hl.1 rfl (lv_room (Nat.le_of_ble_eq_true rfl)) dX8_runsOfAll_14 ⟨Nat.le_of_ble_eq_true rfl, Nat.le_of_ble_eq_true rfl⟩)) (fun r_1931 e_1931 => ?_)
        subst e_1931
        refine lv_if_eq (tgt := 28) hx hb dX8_runsOfAll_17 (by decide) (fun c_1933 => ?_) (fun c_1933 => ?_)
        · replace h := op c_1933 h
          refine lv_iinc (v := (x2_4 + 1)) (lv' := [(2, .int (x2_4 + 1)), (0, .ref h0), (1, .int x1_4)]) hx hb dX8_runsOfAll_28 hl (k := 2) rfl (by rfl) (by decide) rfl (fun ls hl => ?_)
          refine lv_goto (tgt := 4) hx hb dX8_runsOfAll_31 (by decide) ?_
          exact ih x1_4 (x2_4 + 1) w ls h (lv_sub hl [1, 2, 0] rfl) K
        · replace h := on c_1933 h
          refine lv_iload_n hx hb dX8_runsOfAll_20 rfl (lv_at hl 1 rfl) ?_
          refine lv_aload_n hx hb dX8_runsOfAll_21 rfl (lv_at hl 0 rfl) ?_
          refine lv_iload_n hx hb dX8_runsOfAll_22 rfl (lv_at hl 2 rfl) ?_
          obtain ⟨o_1934, hr_1934, h⟩ := ob h
          refine vp_callSi (va_Run.run (va_runV (As := [.int x2_4]) (rest := [.int x1_4]) ⟨hx, hb, hml, hown, hts⟩ (c_X8_runsOf l dC dI cB cC cI cJ cZ cT h0 q_kinds q_tags q_cells v_columns v_rows v_cells x2_4 o_1934 hr_1934) (cwV 1 hts gX8_runsOfAll_X8_runsOf rfl rfl rfl (by decide +kernel) ⟨Nat.le_of_ble_eq_true rfl, Nat.le_of_ble_eq_true rfl⟩) ⟨blR, va_recv hK hP (ci := 6) (q0 := 0) rfl rfl, fun U hU hW => ⟨rfl, by rw [hU]; exact hP.sub [0, 2] rfl, va_K.moved hW.alike hK⟩⟩ rfl rfl hl.1 rfl (lv_room (Nat.le_of_ble_eq_true rfl)) dX8_runsOfAll_23 ⟨Nat.le_of_ble_eq_true rfl, Nat.le_of_ble_eq_true rfl⟩)) (fun r_1934 e_1934 => ?_)
          subst e_1934
          refine lv_iadd hx hb dX8_runsOfAll_26 ?_
          refine lv_istore_n (lv' := [(1, .int (x1_4 + o_1934)), (0, .ref h0), (2, .int x2_4)]) hx hb dX8_runsOfAll_27 rfl hl (by decide) rfl (fun ls hl => ?_)
          refine lv_iinc (v := (x2_4 + 1)) (lv' := [(2, .int (x2_4 + 1)), (1, .int (x1_4 + o_1934)), (0, .ref h0)]) hx hb dX8_runsOfAll_28 hl (k := 2) rfl (by rfl) (by decide) rfl (fun ls hl => ?_)
          refine lv_goto (tgt := 4) hx hb dX8_runsOfAll_31 (by decide) ?_
          exact ih (x1_4 + o_1934) (x2_4 + 1) w ls h (lv_sub hl [2, 1, 0] rfl) K
  obtain ⟨w_1936, hw_1936, h⟩ := ob h
  refine LP_1936 fu (0 : Int32) (0 : Int32) w_1936 ls hw_1936 (lv_sub hl [2, 1, 0] rfl) (fun ls hl => ?_)
  refine lv_iload_n hx hb dX8_runsOfAll_34 rfl (lv_at hl 0 rfl) ?_
  rw [hQQ]
  exact W.iret hx hb hr (fun t ht hW => ⟨_, rfl, (Option.some.inj h).symm, ht⟩) (fun q hq => absurd hq List.not_mem_nil) dX8_runsOfAll_35
def L_X8_nothingIn_4 (v_rows : Int32) (v_cells : (Nat → Int64)) (x1 : Int32) : Nat → Int32 → Int32 → Option Int32
  | 0, _, _ => none
  | n+1, x2_4, x3_4 => (if v_rows ≤ x3_4 then (some x2_4) else ((f_X8_cell v_cells x1 x3_4).bind (fun o_1938 => (if (lg_cmp o_1938 (-9223372036854775808 : Int64)) = 0 then (L_X8_nothingIn_4 v_rows v_cells x1 n (x2_4 + 1) (x3_4 + 1)) else (L_X8_nothingIn_4 v_rows v_cells x1 n x2_4 (x3_4 + 1))))))
def f_X8_nothingIn (v_rows : Int32) (v_cells : Nat → Int64) (x1 : Int32) : Option Int32 :=
  ((L_X8_nothingIn_4 v_rows v_cells x1 fu (0 : Int32) (0 : Int32)).bind (fun w_1941 => (some w_1941)))
abbrev rm_X8_nothingIn : Room := { frames := 1, cells := 0, slots := 0, locals := 22 }
set_option maxHeartbeats 4000000 in
set_option maxRecDepth 100000 in
theorem c_X8_nothingIn (l : Launch) (dC : Nat → ClassId) (dI : Nat → Nat → Nat) (cB cC cI cJ cZ cT : ClassId) (h0 q_kinds q_tags q_cells : Nat) (v_columns : Int32) (v_rows : Int32) (v_cells : Nat → Int64) (x1 : Int32) (o : Int32) (hf : f_X8_nothingIn v_rows v_cells x1 = some o) : Met l yX8_nothingIn wsX8_nothingIn rm_X8_nothingIn (va_Pc [.ref h0, .int x1] (fun U => va_P (dC, dI) vwCl [(h0, .inr (6, [.ref q_kinds, .ref q_tags, .ref q_cells, .int v_columns, .int v_rows])), (q_cells, .inl (cJ, 96, .inr (.inl v_cells)))] U.heap ∧ va_K (dC, dI) vwCl (tyA cB cC cI cJ cZ cT) U)) (vp_Si (fun r => o = r)) 0 0 (fun _ => False) := by
  refine Met.ofW (cc := cX8_nothingIn) (maxL := 4) (ret := (some .int)) (by decide +kernel) rfl ?_
  intro p e s m args below meth c s₁ B hml hv
  obtain ⟨hav, hP, hK⟩ := hv
  have hx := B.exec
  have hb := B.bytes
  have hr := B.returns
  have hts := atoms_spec (ws := wsX8_nothingIn) B.pre
  have hown : s.vm.findClass RX8 = some m.cls := findClass_of_methodNamed B.named
  have hlocks := B.notSynchronized
  refine wstart (rm := rm_X8_nothingIn) hav (Nat.le_of_ble_eq_true rfl) (fun QQ ls hQQ hl => ?_)
  have hl : lv_has ls 4 [(0, .ref h0), (1, .int x1)] := hl
  have hi_X8 : ∀ w ∈ u_ws RX8 TX8 5, w ∈ wsX8_nothingIn := by decide +kernel
  have h := hf
  unfold f_X8_nothingIn at h
  refine lv_iconst (v := 0) hx hb dX8_nothingIn_0 (by decide) ?_
  refine lv_istore_n (lv' := [(2, .int (0 : Int32)), (0, .ref h0), (1, .int x1)]) hx hb dX8_nothingIn_1 rfl hl (by decide) rfl (fun ls hl => ?_)
  refine lv_iconst (v := 0) hx hb dX8_nothingIn_2 (by decide) ?_
  refine lv_istore_n (lv' := [(3, .int (0 : Int32)), (2, .int (0 : Int32)), (0, .ref h0), (1, .int x1)]) hx hb dX8_nothingIn_3 rfl hl (by decide) rfl (fun ls hl => ?_)
  have LP_1941 : ∀ (n : Nat) (x2_4 : Int32) (x3_4 : Int32) (w : Int32) (ls : Array Slot), L_X8_nothingIn_4 v_rows v_cells x1 n x2_4 x3_4 = some w → lv_has ls 4 [(0, .ref h0), (1, .int x1), (2, .int x2_4), (3, .int x3_4)] → (∀ (ls : Array Slot), lv_has ls 4 [(2, .int w)] → W p l e rm_X8_nothingIn s m args below meth c s.heap [] 0 0 QQ (F0 m 34 ls [])) → W p l e rm_X8_nothingIn s m args below meth c s.heap [] 0 0 QQ (F0 m 4 ls []) := by
    intro n
    induction n with
    | zero => intro x2_4 x3_4 w ls h; exact absurd (show none = some w from h) nofun
    | succ n ih =>
      intro x2_4 x3_4 w ls h hl K
      rw [L_X8_nothingIn_4] at h
      refine lv_iload_n hx hb dX8_nothingIn_4 rfl (lv_at hl 3 rfl) ?_
      refine lv_aload_n hx hb dX8_nothingIn_5 rfl (lv_at hl 0 rfl) ?_
      refine va_get (D := (dC, dI)) (ci := 6) (v := .int v_rows) (C := RX8) (T := TX8) (N := 5) hx hb hts hi_X8 hown hK hP 0 rfl rfl 4 (by decide) (hts _ (List.mem_of_getElem? (i := 1) rfl)) (fun _ h9 => h9) rfl dX8_nothingIn_6 ?_
      refine lv_icmp_ge (tgt := 34) hx hb dX8_nothingIn_9 (by decide) (fun c_1937 => ?_) (fun c_1937 => ?_)
      · replace h := op c_1937 h
        have ho := Option.some.inj h
        subst ho
        exact K ls (lv_sub hl [2] rfl)
      · replace h := on c_1937 h
        refine lv_aload_n hx hb dX8_nothingIn_12 rfl (lv_at hl 0 rfl) ?_
        refine lv_iload_n hx hb dX8_nothingIn_13 rfl (lv_at hl 1 rfl) ?_
        refine lv_iload_n hx hb dX8_nothingIn_14 rfl (lv_at hl 3 rfl) ?_
        obtain ⟨o_1938, hr_1938, h⟩ := ob h
        refine vp_callSl (va_Run.run (va_runV (As := [.int x1, .int x3_4]) (rest := []) ⟨hx, hb, hml, hown, hts⟩ (c_X8_cell l dC dI cB cC cI cJ cZ cT h0 q_kinds q_tags q_cells v_columns v_rows v_cells x1 x3_4 o_1938 hr_1938) (cwV 2 hts gX8_nothingIn_X8_cell rfl rfl rfl (by decide +kernel) ⟨Nat.le_of_ble_eq_true rfl, Nat.le_of_ble_eq_true rfl⟩) ⟨blR, va_recv hK hP (ci := 6) (q0 := 0) rfl rfl, fun U hU hW => ⟨rfl, by rw [hU]; exact hP.sub [0, 1] rfl, va_K.moved hW.alike hK⟩⟩ rfl rfl hl.1 rfl (lv_room (Nat.le_of_ble_eq_true rfl)) dX8_nothingIn_15 ⟨Nat.le_of_ble_eq_true rfl, Nat.le_of_ble_eq_true rfl⟩)) (fun r_1938 e_1938 => ?_)
        subst e_1938
        refine lv_ldc2 (v := -9223372036854775808) hx hb hown (hts _ (List.mem_of_getElem? (i := 2) rfl)) dX8_nothingIn_18 ?_
        refine W.lcmp hx hb dX8_nothingIn_21 ?_
        refine lv_if_ne (tgt := 28) hx hb dX8_nothingIn_22 (by decide) (fun c_1940 => ?_) (fun c_1940 => ?_)
        · replace h := on c_1940 h
          refine lv_iinc (v := (x3_4 + 1)) (lv' := [(3, .int (x3_4 + 1)), (0, .ref h0), (1, .int x1), (2, .int x2_4)]) hx hb dX8_nothingIn_28 hl (k := 3) rfl (by rfl) (by decide) rfl (fun ls hl => ?_)
          refine lv_goto (tgt := 4) hx hb dX8_nothingIn_31 (by decide) ?_
          exact ih x2_4 (x3_4 + 1) w ls h (lv_sub hl [1, 2, 3, 0] rfl) K
        · replace h := op c_1940 h
          refine lv_iinc (v := (x2_4 + 1)) (lv' := [(2, .int (x2_4 + 1)), (0, .ref h0), (1, .int x1), (3, .int x3_4)]) hx hb dX8_nothingIn_25 hl (k := 2) rfl (by rfl) (by decide) rfl (fun ls hl => ?_)
          refine lv_iinc (v := (x3_4 + 1)) (lv' := [(3, .int (x3_4 + 1)), (2, .int (x2_4 + 1)), (0, .ref h0), (1, .int x1)]) hx hb dX8_nothingIn_28 hl (k := 3) rfl (by rfl) (by decide) rfl (fun ls hl => ?_)
          refine lv_goto (tgt := 4) hx hb dX8_nothingIn_31 (by decide) ?_
          exact ih (x2_4 + 1) (x3_4 + 1) w ls h (lv_sub hl [2, 3, 1, 0] rfl) K
  obtain ⟨w_1941, hw_1941, h⟩ := ob h
  refine LP_1941 fu (0 : Int32) (0 : Int32) w_1941 ls hw_1941 (lv_sub hl [2, 3, 1, 0] rfl) (fun ls hl => ?_)
  refine lv_iload_n hx hb dX8_nothingIn_34 rfl (lv_at hl 0 rfl) ?_
  rw [hQQ]
  exact W.iret hx hb hr (fun t ht hW => ⟨_, rfl, (Option.some.inj h).symm, ht⟩) (fun q hq => absurd hq List.not_mem_nil) dX8_nothingIn_35
def L_X8_cellsOfNothing_4 (v_columns : Int32) (v_rows : Int32) (v_kinds : (Nat → Int32)) (v_cells : (Nat → Int64)) : Nat → Int32 → Int32 → Option Int32
  | 0, _, _ => none
  | n+1, x1_4, x2_4 => (if v_columns ≤ x2_4 then (some x1_4) else (if x2_4 < 0 ∨ 6 ≤ (x2_4).toNatClampNeg then none else ((f_X3_mayBeNothing (v_kinds (x2_4).toNatClampNeg)).bind (fun o_1944 => (if (b2i o_1944) = 0 then (L_X8_cellsOfNothing_4 v_columns v_rows v_kinds v_cells n x1_4 (x2_4 + 1)) else ((f_X8_nothingIn v_rows v_cells x2_4).bind (fun o_1947 => (L_X8_cellsOfNothing_4 v_columns v_rows v_kinds v_cells n (x1_4 + o_1947) (x2_4 + 1)))))))))
def f_X8_cellsOfNothing (v_columns : Int32) (v_rows : Int32) (v_kinds : Nat → Int32) (v_cells : Nat → Int64) : Option Int32 :=
  ((L_X8_cellsOfNothing_4 v_columns v_rows v_kinds v_cells fu (0 : Int32) (0 : Int32)).bind (fun w_1949 => (some w_1949)))
abbrev rm_X8_cellsOfNothing : Room := { frames := 2, cells := 0, slots := 0, locals := 45 }
set_option maxHeartbeats 4000000 in
set_option maxRecDepth 100000 in
theorem c_X8_cellsOfNothing (l : Launch) (dC : Nat → ClassId) (dI : Nat → Nat → Nat) (cB cC cI cJ cZ cT : ClassId) (h0 q_kinds q_tags q_cells : Nat) (v_columns : Int32) (v_rows : Int32) (v_kinds : Nat → Int32) (v_cells : Nat → Int64) (o : Int32) (hf : f_X8_cellsOfNothing v_columns v_rows v_kinds v_cells = some o) : Met l yX8_cellsOfNothing wsX8_cellsOfNothing rm_X8_cellsOfNothing (va_Pc [.ref h0] (fun U => va_P (dC, dI) vwCl [(h0, .inr (6, [.ref q_kinds, .ref q_tags, .ref q_cells, .int v_columns, .int v_rows])), (q_kinds, .inl (cI, 6, .inl v_kinds)), (q_cells, .inl (cJ, 96, .inr (.inl v_cells)))] U.heap ∧ va_K (dC, dI) vwCl (tyA cB cC cI cJ cZ cT) U)) (vp_Si (fun r => o = r)) 0 0 (fun _ => False) := by
  refine Met.ofW (cc := cX8_cellsOfNothing) (maxL := 3) (ret := (some .int)) (by decide +kernel) rfl ?_
  intro p e s m args below meth c s₁ B hml hv
  obtain ⟨hav, hP, hK⟩ := hv
  have hx := B.exec
  have hb := B.bytes
  have hr := B.returns
  have hts := atoms_spec (ws := wsX8_cellsOfNothing) B.pre
  have hown : s.vm.findClass RX8 = some m.cls := findClass_of_methodNamed B.named
  have hlocks := B.notSynchronized
  refine wstart (rm := rm_X8_cellsOfNothing) hav (Nat.le_of_ble_eq_true rfl) (fun QQ ls hQQ hl => ?_)
  have hl : lv_has ls 3 [(0, .ref h0)] := hl
  have hi_X8 : ∀ w ∈ u_ws RX8 TX8 5, w ∈ wsX8_cellsOfNothing := by decide +kernel
  have h := hf
  unfold f_X8_cellsOfNothing at h
  refine lv_iconst (v := 0) hx hb dX8_cellsOfNothing_0 (by decide) ?_
  refine lv_istore_n (lv' := [(1, .int (0 : Int32)), (0, .ref h0)]) hx hb dX8_cellsOfNothing_1 rfl hl (by decide) rfl (fun ls hl => ?_)
  refine lv_iconst (v := 0) hx hb dX8_cellsOfNothing_2 (by decide) ?_
  refine lv_istore_n (lv' := [(2, .int (0 : Int32)), (1, .int (0 : Int32)), (0, .ref h0)]) hx hb dX8_cellsOfNothing_3 rfl hl (by decide) rfl (fun ls hl => ?_)
  have LP_1949 : ∀ (n : Nat) (x1_4 : Int32) (x2_4 : Int32) (w : Int32) (ls : Array Slot), L_X8_cellsOfNothing_4 v_columns v_rows v_kinds v_cells n x1_4 x2_4 = some w → lv_has ls 3 [(0, .ref h0), (1, .int x1_4), (2, .int x2_4)] → (∀ (ls : Array Slot), lv_has ls 3 [(1, .int w)] → W p l e rm_X8_cellsOfNothing s m args below meth c s.heap [] 0 0 QQ (F0 m 38 ls [])) → W p l e rm_X8_cellsOfNothing s m args below meth c s.heap [] 0 0 QQ (F0 m 4 ls []) := by
    intro n
    induction n with
    | zero => intro x1_4 x2_4 w ls h; exact absurd (show none = some w from h) nofun
    | succ n ih =>
      intro x1_4 x2_4 w ls h hl K
      rw [L_X8_cellsOfNothing_4] at h
      refine lv_iload_n hx hb dX8_cellsOfNothing_4 rfl (lv_at hl 2 rfl) ?_
      refine lv_aload_n hx hb dX8_cellsOfNothing_5 rfl (lv_at hl 0 rfl) ?_
      refine va_get (D := (dC, dI)) (ci := 6) (v := .int v_columns) (C := RX8) (T := TX8) (N := 5) hx hb hts hi_X8 hown hK hP 0 rfl rfl 3 (by decide) (hts _ (List.mem_of_getElem? (i := 1) rfl)) (fun _ h9 => h9) rfl dX8_cellsOfNothing_6 ?_
      refine lv_icmp_ge (tgt := 38) hx hb dX8_cellsOfNothing_9 (by decide) (fun c_1942 => ?_) (fun c_1942 => ?_)
      · replace h := op c_1942 h
        have ho := Option.some.inj h
        subst ho
        exact K ls (lv_sub hl [1] rfl)
      · replace h := on c_1942 h
        refine lv_aload_n hx hb dX8_cellsOfNothing_12 rfl (lv_at hl 0 rfl) ?_
        refine va_get (D := (dC, dI)) (ci := 6) (v := .ref q_kinds) (C := RX8) (T := TX8) (N := 5) hx hb hts hi_X8 hown hK hP 0 rfl rfl 0 (by decide) (hts _ (List.mem_of_getElem? (i := 2) rfl)) (fun _ h9 => h9) rfl dX8_cellsOfNothing_13 ?_
        refine lv_iload_n hx hb dX8_cellsOfNothing_16 rfl (lv_at hl 2 rfl) ?_
        obtain ⟨hi_1943, h⟩ := og h
        refine va_iald hx hb hK hP 1 0 rfl rfl hi_1943 dX8_cellsOfNothing_17 ?_
        obtain ⟨o_1944, hr_1944, h⟩ := ob h
        refine vp_callSi (va_Run.run (va_runS (As := [.int (v_kinds (x2_4).toNatClampNeg)]) (rest := []) ⟨hx, hb, hml, hown, hts⟩ (c_X3_mayBeNothing l dC dI cB cC cI cJ cZ cT (v_kinds (x2_4).toNatClampNeg) o_1944 hr_1944) (va_cwS 1 hts gX8_cellsOfNothing_X3_mayBeNothing rfl rfl rfl (by decide +kernel) ⟨Nat.le_of_ble_eq_true rfl, Nat.le_of_ble_eq_true rfl⟩) ⟨blT, fun U hU hW => ⟨rfl, trivial⟩⟩ rfl rfl hl.1 rfl (lv_room (Nat.le_of_ble_eq_true rfl)) dX8_cellsOfNothing_18 ⟨Nat.le_of_ble_eq_true rfl, Nat.le_of_ble_eq_true rfl⟩)) (fun r_1944 e_1944 => ?_)
        subst e_1944
        refine lv_if_eq (tgt := 32) hx hb dX8_cellsOfNothing_21 (by decide) (fun c_1946 => ?_) (fun c_1946 => ?_)
        · replace h := op c_1946 h
          refine lv_iinc (v := (x2_4 + 1)) (lv' := [(2, .int (x2_4 + 1)), (0, .ref h0), (1, .int x1_4)]) hx hb dX8_cellsOfNothing_32 hl (k := 2) rfl (by rfl) (by decide) rfl (fun ls hl => ?_)
          refine lv_goto (tgt := 4) hx hb dX8_cellsOfNothing_35 (by decide) ?_
          exact ih x1_4 (x2_4 + 1) w ls h (lv_sub hl [1, 2, 0] rfl) K
        · replace h := on c_1946 h
          refine lv_iload_n hx hb dX8_cellsOfNothing_24 rfl (lv_at hl 1 rfl) ?_
          refine lv_aload_n hx hb dX8_cellsOfNothing_25 rfl (lv_at hl 0 rfl) ?_
          refine lv_iload_n hx hb dX8_cellsOfNothing_26 rfl (lv_at hl 2 rfl) ?_
          obtain ⟨o_1947, hr_1947, h⟩ := ob h
          refine vp_callSi (va_Run.run (va_runV (As := [.int x2_4]) (rest := [.int x1_4]) ⟨hx, hb, hml, hown, hts⟩ (c_X8_nothingIn l dC dI cB cC cI cJ cZ cT h0 q_kinds q_tags q_cells v_columns v_rows v_cells x2_4 o_1947 hr_1947) (cwV 1 hts gX8_cellsOfNothing_X8_nothingIn rfl rfl rfl (by decide +kernel) ⟨Nat.le_of_ble_eq_true rfl, Nat.le_of_ble_eq_true rfl⟩) ⟨blR, va_recv hK hP (ci := 6) (q0 := 0) rfl rfl, fun U hU hW => ⟨rfl, by rw [hU]; exact hP.sub [0, 2] rfl, va_K.moved hW.alike hK⟩⟩ rfl rfl hl.1 rfl (lv_room (Nat.le_of_ble_eq_true rfl)) dX8_cellsOfNothing_27 ⟨Nat.le_of_ble_eq_true rfl, Nat.le_of_ble_eq_true rfl⟩)) (fun r_1947 e_1947 => ?_)
          subst e_1947
          refine lv_iadd hx hb dX8_cellsOfNothing_30 ?_
          refine lv_istore_n (lv' := [(1, .int (x1_4 + o_1947)), (0, .ref h0), (2, .int x2_4)]) hx hb dX8_cellsOfNothing_31 rfl hl (by decide) rfl (fun ls hl => ?_)
          refine lv_iinc (v := (x2_4 + 1)) (lv' := [(2, .int (x2_4 + 1)), (1, .int (x1_4 + o_1947)), (0, .ref h0)]) hx hb dX8_cellsOfNothing_32 hl (k := 2) rfl (by rfl) (by decide) rfl (fun ls hl => ?_)
          refine lv_goto (tgt := 4) hx hb dX8_cellsOfNothing_35 (by decide) ?_
          exact ih (x1_4 + o_1947) (x2_4 + 1) w ls h (lv_sub hl [2, 1, 0] rfl) K
  obtain ⟨w_1949, hw_1949, h⟩ := ob h
  refine LP_1949 fu (0 : Int32) (0 : Int32) w_1949 ls hw_1949 (lv_sub hl [2, 1, 0] rfl) (fun ls hl => ?_)
  refine lv_iload_n hx hb dX8_cellsOfNothing_38 rfl (lv_at hl 0 rfl) ?_
  rw [hQQ]
  exact W.iret hx hb hr (fun t ht hW => ⟨_, rfl, (Option.some.inj h).symm, ht⟩) (fun q hq => absurd hq List.not_mem_nil) dX8_cellsOfNothing_39
