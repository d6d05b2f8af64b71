def L_X4_read_38 (v_p1_columns : Int32) (v_p1_kinds : (Nat → Int32)) (v_p1_cells : (Nat → Int64)) (x2_21 : Int32) : Nat → Int32 → (Nat → Int32) → Option (Nat → Int32)
  | 0, _, _ => none
  | n+1, x3_38, v_unlike_38 => (if x2_21 ≤ x3_38 then (some v_unlike_38) else ((f_X8_unlikeCells v_p1_columns v_p1_kinds v_p1_cells x2_21 x3_38).bind (fun o_2062 => (if ((x2_21 * (16 : Int32)) + x3_38) < 0 ∨ 256 ≤ (((x2_21 * (16 : Int32)) + x3_38)).toNatClampNeg then none else (if ((x3_38 * (16 : Int32)) + x2_21) < 0 ∨ 256 ≤ (((x3_38 * (16 : Int32)) + x2_21)).toNatClampNeg then none else (L_X4_read_38 v_p1_columns v_p1_kinds v_p1_cells x2_21 n (x3_38 + 1) (upd (upd v_unlike_38 (((x2_21 * (16 : Int32)) + x3_38)).toNatClampNeg o_2062) (((x3_38 * (16 : Int32)) + x2_21)).toNatClampNeg o_2062)))))))
def L_X4_read_21 (v_p1_columns : Int32) (v_p1_rows : Int32) (v_p1_kinds : (Nat → Int32)) (v_p1_cells : (Nat → Int64)) : Nat → Int32 → (Nat → Int32) → (Nat → Int32) → Option ((Nat → Int32) × (Nat → Int32))
  | 0, _, _, _ => none
  | n+1, x2_21, v_line_21, v_unlike_21 => (if v_p1_rows ≤ x2_21 then (some (v_line_21, v_unlike_21)) else (if x2_21 < 0 ∨ 16 ≤ (x2_21).toNatClampNeg then none else ((L_X4_read_38 v_p1_columns v_p1_kinds v_p1_cells x2_21 fu (0 : Int32) v_unlike_21).bind (fun w_2066 => (L_X4_read_21 v_p1_columns v_p1_rows v_p1_kinds v_p1_cells n (x2_21 + 1) (upd v_line_21 (x2_21).toNatClampNeg x2_21) w_2066)))))
def f_X4_read (v_line : Nat → Int32) (v_unlike : Nat → Int32) (v_p1_columns : Int32) (v_p1_rows : Int32) (v_p1_kinds : Nat → Int32) (v_p1_cells : Nat → Int64) : Option (Int32 × Int32 × (Nat → Int32) × (Nat → Int32)) :=
  ((f_X8_properSet v_p1_columns v_p1_kinds).bind (fun o_2055 => ((f_J6_bitCount_0f7a4 o_2055).bind (fun o_2057 => ((L_X4_read_21 v_p1_columns v_p1_rows v_p1_kinds v_p1_cells fu (0 : Int32) v_line v_unlike).bind (fun w_2067 => (some (v_p1_rows, o_2057, w_2067.1, w_2067.2))))))))
abbrev rm_X4_read : Room := { frames := 3, cells := 0, slots := 0, locals := 69 }
set_option maxHeartbeats 4000000 in
set_option maxRecDepth 100000 in
theorem c_X4_read (l : Launch) (dC : Nat → ClassId) (dI : Nat → Nat → Nat) (cB cC cI cJ cZ cT : ClassId) (h0 q_line q_before q_keys q_tags q_cells q_unlike q_p1 q_p1_kinds q_p1_tags q_p1_cells : Nat) (sz : Nat) (v_rows : Int32) (v_proper : Int32) (v_line : Nat → Int32) (v_unlike : Nat → Int32) (v_p1_columns : Int32) (v_p1_rows : Int32) (v_p1_kinds : Nat → Int32) (v_p1_cells : Nat → Int64) (o : (Int32 × Int32 × (Nat → Int32) × (Nat → Int32))) (hf : f_X4_read v_line v_unlike v_p1_columns v_p1_rows v_p1_kinds v_p1_cells = some o) : Met l yX4_read wsX4_read rm_X4_read (va_Pc [.ref h0, .ref q_p1] (fun U => U.heap.size = sz ∧ va_P (dC, dI) vwCl [(h0, .inr (2, [.ref q_line, .ref q_before, .ref q_keys, .ref q_tags, .ref q_cells, .ref q_unlike, .int v_rows, .int v_proper])), (q_line, .inl (cI, 16, .inl v_line)), (q_unlike, .inl (cI, 256, .inl v_unlike)), (q_p1, .inr (6, [.ref q_p1_kinds, .ref q_p1_tags, .ref q_p1_cells, .int v_p1_columns, .int v_p1_rows])), (q_p1_kinds, .inl (cI, 6, .inl v_p1_kinds)), (q_p1_cells, .inl (cJ, 96, .inr (.inl v_p1_cells)))] U.heap ∧ va_K (dC, dI) vwCl (tyA cB cC cI cJ cZ cT) U ∧ va_D (fun _ => True) [(h0, .inr (2, [.ref q_line, .ref q_before, .ref q_keys, .ref q_tags, .ref q_cells, .ref q_unlike, .int v_rows, .int v_proper])), (q_line, .inl (cI, 16, .inl v_line)), (q_unlike, .inl (cI, 256, .inl v_unlike)), (q_p1, .inr (6, [.ref q_p1_kinds, .ref q_p1_tags, .ref q_p1_cells, .int v_p1_columns, .int v_p1_rows])), (q_p1_kinds, .inl (cI, 6, .inl v_p1_kinds)), (q_p1_cells, .inl (cJ, 96, .inr (.inl v_p1_cells)))])) (va_Qv (fun _ : Unit => True) (fun _ t => va_P (dC, dI) vwCl [(h0, .inr (2, [.ref q_line, .ref q_before, .ref q_keys, .ref q_tags, .ref q_cells, .ref q_unlike, .int o.1, .int o.2.1])), (q_line, .inl (cI, 16, .inl o.2.2.1)), (q_unlike, .inl (cI, 256, .inl o.2.2.2)), (q_p1, .inr (6, [.ref q_p1_kinds, .ref q_p1_tags, .ref q_p1_cells, .int v_p1_columns, .int v_p1_rows])), (q_p1_kinds, .inl (cI, 6, .inl v_p1_kinds)), (q_p1_cells, .inl (cJ, 96, .inr (.inl v_p1_cells)))] t.heap ∧ va_K (dC, dI) vwCl (tyA cB cC cI cJ cZ cT) t ∧ va_D (va_A [(h0, .inr (2, [.ref q_line, .ref q_before, .ref q_keys, .ref q_tags, .ref q_cells, .ref q_unlike, .int v_rows, .int v_proper])), (q_line, .inl (cI, 16, .inl v_line)), (q_unlike, .inl (cI, 256, .inl v_unlike)), (q_p1, .inr (6, [.ref q_p1_kinds, .ref q_p1_tags, .ref q_p1_cells, .int v_p1_columns, .int v_p1_rows])), (q_p1_kinds, .inl (cI, 6, .inl v_p1_kinds)), (q_p1_cells, .inl (cJ, 96, .inr (.inl v_p1_cells)))] sz) [(h0, .inr (2, [.ref q_line, .ref q_before, .ref q_keys, .ref q_tags, .ref q_cells, .ref q_unlike, .int o.1, .int o.2.1])), (q_line, .inl (cI, 16, .inl o.2.2.1)), (q_unlike, .inl (cI, 256, .inl o.2.2.2)), (q_p1, .inr (6, [.ref q_p1_kinds, .ref q_p1_tags, .ref q_p1_cells, .int v_p1_columns, .int v_p1_rows])), (q_p1_kinds, .inl (cI, 6, .inl v_p1_kinds)), (q_p1_cells, .inl (cJ, 96, .inr (.inl v_p1_cells)))]) (va_A [(h0, .inr (2, [.ref q_line, .ref q_before, .ref q_keys, .ref q_tags, .ref q_cells, .ref q_unlike, .int v_rows, .int v_proper])), (q_line, .inl (cI, 16, .inl v_line)), (q_unlike, .inl (cI, 256, .inl v_unlike)), (q_p1, .inr (6, [.ref q_p1_kinds, .ref q_p1_tags, .ref q_p1_cells, .int v_p1_columns, .int v_p1_rows])), (q_p1_kinds, .inl (cI, 6, .inl v_p1_kinds)), (q_p1_cells, .inl (cJ, 96, .inr (.inl v_p1_cells)))] sz)) 0 0 (va_A [(h0, .inr (2, [.ref q_line, .ref q_before, .ref q_keys, .ref q_tags, .ref q_cells, .ref q_unlike, .int v_rows, .int v_proper])), (q_line, .inl (cI, 16, .inl v_line)), (q_unlike, .inl (cI, 256, .inl v_unlike)), (q_p1, .inr (6, [.ref q_p1_kinds, .ref q_p1_tags, .ref q_p1_cells, .int v_p1_columns, .int v_p1_rows])), (q_p1_kinds, .inl (cI, 6, .inl v_p1_kinds)), (q_p1_cells, .inl (cJ, 96, .inr (.inl v_p1_cells)))] sz) := by
  refine Met.ofW (cc := cX4_read) (maxL := 5) (ret := none) (by decide +kernel) rfl ?_
  intro p e s m args below meth c s₁ B hml hv
  obtain ⟨hav, hsz, hP, hK, hD0⟩ := hv
  have hx := B.exec
  have hb := B.bytes
  have hr := B.returns
  have hts := atoms_spec (ws := wsX4_read) B.pre
  have hown : s.vm.findClass RX4 = some m.cls := findClass_of_methodNamed B.named
  have hlocks := B.notSynchronized
  subst hsz
  have hD := hD0.self (sz := s.heap.size)
  generalize hAe : va_A [(h0, .inr (2, [.ref q_line, .ref q_before, .ref q_keys, .ref q_tags, .ref q_cells, .ref q_unlike, .int v_rows, .int v_proper])), (q_line, .inl (cI, 16, .inl v_line)), (q_unlike, .inl (cI, 256, .inl v_unlike)), (q_p1, .inr (6, [.ref q_p1_kinds, .ref q_p1_tags, .ref q_p1_cells, .int v_p1_columns, .int v_p1_rows])), (q_p1_kinds, .inl (cI, 6, .inl v_p1_kinds)), (q_p1_cells, .inl (cJ, 96, .inr (.inl v_p1_cells)))] s.heap.size = A at hD ⊢
  have hA : ∀ q : Nat, s.heap.size ≤ q → A q := fun q h => by rw [← hAe]; exact Or.inr h
  have hS : va_S A s.heap s.heap [] := va_S.rf
  refine wstart (rm := rm_X4_read) hav (Nat.le_of_ble_eq_true rfl) (fun QQ ls hQQ hl => ?_)
  have hl : lv_has ls 5 [(0, .ref h0), (1, .ref q_p1)] := hl
  have hi_X4 : ∀ w ∈ u_ws RX4 TX4 8, w ∈ wsX4_read := by decide +kernel
  have hi_X8 : ∀ w ∈ u_ws RX8 TX8 5, w ∈ wsX4_read := by decide +kernel
  have h := hf
  unfold f_X4_read at h
  refine lv_aload_n hx hb dX4_read_0 rfl (lv_at hl 0 rfl) ?_
  refine lv_aload_n hx hb dX4_read_1 rfl (lv_at hl 1 rfl) ?_
  refine va_get (D := (dC, dI)) (ci := 6) (v := .int v_p1_rows) (C := RX8) (T := TX8) (N := 5) hx hb hts hi_X8 hown hK hP 3 rfl rfl 4 (by decide) (hts _ (List.mem_of_getElem? (i := 1) rfl)) (fun _ h9 => h9) rfl dX4_read_2 ?_
  refine va_put (D := (dC, dI)) (ci := 2) (v := .int v_p1_rows) (ty := .int) (C := RX4) (T := TX4) (N := 8) hx hb hts hi_X4 tyX4 tyX4_ok nmX4 hown hK hP hD hS 0 rfl rfl 6 (by decide) (hts _ (List.mem_of_getElem? (i := 2) rfl)) (fun _ h9 => h9) rfl (by decide +kernel) rfl rfl (Nat.le_of_ble_eq_true rfl) dX4_read_5 (fun H locs hP hD hS => ?_)
  replace hP : va_P (dC, dI) vwCl [(h0, .inr (2, [.ref q_line, .ref q_before, .ref q_keys, .ref q_tags, .ref q_cells, .ref q_unlike, .int v_p1_rows, .int v_proper])), (q_line, .inl (cI, 16, .inl v_line)), (q_unlike, .inl (cI, 256, .inl v_unlike)), (q_p1, .inr (6, [.ref q_p1_kinds, .ref q_p1_tags, .ref q_p1_cells, .int v_p1_columns, .int v_p1_rows])), (q_p1_kinds, .inl (cI, 6, .inl v_p1_kinds)), (q_p1_cells, .inl (cJ, 96, .inr (.inl v_p1_cells)))] H := hP
  replace hD : va_D A [(h0, .inr (2, [.ref q_line, .ref q_before, .ref q_keys, .ref q_tags, .ref q_cells, .ref q_unlike, .int v_p1_rows, .int v_proper])), (q_line, .inl (cI, 16, .inl v_line)), (q_unlike, .inl (cI, 256, .inl v_unlike)), (q_p1, .inr (6, [.ref q_p1_kinds, .ref q_p1_tags, .ref q_p1_cells, .int v_p1_columns, .int v_p1_rows])), (q_p1_kinds, .inl (cI, 6, .inl v_p1_kinds)), (q_p1_cells, .inl (cJ, 96, .inr (.inl v_p1_cells)))] := hD
  refine lv_aload_n hx hb dX4_read_8 rfl (lv_at hl 0 rfl) ?_
  refine lv_aload_n hx hb dX4_read_9 rfl (lv_at hl 1 rfl) ?_
  obtain ⟨o_2055, hr_2055, h⟩ := ob h
  refine vp_callSi (va_Run.run (va_runV (As := []) (rest := [.ref h0]) ⟨hx, hb, hml, hown, hts⟩ (c_X8_properSet l dC dI cB cC cI cJ cZ cT q_p1 q_p1_kinds q_p1_tags q_p1_cells v_p1_columns v_p1_rows v_p1_kinds o_2055 hr_2055) (cwV 0 hts gX4_read_X8_properSet rfl rfl rfl (by decide +kernel) ⟨Nat.le_of_ble_eq_true rfl, Nat.le_of_ble_eq_true rfl⟩) ⟨blR, va_recv hK hP (ci := 6) (q0 := 3) rfl rfl, fun U hU hW => ⟨rfl, by rw [hU]; exact hP.sub [3, 4] rfl, va_K.moved hW.alike hK⟩⟩ rfl rfl hl.1 rfl (lv_room (Nat.le_of_ble_eq_true rfl)) dX4_read_10 ⟨Nat.le_of_ble_eq_true rfl, Nat.le_of_ble_eq_true rfl⟩)) (fun r_2055 e_2055 => ?_)
  subst e_2055
  obtain ⟨o_2057, hr_2057, h⟩ := ob h
  refine vp_callSi (va_Run.run (va_runS (As := [.int o_2055]) (rest := [.ref h0]) ⟨hx, hb, hml, hown, hts⟩ (c_J6_bitCount_0f7a4 l dC dI cB cC cI cJ cZ cT o_2055 o_2057 hr_2057) (va_cwS 1 hts gX4_read_J6_bitCount_0f7a4 rfl rfl rfl (by decide +kernel) ⟨Nat.le_of_ble_eq_true rfl, Nat.le_of_ble_eq_true rfl⟩) ⟨blT, fun U hU hW => ⟨rfl, trivial⟩⟩ rfl rfl hl.1 rfl (lv_room (Nat.le_of_ble_eq_true rfl)) dX4_read_13 ⟨Nat.le_of_ble_eq_true rfl, Nat.le_of_ble_eq_true rfl⟩)) (fun r_2057 e_2057 => ?_)
  subst e_2057
  refine va_put (D := (dC, dI)) (ci := 2) (v := .int o_2057) (ty := .int) (C := RX4) (T := TX4) (N := 8) hx hb hts hi_X4 tyX4 tyX4_ok nmX4 hown hK hP hD hS 0 rfl rfl 7 (by decide) (hts _ (List.mem_of_getElem? (i := 3) rfl)) (fun _ h9 => h9) rfl (by decide +kernel) rfl rfl (Nat.le_of_ble_eq_true rfl) dX4_read_16 (fun H locs hP hD hS => ?_)
  replace hP : va_P (dC, dI) vwCl [(h0, .inr (2, [.ref q_line, .ref q_before, .ref q_keys, .ref q_tags, .ref q_cells, .ref q_unlike, .int v_p1_rows, .int o_2057])), (q_line, .inl (cI, 16, .inl v_line)), (q_unlike, .inl (cI, 256, .inl v_unlike)), (q_p1, .inr (6, [.ref q_p1_kinds, .ref q_p1_tags, .ref q_p1_cells, .int v_p1_columns, .int v_p1_rows])), (q_p1_kinds, .inl (cI, 6, .inl v_p1_kinds)), (q_p1_cells, .inl (cJ, 96, .inr (.inl v_p1_cells)))] H := hP
  replace hD : va_D A [(h0, .inr (2, [.ref q_line, .ref q_before, .ref q_keys, .ref q_tags, .ref q_cells, .ref q_unlike, .int v_p1_rows, .int o_2057])), (q_line, .inl (cI, 16, .inl v_line)), (q_unlike, .inl (cI, 256, .inl v_unlike)), (q_p1, .inr (6, [.ref q_p1_kinds, .ref q_p1_tags, .ref q_p1_cells, .int v_p1_columns, .int v_p1_rows])), (q_p1_kinds, .inl (cI, 6, .inl v_p1_kinds)), (q_p1_cells, .inl (cJ, 96, .inr (.inl v_p1_cells)))] := hD
  refine lv_iconst (v := 0) hx hb dX4_read_19 (by decide) ?_
  refine lv_istore_n (lv' := [(2, .int (0 : Int32)), (0, .ref h0), (1, .ref q_p1)]) hx hb dX4_read_20 rfl hl (by decide) rfl (fun ls hl => ?_)
  have LP_2067 : ∀ (n : Nat) (x2_21 : Int32) (v_line_21 : (Nat → Int32)) (v_unlike_21 : (Nat → Int32)) (w : ((Nat → Int32) × (Nat → Int32))) (H : Heap) (locs : List Loc) (ls : Array Slot), L_X4_read_21 v_p1_columns v_p1_rows v_p1_kinds v_p1_cells n x2_21 v_line_21 v_unlike_21 = some w → va_P (dC, dI) vwCl [(h0, .inr (2, [.ref q_line, .ref q_before, .ref q_keys, .ref q_tags, .ref q_cells, .ref q_unlike, .int v_p1_rows, .int o_2057])), (q_line, .inl (cI, 16, .inl v_line_21)), (q_unlike, .inl (cI, 256, .inl v_unlike_21)), (q_p1, .inr (6, [.ref q_p1_kinds, .ref q_p1_tags, .ref q_p1_cells, .int v_p1_columns, .int v_p1_rows])), (q_p1_kinds, .inl (cI, 6, .inl v_p1_kinds)), (q_p1_cells, .inl (cJ, 96, .inr (.inl v_p1_cells)))] H → va_D A [(h0, .inr (2, [.ref q_line, .ref q_before, .ref q_keys, .ref q_tags, .ref q_cells, .ref q_unlike, .int v_p1_rows, .int o_2057])), (q_line, .inl (cI, 16, .inl v_line_21)), (q_unlike, .inl (cI, 256, .inl v_unlike_21)), (q_p1, .inr (6, [.ref q_p1_kinds, .ref q_p1_tags, .ref q_p1_cells, .int v_p1_columns, .int v_p1_rows])), (q_p1_kinds, .inl (cI, 6, .inl v_p1_kinds)), (q_p1_cells, .inl (cJ, 96, .inr (.inl v_p1_cells)))] → va_S A s.heap H locs → lv_has ls 5 [(0, .ref h0), (1, .ref q_p1), (2, .int x2_21)] → (∀ (H : Heap) (locs : List Loc) (ls : Array Slot), va_P (dC, dI) vwCl [(h0, .inr (2, [.ref q_line, .ref q_before, .ref q_keys, .ref q_tags, .ref q_cells, .ref q_unlike, .int v_p1_rows, .int o_2057])), (q_line, .inl (cI, 16, .inl w.1)), (q_unlike, .inl (cI, 256, .inl w.2)), (q_p1, .inr (6, [.ref q_p1_kinds, .ref q_p1_tags, .ref q_p1_cells, .int v_p1_columns, .int v_p1_rows])), (q_p1_kinds, .inl (cI, 6, .inl v_p1_kinds)), (q_p1_cells, .inl (cJ, 96, .inr (.inl v_p1_cells)))] H → va_D A [(h0, .inr (2, [.ref q_line, .ref q_before, .ref q_keys, .ref q_tags, .ref q_cells, .ref q_unlike, .int v_p1_rows, .int o_2057])), (q_line, .inl (cI, 16, .inl w.1)), (q_unlike, .inl (cI, 256, .inl w.2)), (q_p1, .inr (6, [.ref q_p1_kinds, .ref q_p1_tags, .ref q_p1_cells, .int v_p1_columns, .int v_p1_rows])), (q_p1_kinds, .inl (cI, 6, .inl v_p1_kinds)), (q_p1_cells, .inl (cJ, 96, .inr (.inl v_p1_cells)))] → va_S A s.heap H locs → lv_has ls 5 [] → W p l e rm_X4_read s m args below meth c H locs 0 0 QQ (F0 m 89 ls [])) → W p l e rm_X4_read s m args below meth c H locs 0 0 QQ (F0 m 21 ls []) := by
    intro n
    induction n with
    | zero => intro x2_21 v_line_21 v_unlike_21 w H locs ls h; exact absurd (show none = some w from h) nofun
    | succ n ih =>
      intro x2_21 v_line_21 v_unlike_21 w H locs ls h hP hD hS hl K
      rw [L_X4_read_21] at h
      refine lv_iload_n hx hb dX4_read_21 rfl (lv_at hl 2 rfl) ?_
      refine lv_aload_n hx hb dX4_read_22 rfl (lv_at hl 0 rfl) ?_
      refine va_get (D := (dC, dI)) (ci := 2) (v := .int v_p1_rows) (C := RX4) (T := TX4) (N := 8) hx hb hts hi_X4 hown hK hP 0 rfl rfl 6 (by decide) (hts _ (List.mem_of_getElem? (i := 2) rfl)) (fun _ h9 => h9) rfl dX4_read_23 ?_
      refine lv_icmp_ge (tgt := 89) hx hb dX4_read_26 (by decide) (fun c_2059 => ?_) (fun c_2059 => ?_)
      · replace h := op c_2059 h
        have ho := Option.some.inj h
        subst ho
        exact K H _ ls hP hD hS (lv_sub hl [] rfl)
      · replace h := on c_2059 h
        refine lv_aload_n hx hb dX4_read_29 rfl (lv_at hl 0 rfl) ?_
        refine va_get (D := (dC, dI)) (ci := 2) (v := .ref q_line) (C := RX4) (T := TX4) (N := 8) hx hb hts hi_X4 hown hK hP 0 rfl rfl 0 (by decide) (hts _ (List.mem_of_getElem? (i := 4) rfl)) (fun _ h9 => h9) rfl dX4_read_30 ?_
        refine lv_iload_n hx hb dX4_read_33 rfl (lv_at hl 2 rfl) ?_
        refine lv_iload_n hx hb dX4_read_34 rfl (lv_at hl 2 rfl) ?_
        obtain ⟨hi_2060, h⟩ := og h
        refine va_iast hx hb hK hP hD hS 1 0 rfl rfl hi_2060 dX4_read_35 (fun H locs hP hD hS => ?_)
        replace hP : va_P (dC, dI) vwCl [(h0, .inr (2, [.ref q_line, .ref q_before, .ref q_keys, .ref q_tags, .ref q_cells, .ref q_unlike, .int v_p1_rows, .int o_2057])), (q_line, .inl (cI, 16, .inl (upd v_line_21 (x2_21).toNatClampNeg x2_21))), (q_unlike, .inl (cI, 256, .inl v_unlike_21)), (q_p1, .inr (6, [.ref q_p1_kinds, .ref q_p1_tags, .ref q_p1_cells, .int v_p1_columns, .int v_p1_rows])), (q_p1_kinds, .inl (cI, 6, .inl v_p1_kinds)), (q_p1_cells, .inl (cJ, 96, .inr (.inl v_p1_cells)))] H := hP
        replace hD : va_D A [(h0, .inr (2, [.ref q_line, .ref q_before, .ref q_keys, .ref q_tags, .ref q_cells, .ref q_unlike, .int v_p1_rows, .int o_2057])), (q_line, .inl (cI, 16, .inl (upd v_line_21 (x2_21).toNatClampNeg x2_21))), (q_unlike, .inl (cI, 256, .inl v_unlike_21)), (q_p1, .inr (6, [.ref q_p1_kinds, .ref q_p1_tags, .ref q_p1_cells, .int v_p1_columns, .int v_p1_rows])), (q_p1_kinds, .inl (cI, 6, .inl v_p1_kinds)), (q_p1_cells, .inl (cJ, 96, .inr (.inl v_p1_cells)))] := hD
        refine lv_iconst (v := 0) hx hb dX4_read_36 (by decide) ?_
        refine lv_istore_n (lv' := [(3, .int (0 : Int32)), (0, .ref h0), (1, .ref q_p1), (2, .int x2_21)]) hx hb dX4_read_37 rfl hl (by decide) rfl (fun ls hl => ?_)
        have LP_2066 : ∀ (n : Nat) (x3_38 : Int32) (v_unlike_38 : (Nat → Int32)) (w : (Nat → Int32)) (H : Heap) (locs : List Loc) (ls : Array Slot), L_X4_read_38 v_p1_columns v_p1_kinds v_p1_cells x2_21 n x3_38 v_unlike_38 = some w → va_P (dC, dI) vwCl [(h0, .inr (2, [.ref q_line, .ref q_before, .ref q_keys, .ref q_tags, .ref q_cells, .ref q_unlike, .int v_p1_rows, .int o_2057])), (q_line, .inl (cI, 16, .inl (upd v_line_21 (x2_21).toNatClampNeg x2_21))), (q_unlike, .inl (cI, 256, .inl v_unlike_38)), (q_p1, .inr (6, [.ref q_p1_kinds, .ref q_p1_tags, .ref q_p1_cells, .int v_p1_columns, .int v_p1_rows])), (q_p1_kinds, .inl (cI, 6, .inl v_p1_kinds)), (q_p1_cells, .inl (cJ, 96, .inr (.inl v_p1_cells)))] H → va_D A [(h0, .inr (2, [.ref q_line, .ref q_before, .ref q_keys, .ref q_tags, .ref q_cells, .ref q_unlike, .int v_p1_rows, .int o_2057])), (q_line, .inl (cI, 16, .inl (upd v_line_21 (x2_21).toNatClampNeg x2_21))), (q_unlike, .inl (cI, 256, .inl v_unlike_38)), (q_p1, .inr (6, [.ref q_p1_kinds, .ref q_p1_tags, .ref q_p1_cells, .int v_p1_columns, .int v_p1_rows])), (q_p1_kinds, .inl (cI, 6, .inl v_p1_kinds)), (q_p1_cells, .inl (cJ, 96, .inr (.inl v_p1_cells)))] → va_S A s.heap H locs → lv_has ls 5 [(0, .ref h0), (1, .ref q_p1), (2, .int x2_21), (3, .int x3_38)] → (∀ (H : Heap) (locs : List Loc) (ls : Array Slot), va_P (dC, dI) vwCl [(h0, .inr (2, [.ref q_line, .ref q_before, .ref q_keys, .ref q_tags, .ref q_cells, .ref q_unlike, .int v_p1_rows, .int o_2057])), (q_line, .inl (cI, 16, .inl (upd v_line_21 (x2_21).toNatClampNeg x2_21))), (q_unlike, .inl (cI, 256, .inl w)), (q_p1, .inr (6, [.ref q_p1_kinds, .ref q_p1_tags, .ref q_p1_cells, .int v_p1_columns, .int v_p1_rows])), (q_p1_kinds, .inl (cI, 6, .inl v_p1_kinds)), (q_p1_cells, .inl (cJ, 96, .inr (.inl v_p1_cells)))] H → va_D A [(h0, .inr (2, [.ref q_line, .ref q_before, .ref q_keys, .ref q_tags, .ref q_cells, .ref q_unlike, .int v_p1_rows, .int o_2057])), (q_line, .inl (cI, 16, .inl (upd v_line_21 (x2_21).toNatClampNeg x2_21))), (q_unlike, .inl (cI, 256, .inl w)), (q_p1, .inr (6, [.ref q_p1_kinds, .ref q_p1_tags, .ref q_p1_cells, .int v_p1_columns, .int v_p1_rows])), (q_p1_kinds, .inl (cI, 6, .inl v_p1_kinds)), (q_p1_cells, .inl (cJ, 96, .inr (.inl v_p1_cells)))] → va_S A s.heap H locs → lv_has ls 5 [(0, .ref h0), (1, .ref q_p1), (2, .int x2_21)] → W p l e rm_X4_read s m args below meth c H locs 0 0 QQ (F0 m 83 ls [])) → W p l e rm_X4_read s m args below meth c H locs 0 0 QQ (F0 m 38 ls []) := by
          intro n
          induction n with
          | zero => intro x3_38 v_unlike_38 w H locs ls h; exact absurd (show none = some w from h) nofun
          | succ n ih =>
            intro x3_38 v_unlike_38 w H locs ls h hP hD hS hl K
            rw [L_X4_read_38] at h
            refine lv_iload_n hx hb dX4_read_38 rfl (lv_at hl 3 rfl) ?_
            refine lv_iload_n hx hb dX4_read_39 rfl (lv_at hl 2 rfl) ?_
            refine lv_icmp_ge (tgt := 83) hx hb dX4_read_40 (by decide) (fun c_2061 => ?_) (fun c_2061 => ?_)
            · replace h := op c_2061 h
              have ho := Option.some.inj h
              subst ho
              exact K H _ ls hP hD hS (lv_sub hl [0, 1, 2] rfl)
            · replace h := on c_2061 h
              refine lv_aload_n hx hb dX4_read_43 rfl (lv_at hl 1 rfl) ?_
              refine lv_iload_n hx hb dX4_read_44 rfl (lv_at hl 2 rfl) ?_
              refine lv_iload_n hx hb dX4_read_45 rfl (lv_at hl 3 rfl) ?_
              obtain ⟨o_2062, hr_2062, h⟩ := ob h
              refine vp_callSi (va_Run.run (va_runV (As := [.int x2_21, .int x3_38]) (rest := []) ⟨hx, hb, hml, hown, hts⟩ (c_X8_unlikeCells l dC dI cB cC cI cJ cZ cT q_p1 q_p1_kinds q_p1_tags q_p1_cells v_p1_columns v_p1_rows v_p1_kinds v_p1_cells x2_21 x3_38 o_2062 hr_2062) (cwV 2 hts gX4_read_X8_unlikeCells rfl rfl rfl (by decide +kernel) ⟨Nat.le_of_ble_eq_true rfl, Nat.le_of_ble_eq_true rfl⟩) ⟨blR, va_recv hK hP (ci := 6) (q0 := 3) rfl rfl, fun U hU hW => ⟨rfl, by rw [hU]; exact hP.sub [3, 4, 5] rfl, va_K.moved hW.alike hK⟩⟩ rfl rfl hl.1 rfl (lv_room (Nat.le_of_ble_eq_true rfl)) dX4_read_46 ⟨Nat.le_of_ble_eq_true rfl, Nat.le_of_ble_eq_true rfl⟩)) (fun r_2062 e_2062 => ?_)
              subst e_2062
              refine lv_istore (lv' := [(4, .int o_2062), (0, .ref h0), (1, .ref q_p1), (2, .int x2_21), (3, .int x3_38)]) hx hb dX4_read_49 hl (by decide) rfl (fun ls hl => ?_)
              refine lv_aload_n hx hb dX4_read_51 rfl (lv_at hl 1 rfl) ?_
              refine va_get (D := (dC, dI)) (ci := 2) (v := .ref q_unlike) (C := RX4) (T := TX4) (N := 8) hx hb hts hi_X4 hown hK hP 0 rfl rfl 5 (by decide) (hts _ (List.mem_of_getElem? (i := 5) rfl)) (fun _ h9 => h9) rfl dX4_read_52 ?_
              refine lv_iload_n hx hb dX4_read_55 rfl (lv_at hl 3 rfl) ?_
              refine lv_bipush (v := 16) hx hb dX4_read_56 (by decide) ?_
              refine lv_imul hx hb dX4_read_58 ?_
              refine lv_iload_n hx hb dX4_read_59 rfl (lv_at hl 4 rfl) ?_
              refine lv_iadd hx hb dX4_read_60 ?_
              refine lv_iload hx hb dX4_read_61 (lv_at hl 0 rfl) ?_
              obtain ⟨hi_2064, h⟩ := og h
              refine va_iast hx hb hK hP hD hS 2 0 rfl rfl hi_2064 dX4_read_63 (fun H locs hP hD hS => ?_)
              replace hP : va_P (dC, dI) vwCl [(h0, .inr (2, [.ref q_line, .ref q_before, .ref q_keys, .ref q_tags, .ref q_cells, .ref q_unlike, .int v_p1_rows, .int o_2057])), (q_line, .inl (cI, 16, .inl (upd v_line_21 (x2_21).toNatClampNeg x2_21))), (q_unlike, .inl (cI, 256, .inl (upd v_unlike_38 (((x2_21 * (16 : Int32)) + x3_38)).toNatClampNeg o_2062))), (q_p1, .inr (6, [.ref q_p1_kinds, .ref q_p1_tags, .ref q_p1_cells, .int v_p1_columns, .int v_p1_rows])), (q_p1_kinds, .inl (cI, 6, .inl v_p1_kinds)), (q_p1_cells, .inl (cJ, 96, .inr (.inl v_p1_cells)))] H := hP
              replace hD : va_D A [(h0, .inr (2, [.ref q_line, .ref q_before, .ref q_keys, .ref q_tags, .ref q_cells, .ref q_unlike, .int v_p1_rows, .int o_2057])), (q_line, .inl (cI, 16, .inl (upd v_line_21 (x2_21).toNatClampNeg x2_21))), (q_unlike, .inl (cI, 256, .inl (upd v_unlike_38 (((x2_21 * (16 : Int32)) + x3_38)).toNatClampNeg o_2062))), (q_p1, .inr (6, [.ref q_p1_kinds, .ref q_p1_tags, .ref q_p1_cells, .int v_p1_columns, .int v_p1_rows])), (q_p1_kinds, .inl (cI, 6, .inl v_p1_kinds)), (q_p1_cells, .inl (cJ, 96, .inr (.inl v_p1_cells)))] := hD
              refine lv_aload_n hx hb dX4_read_64 rfl (lv_at hl 1 rfl) ?_
              refine va_get (D := (dC, dI)) (ci := 2) (v := .ref q_unlike) (C := RX4) (T := TX4) (N := 8) hx hb hts hi_X4 hown hK hP 0 rfl rfl 5 (by decide) (hts _ (List.mem_of_getElem? (i := 5) rfl)) (fun _ h9 => h9) rfl dX4_read_65 ?_
              refine lv_iload_n hx hb dX4_read_68 rfl (lv_at hl 4 rfl) ?_
              refine lv_bipush (v := 16) hx hb dX4_read_69 (by decide) ?_
              refine lv_imul hx hb dX4_read_71 ?_
              refine lv_iload_n hx hb dX4_read_72 rfl (lv_at hl 3 rfl) ?_
              refine lv_iadd hx hb dX4_read_73 ?_
              refine lv_iload hx hb dX4_read_74 (lv_at hl 0 rfl) ?_
              obtain ⟨hi_2065, h⟩ := og h
              refine va_iast hx hb hK hP hD hS 2 0 rfl rfl hi_2065 dX4_read_76 (fun H locs hP hD hS => ?_)
              replace hP : va_P (dC, dI) vwCl [(h0, .inr (2, [.ref q_line, .ref q_before, .ref q_keys, .ref q_tags, .ref q_cells, .ref q_unlike, .int v_p1_rows, .int o_2057])), (q_line, .inl (cI, 16, .inl (upd v_line_21 (x2_21).toNatClampNeg x2_21))), (q_unlike, .inl (cI, 256, .inl (upd (upd v_unlike_38 (((x2_21 * (16 : Int32)) + x3_38)).toNatClampNeg o_2062) (((x3_38 * (16 : Int32)) + x2_21)).toNatClampNeg o_2062))), (q_p1, .inr (6, [.ref q_p1_kinds, .ref q_p1_tags, .ref q_p1_cells, .int v_p1_columns, .int v_p1_rows])), (q_p1_kinds, .inl (cI, 6, .inl v_p1_kinds)), (q_p1_cells, .inl (cJ, 96, .inr (.inl v_p1_cells)))] H := hP
              replace hD : va_D A [(h0, .inr (2, [.ref q_line, .ref q_before, .ref q_keys, .ref q_tags, .ref q_cells, .ref q_unlike, .int v_p1_rows, .int o_2057])), (q_line, .inl (cI, 16, .inl (upd v_line_21 (x2_21).toNatClampNeg x2_21))), (q_unlike, .inl (cI, 256, .inl (upd (upd v_unlike_38 (((x2_21 * (16 : Int32)) + x3_38)).toNatClampNeg o_2062) (((x3_38 * (16 : Int32)) + x2_21)).toNatClampNeg o_2062))), (q_p1, .inr (6, [.ref q_p1_kinds, .ref q_p1_tags, .ref q_p1_cells, .int v_p1_columns, .int v_p1_rows])), (q_p1_kinds, .inl (cI, 6, .inl v_p1_kinds)), (q_p1_cells, .inl (cJ, 96, .inr (.inl v_p1_cells)))] := hD
              refine lv_iinc (v := (x3_38 + 1)) (lv' := [(3, .int (x3_38 + 1)), (4, .int o_2062), (0, .ref h0), (1, .ref q_p1), (2, .int x2_21)]) hx hb dX4_read_77 hl (k := 4) rfl (by rfl) (by decide) rfl (fun ls hl => ?_)
              refine lv_goto (tgt := 38) hx hb dX4_read_80 (by decide) ?_
              exact ih (x3_38 + 1) (upd (upd v_unlike_38 (((x2_21 * (16 : Int32)) + x3_38)).toNatClampNeg o_2062) (((x3_38 * (16 : Int32)) + x2_21)).toNatClampNeg o_2062) w H _ ls h hP hD hS (lv_sub hl [2, 3, 4, 0] rfl) K
        obtain ⟨w_2066, hw_2066, h⟩ := ob h
        refine LP_2066 fu (0 : Int32) v_unlike_21 w_2066 H _ ls hw_2066 hP hD hS (lv_sub hl [1, 2, 3, 0] rfl) (fun H locs ls hP hD hS hl => ?_)
        refine lv_iinc (v := (x2_21 + 1)) (lv' := [(2, .int (x2_21 + 1)), (0, .ref h0), (1, .ref q_p1)]) hx hb dX4_read_83 hl (k := 2) rfl (by rfl) (by decide) rfl (fun ls hl => ?_)
        refine lv_goto (tgt := 21) hx hb dX4_read_86 (by decide) ?_
        exact ih (x2_21 + 1) (upd v_line_21 (x2_21).toNatClampNeg x2_21) w_2066 w H _ ls h hP hD hS (lv_sub hl [1, 2, 0] rfl) K
  obtain ⟨w_2067, hw_2067, h⟩ := ob h
  refine LP_2067 fu (0 : Int32) v_line v_unlike w_2067 H _ ls hw_2067 hP hD hS (lv_sub hl [1, 2, 0] rfl) (fun H locs ls hP hD hS hl => ?_)
  rw [hQQ]
  have ho := Option.some.inj h
  subst ho
  exact W.vret hx hb hr (fun t ht hW => ⟨⟨(), rfl, trivial, by rw [ht]; exact hP, va_K.moved hW.alike hK, hD⟩, hS.F ht⟩) hS.2.2 dX4_read_89
def f_X4_unlikeAt (v_line : Nat → Int32) (v_unlike : Nat → Int32) (x1 : Int32) (x2 : Int32) : Option Int32 :=
  (if x1 < 0 ∨ 16 ≤ (x1).toNatClampNeg then none else (if x2 < 0 ∨ 16 ≤ (x2).toNatClampNeg then none else (if (((v_line (x1).toNatClampNeg) * (16 : Int32)) + (v_line (x2).toNatClampNeg)) < 0 ∨ 256 ≤ ((((v_line (x1).toNatClampNeg) * (16 : Int32)) + (v_line (x2).toNatClampNeg))).toNatClampNeg then none else (some (v_unlike ((((v_line (x1).toNatClampNeg) * (16 : Int32)) + (v_line (x2).toNatClampNeg))).toNatClampNeg)))))
abbrev rm_X4_unlikeAt : Room := { frames := 0, cells := 0, slots := 0, locals := 0 }
set_option maxHeartbeats 4000000 in
set_option maxRecDepth 100000 in
theorem c_X4_unlikeAt (l : Launch) (dC : Nat → ClassId) (dI : Nat → Nat → Nat) (cB cC cI cJ cZ cT : ClassId) (h0 q_line q_before q_keys q_tags q_cells q_unlike : Nat) (v_rows : Int32) (v_proper : Int32) (v_line : Nat → Int32) (v_unlike : Nat → Int32) (x1 : Int32) (x2 : Int32) (o : Int32) (hf : f_X4_unlikeAt v_line v_unlike x1 x2 = some o) : Met l yX4_unlikeAt wsX4_unlikeAt rm_X4_unlikeAt (va_Pc [.ref h0, .int x1, .int x2] (fun U => va_P (dC, dI) vwCl [(h0, .inr (2, [.ref q_line, .ref q_before, .ref q_keys, .ref q_tags, .ref q_cells, .ref q_unlike, .int v_rows, .int v_proper])), (q_line, .inl (cI, 16, .inl v_line)), (q_unlike, .inl (cI, 256, .inl v_unlike))] U.heap ∧ va_K (dC, dI) vwCl (tyA cB cC cI cJ cZ cT) U)) (vp_Si (fun r => o = r)) 0 0 (fun _ => False) := by
  refine Met.ofW (cc := cX4_unlikeAt) (maxL := 3) (ret := (some .int)) (by decide +kernel) rfl ?_
  intro p e s m args below meth c s₁ B hml hv
  obtain ⟨hav, hP, hK⟩ := hv
  have hx := B.exec
  have hb := B.bytes
  have hr := B.returns
  have hts := atoms_spec (ws := wsX4_unlikeAt) B.pre
  have hown : s.vm.findClass RX4 = some m.cls := findClass_of_methodNamed B.named
  have hlocks := B.notSynchronized
  refine wstart (rm := rm_X4_unlikeAt) hav (Nat.le_of_ble_eq_true rfl) (fun QQ ls hQQ hl => ?_)
  have hl : lv_has ls 3 [(0, .ref h0), (1, .int x1), (2, .int x2)] := hl
  have hi_X4 : ∀ w ∈ u_ws RX4 TX4 8, w ∈ wsX4_unlikeAt := by decide +kernel
  have h := hf
  unfold f_X4_unlikeAt at h
  refine lv_aload_n hx hb dX4_unlikeAt_0 rfl (lv_at hl 0 rfl) ?_
  refine va_get (D := (dC, dI)) (ci := 2) (v := .ref q_unlike) (C := RX4) (T := TX4) (N := 8) hx hb hts hi_X4 hown hK hP 0 rfl rfl 5 (by decide) (hts _ (List.mem_of_getElem? (i := 1) rfl)) (fun _ h9 => h9) rfl dX4_unlikeAt_1 ?_
  refine lv_aload_n hx hb dX4_unlikeAt_4 rfl (lv_at hl 0 rfl) ?_
  refine va_get (D := (dC, dI)) (ci := 2) (v := .ref q_line) (C := RX4) (T := TX4) (N := 8) hx hb hts hi_X4 hown hK hP 0 rfl rfl 0 (by decide) (hts _ (List.mem_of_getElem? (i := 2) rfl)) (fun _ h9 => h9) rfl dX4_unlikeAt_5 ?_
  refine lv_iload_n hx hb dX4_unlikeAt_8 rfl (lv_at hl 1 rfl) ?_
  obtain ⟨hi_2068, h⟩ := og h
  refine va_iald hx hb hK hP 1 0 rfl rfl hi_2068 dX4_unlikeAt_9 ?_
  refine lv_bipush (v := 16) hx hb dX4_unlikeAt_10 (by decide) ?_
  refine lv_imul hx hb dX4_unlikeAt_12 ?_
  refine lv_aload_n hx hb dX4_unlikeAt_13 rfl (lv_at hl 0 rfl) ?_
  refine va_get (D := (dC, dI)) (ci := 2) (v := .ref q_line) (C := RX4) (T := TX4) (N := 8) hx hb hts hi_X4 hown hK hP 0 rfl rfl 0 (by decide) (hts _ (List.mem_of_getElem? (i := 2) rfl)) (fun _ h9 => h9) rfl dX4_unlikeAt_14 ?_
  refine lv_iload_n hx hb dX4_unlikeAt_17 rfl (lv_at hl 2 rfl) ?_
  obtain ⟨hi_2069, h⟩ := og h
  refine va_iald hx hb hK hP 1 0 rfl rfl hi_2069 dX4_unlikeAt_18 ?_
  refine lv_iadd hx hb dX4_unlikeAt_19 ?_
  obtain ⟨hi_2070, h⟩ := og h
  refine va_iald hx hb hK hP 2 0 rfl rfl hi_2070 dX4_unlikeAt_20 ?_
  rw [hQQ]
  exact W.iret hx hb hr (fun t ht hW => ⟨_, rfl, (Option.some.inj h).symm, ht⟩) (fun q hq => absurd hq List.not_mem_nil) dX4_unlikeAt_21
def L_X4_runsOfLine_18 (v_rows : Int32) (v_line : (Nat → Int32)) (v_unlike : (Nat → Int32)) : Nat → Int32 → Int32 → Option Int32
  | 0, _, _ => none
  | n+1, x1_18, x2_18 => (if v_rows ≤ x2_18 then (some x1_18) else ((f_X4_unlikeAt v_line v_unlike (x2_18 - (1 : Int32)) x2_18).bind (fun o_2075 => (L_X4_runsOfLine_18 v_rows v_line v_unlike n (x1_18 + o_2075) (x2_18 + 1)))))
def f_X4_runsOfLine (v_rows : Int32) (v_proper : Int32) (v_line : Nat → Int32) (v_unlike : Nat → Int32) : Option Int32 :=
  (((if v_rows ≤ 0 then (some (0 : Int32)) else (some v_proper))).bind (fun v_2071 => ((L_X4_runsOfLine_18 v_rows v_line v_unlike fu v_2071 (1 : Int32)).bind (fun w_2077 => (some w_2077)))))
abbrev rm_X4_runsOfLine : Room := { frames := 1, cells := 0, slots := 0, locals := 22 }
set_option maxHeartbeats 4000000 in
set_option maxRecDepth 100000 in
theorem c_X4_runsOfLine (l : Launch) (dC : Nat → ClassId) (dI : Nat → Nat → Nat) (cB cC cI cJ cZ cT : ClassId) (h0 q_line q_before q_keys q_tags q_cells q_unlike : Nat) (v_rows : Int32) (v_proper : Int32) (v_line : Nat → Int32) (v_unlike : Nat → Int32) (o : Int32) (hf : f_X4_runsOfLine v_rows v_proper v_line v_unlike = some o) : Met l yX4_runsOfLine wsX4_runsOfLine rm_X4_runsOfLine (va_Pc [.ref h0] (fun U => va_P (dC, dI) vwCl [(h0, .inr (2, [.ref q_line, .ref q_before, .ref q_keys, .ref q_tags, .ref q_cells, .ref q_unlike, .int v_rows, .int v_proper])), (q_line, .inl (cI, 16, .inl v_line)), (q_unlike, .inl (cI, 256, .inl v_unlike))] U.heap ∧ va_K (dC, dI) vwCl (tyA cB cC cI cJ cZ cT) U)) (vp_Si (fun r => o = r)) 0 0 (fun _ => False) := by
  refine Met.ofW (cc := cX4_runsOfLine) (maxL := 3) (ret := (some .int)) (by decide +kernel) rfl ?_
  intro p e s m args below meth c s₁ B hml hv
  obtain ⟨hav, hP, hK⟩ := hv
  have hx := B.exec
  have hb := B.bytes
  have hr := B.returns
  have hts := atoms_spec (ws := wsX4_runsOfLine) B.pre
  have hown : s.vm.findClass RX4 = some m.cls := findClass_of_methodNamed B.named
  have hlocks := B.notSynchronized
  refine wstart (rm := rm_X4_runsOfLine) hav (Nat.le_of_ble_eq_true rfl) (fun QQ ls hQQ hl => ?_)
  have hl : lv_has ls 3 [(0, .ref h0)] := hl
  have hi_X4 : ∀ w ∈ u_ws RX4 TX4 8, w ∈ wsX4_runsOfLine := by decide +kernel
  have h := hf
  unfold f_X4_runsOfLine at h
  refine lv_aload_n hx hb dX4_runsOfLine_0 rfl (lv_at hl 0 rfl) ?_
  refine va_get (D := (dC, dI)) (ci := 2) (v := .int v_rows) (C := RX4) (T := TX4) (N := 8) hx hb hts hi_X4 hown hK hP 0 rfl rfl 6 (by decide) (hts _ (List.mem_of_getElem? (i := 1) rfl)) (fun _ h9 => h9) rfl dX4_runsOfLine_1 ?_
  obtain ⟨v_2071, hv_2071, h⟩ := ob h
  have J_2071 : ∀ (ls : Array Slot), lv_has ls 3 [(0, .ref h0)] → W p l e rm_X4_runsOfLine s m args below meth c s.heap [] 0 0 QQ (F0 m 15 ls [.int v_2071]) := by
    intro ls hl
    refine lv_istore_n (lv' := [(1, .int v_2071), (0, .ref h0)]) hx hb dX4_runsOfLine_15 rfl hl (by decide) rfl (fun ls hl => ?_)
    refine lv_iconst (v := 1) hx hb dX4_runsOfLine_16 (by decide) ?_
    refine lv_istore_n (lv' := [(2, .int (1 : Int32)), (1, .int v_2071), (0, .ref h0)]) hx hb dX4_runsOfLine_17 rfl hl (by decide) rfl (fun ls hl => ?_)
    have LP_2077 : ∀ (n : Nat) (x1_18 : Int32) (x2_18 : Int32) (w : Int32) (ls : Array Slot), L_X4_runsOfLine_18 v_rows v_line v_unlike n x1_18 x2_18 = some w → lv_has ls 3 [(0, .ref h0), (1, .int x1_18), (2, .int x2_18)] → (∀ (ls : Array Slot), lv_has ls 3 [(1, .int w)] → W p l e rm_X4_runsOfLine s m args below meth c s.heap [] 0 0 QQ (F0 m 43 ls [])) → W p l e rm_X4_runsOfLine s m args below meth c s.heap [] 0 0 QQ (F0 m 18 ls []) := by
      intro n
      induction n with
      | zero => intro x1_18 x2_18 w ls h; exact absurd (show none = some w from h) nofun
      | succ n ih =>
        intro x1_18 x2_18 w ls h hl K
        rw [L_X4_runsOfLine_18] at h
        refine lv_iload_n hx hb dX4_runsOfLine_18 rfl (lv_at hl 2 rfl) ?_
        refine lv_aload_n hx hb dX4_runsOfLine_19 rfl (lv_at hl 0 rfl) ?_
        refine va_get (D := (dC, dI)) (ci := 2) (v := .int v_rows) (C := RX4) (T := TX4) (N := 8) hx hb hts hi_X4 hown hK hP 0 rfl rfl 6 (by decide) (hts _ (List.mem_of_getElem? (i := 1) rfl)) (fun _ h9 => h9) rfl dX4_runsOfLine_20 ?_
        refine lv_icmp_ge (tgt := 43) hx hb dX4_runsOfLine_23 (by decide) (fun c_2074 => ?_) (fun c_2074 => ?_)
        · replace h := op c_2074 h
          have ho := Option.some.inj h
          subst ho
          exact K ls (lv_sub hl [1] rfl)
        · replace h := on c_2074 h
          refine lv_iload_n hx hb dX4_runsOfLine_26 rfl (lv_at hl 1 rfl) ?_
          refine lv_aload_n hx hb dX4_runsOfLine_27 rfl (lv_at hl 0 rfl) ?_
          refine lv_iload_n hx hb dX4_runsOfLine_28 rfl (lv_at hl 2 rfl) ?_
          refine lv_iconst (v := 1) hx hb dX4_runsOfLine_29 (by decide) ?_
          refine lv_isub hx hb dX4_runsOfLine_30 ?_
          refine lv_iload_n hx hb dX4_runsOfLine_31 rfl (lv_at hl 2 rfl) ?_
          obtain ⟨o_2075, hr_2075, h⟩ := ob h
          refine vp_callSi (va_Run.run (va_runV (As := [.int (x2_18 - (1 : Int32)), .int x2_18]) (rest := [.int x1_18]) ⟨hx, hb, hml, hown, hts⟩ (c_X4_unlikeAt l dC dI cB cC cI cJ cZ cT h0 q_line q_before q_keys q_tags q_cells q_unlike v_rows v_proper v_line v_unlike (x2_18 - (1 : Int32)) x2_18 o_2075 hr_2075) (cwV 2 hts gX4_runsOfLine_X4_unlikeAt rfl rfl rfl (by decide +kernel) ⟨Nat.le_of_ble_eq_true rfl, Nat.le_of_ble_eq_true rfl⟩) ⟨blR, va_recv hK hP (ci := 2) (q0 := 0) rfl rfl, fun U hU hW => ⟨rfl, by rw [hU]; exact hP.sub [0, 1, 2] rfl, va_K.moved hW.alike hK⟩⟩ rfl rfl hl.1 rfl (lv_room (Nat.le_of_ble_eq_true rfl)) dX4_runsOfLine_32 ⟨Nat.le_of_ble_eq_true rfl, Nat.le_of_ble_eq_true rfl⟩)) (fun r_2075 e_2075 => ?_)
          subst e_2075
          refine lv_iadd hx hb dX4_runsOfLine_35 ?_
          refine lv_istore_n (lv' := [(1, .int (x1_18 + o_2075)), (0, .ref h0), (2, .int x2_18)]) hx hb dX4_runsOfLine_36 rfl hl (by decide) rfl (fun ls hl => ?_)
          refine lv_iinc (v := (x2_18 + 1)) (lv' := [(2, .int (x2_18 + 1)), (1, .int (x1_18 + o_2075)), (0, .ref h0)]) hx hb dX4_runsOfLine_37 hl (k := 2) rfl (by rfl) (by decide) rfl (fun ls hl => ?_)
          refine lv_goto (tgt := 18) hx hb dX4_runsOfLine_40 (by decide) ?_
          exact ih (x1_18 + o_2075) (x2_18 + 1) w ls h (lv_sub hl [2, 1, 0] rfl) K
    obtain ⟨w_2077, hw_2077, h⟩ := ob h
    refine LP_2077 fu v_2071 (1 : Int32) w_2077 ls hw_2077 (lv_sub hl [2, 1, 0] rfl) (fun ls hl => ?_)
    refine lv_iload_n hx hb dX4_runsOfLine_43 rfl (lv_at hl 0 rfl) ?_
    rw [hQQ]
    exact W.iret hx hb hr (fun t ht hW => ⟨_, rfl, (Option.some.inj h).symm, ht⟩) (fun q hq => absurd hq List.not_mem_nil) dX4_runsOfLine_44
  replace h := hv_2071
  refine lv_if_le (tgt := 14) hx hb dX4_runsOfLine_4 (by decide) (fun c_2073 => ?_) (fun c_2073 => ?_)
  · replace h := op c_2073 h
    refine lv_iconst (v := 0) hx hb dX4_runsOfLine_14 (by decide) ?_
    have ho := Option.some.inj h
    subst ho
    exact J_2071 ls (lv_sub hl [0] rfl)
  · replace h := on c_2073 h
    refine lv_aload_n hx hb dX4_runsOfLine_7 rfl (lv_at hl 0 rfl) ?_
    refine va_get (D := (dC, dI)) (ci := 2) (v := .int v_proper) (C := RX4) (T := TX4) (N := 8) hx hb hts hi_X4 hown hK hP 0 rfl rfl 7 (by decide) (hts _ (List.mem_of_getElem? (i := 2) rfl)) (fun _ h9 => h9) rfl dX4_runsOfLine_8 ?_
    refine lv_goto (tgt := 15) hx hb dX4_runsOfLine_11 (by decide) ?_
    have ho := Option.some.inj h
    subst ho
    exact J_2071 ls (lv_sub hl [0] rfl)
def f_X4_exchange (v_line : Nat → Int32) (x1 : Int32) (x2 : Int32) : Option (Nat → Int32) :=
  (if x1 < 0 ∨ 16 ≤ (x1).toNatClampNeg then none else (if x2 < 0 ∨ 16 ≤ (x2).toNatClampNeg then none else (if x1 < 0 ∨ 16 ≤ (x1).toNatClampNeg then none else (if x2 < 0 ∨ 16 ≤ (x2).toNatClampNeg then none else (some (upd (upd v_line (x1).toNatClampNeg (v_line (x2).toNatClampNeg)) (x2).toNatClampNeg (v_line (x1).toNatClampNeg)))))))
abbrev rm_X4_exchange : Room := { frames := 0, cells := 0, slots := 0, locals := 0 }
set_option maxHeartbeats 4000000 in
set_option maxRecDepth 100000 in
theorem c_X4_exchange (l : Launch) (dC : Nat → ClassId) (dI : Nat → Nat → Nat) (cB cC cI cJ cZ cT : ClassId) (h0 q_line q_before q_keys q_tags q_cells q_unlike : Nat) (sz : Nat) (v_rows : Int32) (v_proper : Int32) (v_line : Nat → Int32) (x1 : Int32) (x2 : Int32) (o : (Nat → Int32)) (hf : f_X4_exchange v_line x1 x2 = some o) : Met l yX4_exchange wsX4_exchange rm_X4_exchange (va_Pc [.ref h0, .int x1, .int x2] (fun U => U.heap.size = sz ∧ va_P (dC, dI) vwCl [(h0, .inr (2, [.ref q_line, .ref q_before, .ref q_keys, .ref q_tags, .ref q_cells, .ref q_unlike, .int v_rows, .int v_proper])), (q_line, .inl (cI, 16, .inl v_line))] U.heap ∧ va_K (dC, dI) vwCl (tyA cB cC cI cJ cZ cT) U ∧ va_D (fun _ => True) [(h0, .inr (2, [.ref q_line, .ref q_before, .ref q_keys, .ref q_tags, .ref q_cells, .ref q_unlike, .int v_rows, .int v_proper])), (q_line, .inl (cI, 16, .inl v_line))])) (va_Qv (fun _ : Unit => True) (fun _ t => va_P (dC, dI) vwCl [(h0, .inr (2, [.ref q_line, .ref q_before, .ref q_keys, .ref q_tags, .ref q_cells, .ref q_unlike, .int v_rows, .int v_proper])), (q_line, .inl (cI, 16, .inl o))] t.heap ∧ va_K (dC, dI) vwCl (tyA cB cC cI cJ cZ cT) t ∧ va_D (va_A [(h0, .inr (2, [.ref q_line, .ref q_before, .ref q_keys, .ref q_tags, .ref q_cells, .ref q_unlike, .int v_rows, .int v_proper])), (q_line, .inl (cI, 16, .inl v_line))] sz) [(h0, .inr (2, [.ref q_line, .ref q_before, .ref q_keys, .ref q_tags, .ref q_cells, .ref q_unlike, .int v_rows, .int v_proper])), (q_line, .inl (cI, 16, .inl o))]) (va_A [(h0, .inr (2, [.ref q_line, .ref q_before, .ref q_keys, .ref q_tags, .ref q_cells, .ref q_unlike, .int v_rows, .int v_proper])), (q_line, .inl (cI, 16, .inl v_line))] sz)) 0 0 (va_A [(h0, .inr (2, [.ref q_line, .ref q_before, .ref q_keys, .ref q_tags, .ref q_cells, .ref q_unlike, .int v_rows, .int v_proper])), (q_line, .inl (cI, 16, .inl v_line))] sz) := by
  refine Met.ofW (cc := cX4_exchange) (maxL := 4) (ret := none) (by decide +kernel) rfl ?_
  intro p e s m args below meth c s₁ B hml hv
  obtain ⟨hav, hsz, hP, hK, hD0⟩ := hv
  have hx := B.exec
  have hb := B.bytes
  have hr := B.returns
  have hts := atoms_spec (ws := wsX4_exchange) B.pre
  have hown : s.vm.findClass RX4 = some m.cls := findClass_of_methodNamed B.named
  have hlocks := B.notSynchronized
  subst hsz
  have hD := hD0.self (sz := s.heap.size)
  generalize hAe : va_A [(h0, .inr (2, [.ref q_line, .ref q_before, .ref q_keys, .ref q_tags, .ref q_cells, .ref q_unlike, .int v_rows, .int v_proper])), (q_line, .inl (cI, 16, .inl v_line))] s.heap.size = A at hD ⊢
  have hA : ∀ q : Nat, s.heap.size ≤ q → A q := fun q h => by rw [← hAe]; exact Or.inr h
  have hS : va_S A s.heap s.heap [] := va_S.rf
  refine wstart (rm := rm_X4_exchange) hav (Nat.le_of_ble_eq_true rfl) (fun QQ ls hQQ hl => ?_)
  have hl : lv_has ls 4 [(0, .ref h0), (1, .int x1), (2, .int x2)] := hl
  have hi_X4 : ∀ w ∈ u_ws RX4 TX4 8, w ∈ wsX4_exchange := by decide +kernel
  have h := hf
  unfold f_X4_exchange at h
  refine lv_aload_n hx hb dX4_exchange_0 rfl (lv_at hl 0 rfl) ?_
  refine va_get (D := (dC, dI)) (ci := 2) (v := .ref q_line) (C := RX4) (T := TX4) (N := 8) hx hb hts hi_X4 hown hK hP 0 rfl rfl 0 (by decide) (hts _ (List.mem_of_getElem? (i := 1) rfl)) (fun _ h9 => h9) rfl dX4_exchange_1 ?_
  refine lv_iload_n hx hb dX4_exchange_4 rfl (lv_at hl 1 rfl) ?_
  obtain ⟨hi_2078, h⟩ := og h
  refine va_iald hx hb hK hP 1 0 rfl rfl hi_2078 dX4_exchange_5 ?_
  refine lv_istore_n (lv' := [(3, .int (v_line (x1).toNatClampNeg)), (0, .ref h0), (1, .int x1), (2, .int x2)]) hx hb dX4_exchange_6 rfl hl (by decide) rfl (fun ls hl => ?_)
  refine lv_aload_n hx hb dX4_exchange_7 rfl (lv_at hl 1 rfl) ?_
  refine va_get (D := (dC, dI)) (ci := 2) (v := .ref q_line) (C := RX4) (T := TX4) (N := 8) hx hb hts hi_X4 hown hK hP 0 rfl rfl 0 (by decide) (hts _ (List.mem_of_getElem? (i := 1) rfl)) (fun _ h9 => h9) rfl dX4_exchange_8 ?_
  refine lv_iload_n hx hb dX4_exchange_11 rfl (lv_at hl 2 rfl) ?_
  refine lv_aload_n hx hb dX4_exchange_12 rfl (lv_at hl 1 rfl) ?_
  refine va_get (D := (dC, dI)) (ci := 2) (v := .ref q_line) (C := RX4) (T := TX4) (N := 8) hx hb hts hi_X4 hown hK hP 0 rfl rfl 0 (by decide) (hts _ (List.mem_of_getElem? (i := 1) rfl)) (fun _ h9 => h9) rfl dX4_exchange_13 ?_
  refine lv_iload_n hx hb dX4_exchange_16 rfl (lv_at hl 3 rfl) ?_
  obtain ⟨hi_2079, h⟩ := og h
  refine va_iald hx hb hK hP 1 0 rfl rfl hi_2079 dX4_exchange_17 ?_
  obtain ⟨hi_2080, h⟩ := og h
  refine va_iast hx hb hK hP hD hS 1 0 rfl rfl hi_2080 dX4_exchange_18 (fun H locs hP hD hS => ?_)
  replace hP : va_P (dC, dI) vwCl [(h0, .inr (2, [.ref q_line, .ref q_before, .ref q_keys, .ref q_tags, .ref q_cells, .ref q_unlike, .int v_rows, .int v_proper])), (q_line, .inl (cI, 16, .inl (upd v_line (x1).toNatClampNeg (v_line (x2).toNatClampNeg))))] H := hP
  replace hD : va_D A [(h0, .inr (2, [.ref q_line, .ref q_before, .ref q_keys, .ref q_tags, .ref q_cells, .ref q_unlike, .int v_rows, .int v_proper])), (q_line, .inl (cI, 16, .inl (upd v_line (x1).toNatClampNeg (v_line (x2).toNatClampNeg))))] := hD
  refine lv_aload_n hx hb dX4_exchange_19 rfl (lv_at hl 1 rfl) ?_
  refine va_get (D := (dC, dI)) (ci := 2) (v := .ref q_line) (C := RX4) (T := TX4) (N := 8) hx hb hts hi_X4 hown hK hP 0 rfl rfl 0 (by decide) (hts _ (List.mem_of_getElem? (i := 1) rfl)) (fun _ h9 => h9) rfl dX4_exchange_20 ?_
  refine lv_iload_n hx hb dX4_exchange_23 rfl (lv_at hl 3 rfl) ?_
  refine lv_iload_n hx hb dX4_exchange_24 rfl (lv_at hl 0 rfl) ?_
  obtain ⟨hi_2081, h⟩ := og h
  refine va_iast hx hb hK hP hD hS 1 0 rfl rfl hi_2081 dX4_exchange_25 (fun H locs hP hD hS => ?_)
  replace hP : va_P (dC, dI) vwCl [(h0, .inr (2, [.ref q_line, .ref q_before, .ref q_keys, .ref q_tags, .ref q_cells, .ref q_unlike, .int v_rows, .int v_proper])), (q_line, .inl (cI, 16, .inl (upd (upd v_line (x1).toNatClampNeg (v_line (x2).toNatClampNeg)) (x2).toNatClampNeg (v_line (x1).toNatClampNeg))))] H := hP
  replace hD : va_D A [(h0, .inr (2, [.ref q_line, .ref q_before, .ref q_keys, .ref q_tags, .ref q_cells, .ref q_unlike, .int v_rows, .int v_proper])), (q_line, .inl (cI, 16, .inl (upd (upd v_line (x1).toNatClampNeg (v_line (x2).toNatClampNeg)) (x2).toNatClampNeg (v_line (x1).toNatClampNeg))))] := hD
  rw [hQQ]
  have ho := Option.some.inj h
  subst ho
  exact W.vret hx hb hr (fun t ht hW => ⟨⟨(), rfl, trivial, by rw [ht]; exact hP, va_K.moved hW.alike hK, hD⟩, hS.F ht⟩) hS.2.2 dX4_exchange_26
def L_X4_shift_10 (x2 : Int32) : Nat → Int32 → (Nat → Int32) → Option (Nat → Int32)
  | 0, _, _ => none
  | n+1, x4_10, v_line_10 => (if x2 ≤ x4_10 then (some v_line_10) else (if (x4_10 + (1 : Int32)) < 0 ∨ 16 ≤ ((x4_10 + (1 : Int32))).toNatClampNeg then none else (if x4_10 < 0 ∨ 16 ≤ (x4_10).toNatClampNeg then none else (L_X4_shift_10 x2 n (x4_10 + 1) (upd v_line_10 (x4_10).toNatClampNeg (v_line_10 ((x4_10 + (1 : Int32))).toNatClampNeg))))))
def L_X4_shift_41 (x2 : Int32) : Nat → Int32 → (Nat → Int32) → Option (Nat → Int32)
  | 0, _, _ => none
  | n+1, x4_41, v_line_41 => (if x4_41 ≤ x2 then (some v_line_41) else (if (x4_41 - (1 : Int32)) < 0 ∨ 16 ≤ ((x4_41 - (1 : Int32))).toNatClampNeg then none else (if x4_41 < 0 ∨ 16 ≤ (x4_41).toNatClampNeg then none else (L_X4_shift_41 x2 n (x4_41 + (-1)) (upd v_line_41 (x4_41).toNatClampNeg (v_line_41 ((x4_41 - (1 : Int32))).toNatClampNeg))))))
def f_X4_shift (v_line : Nat → Int32) (x1 : Int32) (x2 : Int32) : Option (Nat → Int32) :=
  (if x1 < 0 ∨ 16 ≤ (x1).toNatClampNeg then none else ((L_X4_shift_10 x2 fu x1 v_line).bind (fun w_2086 => ((L_X4_shift_41 x2 fu x1 w_2086).bind (fun w_2090 => (if x2 < 0 ∨ 16 ≤ (x2).toNatClampNeg then none else (some (upd w_2090 (x2).toNatClampNeg (v_line (x1).toNatClampNeg)))))))))
abbrev rm_X4_shift : Room := { frames := 0, cells := 0, slots := 0, locals := 0 }
set_option maxHeartbeats 4000000 in
set_option maxRecDepth 100000 in
theorem c_X4_shift (l : Launch) (dC : Nat → ClassId) (dI : Nat → Nat → Nat) (cB cC cI cJ cZ cT : ClassId) (h0 q_line q_before q_keys q_tags q_cells q_unlike : Nat) (sz : Nat) (v_rows : Int32) (v_proper : Int32) (v_line : Nat → Int32) (x1 : Int32) (x2 : Int32) (o : (Nat → Int32)) (hf : f_X4_shift v_line x1 x2 = some o) : Met l yX4_shift wsX4_shift rm_X4_shift (va_Pc [.ref h0, .int x1, .int x2] (fun U => U.heap.size = sz ∧ va_P (dC, dI) vwCl [(h0, .inr (2, [.ref q_line, .ref q_before, .ref q_keys, .ref q_tags, .ref q_cells, .ref q_unlike, .int v_rows, .int v_proper])), (q_line, .inl (cI, 16, .inl v_line))] U.heap ∧ va_K (dC, dI) vwCl (tyA cB cC cI cJ cZ cT) U ∧ va_D (fun _ => True) [(h0, .inr (2, [.ref q_line, .ref q_before, .ref q_keys, .ref q_tags, .ref q_cells, .ref q_unlike, .int v_rows, .int v_proper])), (q_line, .inl (cI, 16, .inl v_line))])) (va_Qv (fun _ : Unit => True) (fun _ t => va_P (dC, dI) vwCl [(h0, .inr (2, [.ref q_line, .ref q_before, .ref q_keys, .ref q_tags, .ref q_cells, .ref q_unlike, .int v_rows, .int v_proper])), (q_line, .inl (cI, 16, .inl o))] t.heap ∧ va_K (dC, dI) vwCl (tyA cB cC cI cJ cZ cT) t ∧ va_D (va_A [(h0, .inr (2, [.ref q_line, .ref q_before, .ref q_keys, .ref q_tags, .ref q_cells, .ref q_unlike, .int v_rows, .int v_proper])), (q_line, .inl (cI, 16, .inl v_line))] sz) [(h0, .inr (2, [.ref q_line, .ref q_before, .ref q_keys, .ref q_tags, .ref q_cells, .ref q_unlike, .int v_rows, .int v_proper])), (q_line, .inl (cI, 16, .inl o))]) (va_A [(h0, .inr (2, [.ref q_line, .ref q_before, .ref q_keys, .ref q_tags, .ref q_cells, .ref q_unlike, .int v_rows, .int v_proper])), (q_line, .inl (cI, 16, .inl v_line))] sz)) 0 0 (va_A [(h0, .inr (2, [.ref q_line, .ref q_before, .ref q_keys, .ref q_tags, .ref q_cells, .ref q_unlike, .int v_rows, .int v_proper])), (q_line, .inl (cI, 16, .inl v_line))] sz) := by
  refine Met.ofW (cc := cX4_shift) (maxL := 5) (ret := none) (by decide +kernel) rfl ?_
  intro p e s m args below meth c s₁ B hml hv
  obtain ⟨hav, hsz, hP, hK, hD0⟩ := hv
  have hx := B.exec
  have hb := B.bytes
  have hr := B.returns
  have hts := atoms_spec (ws := wsX4_shift) B.pre
  have hown : s.vm.findClass RX4 = some m.cls := findClass_of_methodNamed B.named
  have hlocks := B.notSynchronized
  subst hsz
  have hD := hD0.self (sz := s.heap.size)
  generalize hAe : va_A [(h0, .inr (2, [.ref q_line, .ref q_before, .ref q_keys, .ref q_tags, .ref q_cells, .ref q_unlike, .int v_rows, .int v_proper])), (q_line, .inl (cI, 16, .inl v_line))] s.heap.size = A at hD ⊢
  have hA : ∀ q : Nat, s.heap.size ≤ q → A q := fun q h => by rw [← hAe]; exact Or.inr h
  have hS : va_S A s.heap s.heap [] := va_S.rf
  refine wstart (rm := rm_X4_shift) hav (Nat.le_of_ble_eq_true rfl) (fun QQ ls hQQ hl => ?_)
  have hl : lv_has ls 5 [(0, .ref h0), (1, .int x1), (2, .int x2)] := hl
  have hi_X4 : ∀ w ∈ u_ws RX4 TX4 8, w ∈ wsX4_shift := by decide +kernel
  have h := hf
  unfold f_X4_shift at h
  refine lv_aload_n hx hb dX4_shift_0 rfl (lv_at hl 0 rfl) ?_
  refine va_get (D := (dC, dI)) (ci := 2) (v := .ref q_line) (C := RX4) (T := TX4) (N := 8) hx hb hts hi_X4 hown hK hP 0 rfl rfl 0 (by decide) (hts _ (List.mem_of_getElem? (i := 1) rfl)) (fun _ h9 => h9) rfl dX4_shift_1 ?_
  refine lv_iload_n hx hb dX4_shift_4 rfl (lv_at hl 1 rfl) ?_
  obtain ⟨hi_2082, h⟩ := og h
  refine va_iald hx hb hK hP 1 0 rfl rfl hi_2082 dX4_shift_5 ?_
  refine lv_istore_n (lv' := [(3, .int (v_line (x1).toNatClampNeg)), (0, .ref h0), (1, .int x1), (2, .int x2)]) hx hb dX4_shift_6 rfl hl (by decide) rfl (fun ls hl => ?_)
  refine lv_iload_n hx hb dX4_shift_7 rfl (lv_at hl 2 rfl) ?_
  refine lv_istore (lv' := [(4, .int x1), (3, .int (v_line (x1).toNatClampNeg)), (0, .ref h0), (1, .int x1), (2, .int x2)]) hx hb dX4_shift_8 hl (by decide) rfl (fun ls hl => ?_)
  have LP_2086 : ∀ (n : Nat) (x4_10 : Int32) (v_line_10 : (Nat → Int32)) (w : (Nat → Int32)) (H : Heap) (locs : List Loc) (ls : Array Slot), L_X4_shift_10 x2 n x4_10 v_line_10 = some w → va_P (dC, dI) vwCl [(h0, .inr (2, [.ref q_line, .ref q_before, .ref q_keys, .ref q_tags, .ref q_cells, .ref q_unlike, .int v_rows, .int v_proper])), (q_line, .inl (cI, 16, .inl v_line_10))] H → va_D A [(h0, .inr (2, [.ref q_line, .ref q_before, .ref q_keys, .ref q_tags, .ref q_cells, .ref q_unlike, .int v_rows, .int v_proper])), (q_line, .inl (cI, 16, .inl v_line_10))] → va_S A s.heap H locs → lv_has ls 5 [(0, .ref h0), (1, .int x1), (2, .int x2), (3, .int (v_line (x1).toNatClampNeg)), (4, .int x4_10)] → (∀ (H : Heap) (locs : List Loc) (ls : Array Slot), va_P (dC, dI) vwCl [(h0, .inr (2, [.ref q_line, .ref q_before, .ref q_keys, .ref q_tags, .ref q_cells, .ref q_unlike, .int v_rows, .int v_proper])), (q_line, .inl (cI, 16, .inl w))] H → va_D A [(h0, .inr (2, [.ref q_line, .ref q_before, .ref q_keys, .ref q_tags, .ref q_cells, .ref q_unlike, .int v_rows, .int v_proper])), (q_line, .inl (cI, 16, .inl w))] → va_S A s.heap H locs → lv_has ls 5 [(0, .ref h0), (1, .int x1), (2, .int x2), (3, .int (v_line (x1).toNatClampNeg))] → W p l e rm_X4_shift s m args below meth c H locs 0 0 QQ (F0 m 38 ls [])) → W p l e rm_X4_shift s m args below meth c H locs 0 0 QQ (F0 m 10 ls []) := by
    intro n
    induction n with
    | zero => intro x4_10 v_line_10 w H locs ls h; exact absurd (show none = some w from h) nofun
    | succ n ih =>
      intro x4_10 v_line_10 w H locs ls h hP hD hS hl K
      rw [L_X4_shift_10] at h
      refine lv_iload hx hb dX4_shift_10 (lv_at hl 4 rfl) ?_
      refine lv_iload_n hx hb dX4_shift_12 rfl (lv_at hl 2 rfl) ?_
      refine lv_icmp_ge (tgt := 38) hx hb dX4_shift_13 (by decide) (fun c_2083 => ?_) (fun c_2083 => ?_)
      · replace h := op c_2083 h
        have ho := Option.some.inj h
        subst ho
        exact K H _ ls hP hD hS (lv_sub hl [0, 1, 2, 3] rfl)
      · replace h := on c_2083 h
        refine lv_aload_n hx hb dX4_shift_16 rfl (lv_at hl 0 rfl) ?_
        refine va_get (D := (dC, dI)) (ci := 2) (v := .ref q_line) (C := RX4) (T := TX4) (N := 8) hx hb hts hi_X4 hown hK hP 0 rfl rfl 0 (by decide) (hts _ (List.mem_of_getElem? (i := 1) rfl)) (fun _ h9 => h9) rfl dX4_shift_17 ?_
        refine lv_iload hx hb dX4_shift_20 (lv_at hl 4 rfl) ?_
        refine lv_aload_n hx hb dX4_shift_22 rfl (lv_at hl 0 rfl) ?_
        refine va_get (D := (dC, dI)) (ci := 2) (v := .ref q_line) (C := RX4) (T := TX4) (N := 8) hx hb hts hi_X4 hown hK hP 0 rfl rfl 0 (by decide) (hts _ (List.mem_of_getElem? (i := 1) rfl)) (fun _ h9 => h9) rfl dX4_shift_23 ?_
        refine lv_iload hx hb dX4_shift_26 (lv_at hl 4 rfl) ?_
        refine lv_iconst (v := 1) hx hb dX4_shift_28 (by decide) ?_
        refine lv_iadd hx hb dX4_shift_29 ?_
        obtain ⟨hi_2084, h⟩ := og h
        refine va_iald hx hb hK hP 1 0 rfl rfl hi_2084 dX4_shift_30 ?_
        obtain ⟨hi_2085, h⟩ := og h
        refine va_iast hx hb hK hP hD hS 1 0 rfl rfl hi_2085 dX4_shift_31 (fun H locs hP hD hS => ?_)
        replace hP : va_P (dC, dI) vwCl [(h0, .inr (2, [.ref q_line, .ref q_before, .ref q_keys, .ref q_tags, .ref q_cells, .ref q_unlike, .int v_rows, .int v_proper])), (q_line, .inl (cI, 16, .inl (upd v_line_10 (x4_10).toNatClampNeg (v_line_10 ((x4_10 + (1 : Int32))).toNatClampNeg))))] H := hP
        replace hD : va_D A [(h0, .inr (2, [.ref q_line, .ref q_before, .ref q_keys, .ref q_tags, .ref q_cells, .ref q_unlike, .int v_rows, .int v_proper])), (q_line, .inl (cI, 16, .inl (upd v_line_10 (x4_10).toNatClampNeg (v_line_10 ((x4_10 + (1 : Int32))).toNatClampNeg))))] := hD
        refine lv_iinc (v := (x4_10 + 1)) (lv' := [(4, .int (x4_10 + 1)), (0, .ref h0), (1, .int x1), (2, .int x2), (3, .int (v_line (x1).toNatClampNeg))]) hx hb dX4_shift_32 hl (k := 4) rfl (by rfl) (by decide) rfl (fun ls hl => ?_)
        refine lv_goto (tgt := 10) hx hb dX4_shift_35 (by decide) ?_
        exact ih (x4_10 + 1) (upd v_line_10 (x4_10).toNatClampNeg (v_line_10 ((x4_10 + (1 : Int32))).toNatClampNeg)) w H _ ls h hP hD hS (lv_sub hl [1, 2, 3, 4, 0] rfl) K
  obtain ⟨w_2086, hw_2086, h⟩ := ob h
  refine LP_2086 fu x1 v_line w_2086 s.heap _ ls hw_2086 hP hD hS (lv_sub hl [2, 3, 4, 1, 0] rfl) (fun H locs ls hP hD hS hl => ?_)
  refine lv_iload_n hx hb dX4_shift_38 rfl (lv_at hl 1 rfl) ?_
  refine lv_istore (lv' := [(4, .int x1), (0, .ref h0), (1, .int x1), (2, .int x2), (3, .int (v_line (x1).toNatClampNeg))]) hx hb dX4_shift_39 hl (by decide) rfl (fun ls hl => ?_)
  have LP_2090 : ∀ (n : Nat) (x4_41 : Int32) (v_line_41 : (Nat → Int32)) (w : (Nat → Int32)) (H : Heap) (locs : List Loc) (ls : Array Slot), L_X4_shift_41 x2 n x4_41 v_line_41 = some w → va_P (dC, dI) vwCl [(h0, .inr (2, [.ref q_line, .ref q_before, .ref q_keys, .ref q_tags, .ref q_cells, .ref q_unlike, .int v_rows, .int v_proper])), (q_line, .inl (cI, 16, .inl v_line_41))] H → va_D A [(h0, .inr (2, [.ref q_line, .ref q_before, .ref q_keys, .ref q_tags, .ref q_cells, .ref q_unlike, .int v_rows, .int v_proper])), (q_line, .inl (cI, 16, .inl v_line_41))] → va_S A s.heap H locs → lv_has ls 5 [(0, .ref h0), (2, .int x2), (3, .int (v_line (x1).toNatClampNeg)), (4, .int x4_41)] → (∀ (H : Heap) (locs : List Loc) (ls : Array Slot), va_P (dC, dI) vwCl [(h0, .inr (2, [.ref q_line, .ref q_before, .ref q_keys, .ref q_tags, .ref q_cells, .ref q_unlike, .int v_rows, .int v_proper])), (q_line, .inl (cI, 16, .inl w))] H → va_D A [(h0, .inr (2, [.ref q_line, .ref q_before, .ref q_keys, .ref q_tags, .ref q_cells, .ref q_unlike, .int v_rows, .int v_proper])), (q_line, .inl (cI, 16, .inl w))] → va_S A s.heap H locs → lv_has ls 5 [(0, .ref h0), (2, .int x2), (3, .int (v_line (x1).toNatClampNeg))] → W p l e rm_X4_shift s m args below meth c H locs 0 0 QQ (F0 m 69 ls [])) → W p l e rm_X4_shift s m args below meth c H locs 0 0 QQ (F0 m 41 ls []) := by
    intro n
    induction n with
    | zero => intro x4_41 v_line_41 w H locs ls h; exact absurd (show none = some w from h) nofun
    | succ n ih =>
      intro x4_41 v_line_41 w H locs ls h hP hD hS hl K
      rw [L_X4_shift_41] at h
      refine lv_iload hx hb dX4_shift_41 (lv_at hl 3 rfl) ?_
      refine lv_iload_n hx hb dX4_shift_43 rfl (lv_at hl 1 rfl) ?_
      refine lv_icmp_le (tgt := 69) hx hb dX4_shift_44 (by decide) (fun c_2087 => ?_) (fun c_2087 => ?_)
      · replace h := op c_2087 h
        have ho := Option.some.inj h
        subst ho
        exact K H _ ls hP hD hS (lv_sub hl [0, 1, 2] rfl)
      · replace h := on c_2087 h
        refine lv_aload_n hx hb dX4_shift_47 rfl (lv_at hl 0 rfl) ?_
        refine va_get (D := (dC, dI)) (ci := 2) (v := .ref q_line) (C := RX4) (T := TX4) (N := 8) hx hb hts hi_X4 hown hK hP 0 rfl rfl 0 (by decide) (hts _ (List.mem_of_getElem? (i := 1) rfl)) (fun _ h9 => h9) rfl dX4_shift_48 ?_
        refine lv_iload hx hb dX4_shift_51 (lv_at hl 3 rfl) ?_
        refine lv_aload_n hx hb dX4_shift_53 rfl (lv_at hl 0 rfl) ?_
        refine va_get (D := (dC, dI)) (ci := 2) (v := .ref q_line) (C := RX4) (T := TX4) (N := 8) hx hb hts hi_X4 hown hK hP 0 rfl rfl 0 (by decide) (hts _ (List.mem_of_getElem? (i := 1) rfl)) (fun _ h9 => h9) rfl dX4_shift_54 ?_
        refine lv_iload hx hb dX4_shift_57 (lv_at hl 3 rfl) ?_
        refine lv_iconst (v := 1) hx hb dX4_shift_59 (by decide) ?_
        refine lv_isub hx hb dX4_shift_60 ?_
        obtain ⟨hi_2088, h⟩ := og h
        refine va_iald hx hb hK hP 1 0 rfl rfl hi_2088 dX4_shift_61 ?_
        obtain ⟨hi_2089, h⟩ := og h
        refine va_iast hx hb hK hP hD hS 1 0 rfl rfl hi_2089 dX4_shift_62 (fun H locs hP hD hS => ?_)
        replace hP : va_P (dC, dI) vwCl [(h0, .inr (2, [.ref q_line, .ref q_before, .ref q_keys, .ref q_tags, .ref q_cells, .ref q_unlike, .int v_rows, .int v_proper])), (q_line, .inl (cI, 16, .inl (upd v_line_41 (x4_41).toNatClampNeg (v_line_41 ((x4_41 - (1 : Int32))).toNatClampNeg))))] H := hP
        replace hD : va_D A [(h0, .inr (2, [.ref q_line, .ref q_before, .ref q_keys, .ref q_tags, .ref q_cells, .ref q_unlike, .int v_rows, .int v_proper])), (q_line, .inl (cI, 16, .inl (upd v_line_41 (x4_41).toNatClampNeg (v_line_41 ((x4_41 - (1 : Int32))).toNatClampNeg))))] := hD
        refine lv_iinc (v := (x4_41 + (-1))) (lv' := [(4, .int (x4_41 + (-1))), (0, .ref h0), (2, .int x2), (3, .int (v_line (x1).toNatClampNeg))]) hx hb dX4_shift_63 hl (k := 3) rfl (by rfl) (by decide) rfl (fun ls hl => ?_)
        refine lv_goto (tgt := 41) hx hb dX4_shift_66 (by decide) ?_
        exact ih (x4_41 + (-1)) (upd v_line_41 (x4_41).toNatClampNeg (v_line_41 ((x4_41 - (1 : Int32))).toNatClampNeg)) w H _ ls h hP hD hS (lv_sub hl [1, 2, 3, 0] rfl) K
  obtain ⟨w_2090, hw_2090, h⟩ := ob h
  refine LP_2090 fu x1 w_2086 w_2090 H _ ls hw_2090 hP hD hS (lv_sub hl [1, 3, 4, 0] rfl) (fun H locs ls hP hD hS hl => ?_)
  refine lv_aload_n hx hb dX4_shift_69 rfl (lv_at hl 0 rfl) ?_
  refine va_get (D := (dC, dI)) (ci := 2) (v := .ref q_line) (C := RX4) (T := TX4) (N := 8) hx hb hts hi_X4 hown hK hP 0 rfl rfl 0 (by decide) (hts _ (List.mem_of_getElem? (i := 1) rfl)) (fun _ h9 => h9) rfl dX4_shift_70 ?_
  refine lv_iload_n hx hb dX4_shift_73 rfl (lv_at hl 1 rfl) ?_
  refine lv_iload_n hx hb dX4_shift_74 rfl (lv_at hl 2 rfl) ?_
  obtain ⟨hi_2091, h⟩ := og h
  refine va_iast hx hb hK hP hD hS 1 0 rfl rfl hi_2091 dX4_shift_75 (fun H locs hP hD hS => ?_)
  replace hP : va_P (dC, dI) vwCl [(h0, .inr (2, [.ref q_line, .ref q_before, .ref q_keys, .ref q_tags, .ref q_cells, .ref q_unlike, .int v_rows, .int v_proper])), (q_line, .inl (cI, 16, .inl (upd w_2090 (x2).toNatClampNeg (v_line (x1).toNatClampNeg))))] H := hP
  replace hD : va_D A [(h0, .inr (2, [.ref q_line, .ref q_before, .ref q_keys, .ref q_tags, .ref q_cells, .ref q_unlike, .int v_rows, .int v_proper])), (q_line, .inl (cI, 16, .inl (upd w_2090 (x2).toNatClampNeg (v_line (x1).toNatClampNeg))))] := hD
  rw [hQQ]
  have ho := Option.some.inj h
  subst ho
  exact W.vret hx hb hr (fun t ht hW => ⟨⟨(), rfl, trivial, by rw [ht]; exact hP, va_K.moved hW.alike hK, hD⟩, hS.F ht⟩) hS.2.2 dX4_shift_76
def L_X4_followTags_12 (v_rows : Int32) (v_p1_tags : (Nat → Int32)) (x2_2 : Int32) : Nat → Int32 → (Nat → Int32) → Option (Nat → Int32)
  | 0, _, _ => none
  | n+1, x3_12, v_line_12 => (if v_rows ≤ x3_12 then (some v_line_12) else (if x3_12 < 0 ∨ 16 ≤ (x3_12).toNatClampNeg then none else (if (v_p1_tags (x3_12).toNatClampNeg) = x2_2 then (if x2_2 < 0 ∨ 16 ≤ (x2_2).toNatClampNeg then none else (L_X4_followTags_12 v_rows v_p1_tags x2_2 n (x3_12 + 1) (upd v_line_12 (x2_2).toNatClampNeg x3_12))) else (L_X4_followTags_12 v_rows v_p1_tags x2_2 n (x3_12 + 1) v_line_12))))
def L_X4_followTags_2 (v_rows : Int32) (v_p1_tags : (Nat → Int32)) : Nat → Int32 → (Nat → Int32) → Option (Nat → Int32)
  | 0, _, _ => none
  | n+1, x2_2, v_line_2 => (if v_rows ≤ x2_2 then (some v_line_2) else ((L_X4_followTags_12 v_rows v_p1_tags x2_2 fu (0 : Int32) v_line_2).bind (fun w_2097 => (L_X4_followTags_2 v_rows v_p1_tags n (x2_2 + 1) w_2097))))
def f_X4_followTags (v_rows : Int32) (v_line : Nat → Int32) (v_p1_tags : Nat → Int32) : Option (Nat → Int32) :=
  ((L_X4_followTags_2 v_rows v_p1_tags fu (0 : Int32) v_line).bind (fun w_2098 => (some w_2098)))
abbrev rm_X4_followTags : Room := { frames := 0, cells := 0, slots := 0, locals := 0 }
set_option maxHeartbeats 4000000 in
set_option maxRecDepth 100000 in
theorem c_X4_followTags (l : Launch) (dC : Nat → ClassId) (dI : Nat → Nat → Nat) (cB cC cI cJ cZ cT : ClassId) (h0 q_line q_before q_keys q_tags q_cells q_unlike q_p1 q_p1_kinds q_p1_tags q_p1_cells : Nat) (sz : Nat) (v_rows : Int32) (v_proper : Int32) (v_line : Nat → Int32) (v_p1_columns : Int32) (v_p1_rows : Int32) (v_p1_tags : Nat → Int32) (o : (Nat → Int32)) (hf : f_X4_followTags v_rows v_line v_p1_tags = some o) : Met l yX4_followTags wsX4_followTags rm_X4_followTags (va_Pc [.ref h0, .ref q_p1] (fun U => U.heap.size = sz ∧ va_P (dC, dI) vwCl [(h0, .inr (2, [.ref q_line, .ref q_before, .ref q_keys, .ref q_tags, .ref q_cells, .ref q_unlike, .int v_rows, .int v_proper])), (q_line, .inl (cI, 16, .inl v_line)), (q_p1, .inr (6, [.ref q_p1_kinds, .ref q_p1_tags, .ref q_p1_cells, .int v_p1_columns, .int v_p1_rows])), (q_p1_tags, .inl (cI, 16, .inl v_p1_tags))] U.heap ∧ va_K (dC, dI) vwCl (tyA cB cC cI cJ cZ cT) U ∧ va_D (fun _ => True) [(h0, .inr (2, [.ref q_line, .ref q_before, .ref q_keys, .ref q_tags, .ref q_cells, .ref q_unlike, .int v_rows, .int v_proper])), (q_line, .inl (cI, 16, .inl v_line)), (q_p1, .inr (6, [.ref q_p1_kinds, .ref q_p1_tags, .ref q_p1_cells, .int v_p1_columns, .int v_p1_rows])), (q_p1_tags, .inl (cI, 16, .inl v_p1_tags))])) (va_Qv (fun _ : Unit => True) (fun _ t => va_P (dC, dI) vwCl [(h0, .inr (2, [.ref q_line, .ref q_before, .ref q_keys, .ref q_tags, .ref q_cells, .ref q_unlike, .int v_rows, .int v_proper])), (q_line, .inl (cI, 16, .inl o)), (q_p1, .inr (6, [.ref q_p1_kinds, .ref q_p1_tags, .ref q_p1_cells, .int v_p1_columns, .int v_p1_rows])), (q_p1_tags, .inl (cI, 16, .inl v_p1_tags))] t.heap ∧ va_K (dC, dI) vwCl (tyA cB cC cI cJ cZ cT) t ∧ va_D (va_A [(h0, .inr (2, [.ref q_line, .ref q_before, .ref q_keys, .ref q_tags, .ref q_cells, .ref q_unlike, .int v_rows, .int v_proper])), (q_line, .inl (cI, 16, .inl v_line)), (q_p1, .inr (6, [.ref q_p1_kinds, .ref q_p1_tags, .ref q_p1_cells, .int v_p1_columns, .int v_p1_rows])), (q_p1_tags, .inl (cI, 16, .inl v_p1_tags))] sz) [(h0, .inr (2, [.ref q_line, .ref q_before, .ref q_keys, .ref q_tags, .ref q_cells, .ref q_unlike, .int v_rows, .int v_proper])), (q_line, .inl (cI, 16, .inl o)), (q_p1, .inr (6, [.ref q_p1_kinds, .ref q_p1_tags, .ref q_p1_cells, .int v_p1_columns, .int v_p1_rows])), (q_p1_tags, .inl (cI, 16, .inl v_p1_tags))]) (va_A [(h0, .inr (2, [.ref q_line, .ref q_before, .ref q_keys, .ref q_tags, .ref q_cells, .ref q_unlike, .int v_rows, .int v_proper])), (q_line, .inl (cI, 16, .inl v_line)), (q_p1, .inr (6, [.ref q_p1_kinds, .ref q_p1_tags, .ref q_p1_cells, .int v_p1_columns, .int v_p1_rows])), (q_p1_tags, .inl (cI, 16, .inl v_p1_tags))] sz)) 0 0 (va_A [(h0, .inr (2, [.ref q_line, .ref q_before, .ref q_keys, .ref q_tags, .ref q_cells, .ref q_unlike, .int v_rows, .int v_proper])), (q_line, .inl (cI, 16, .inl v_line)), (q_p1, .inr (6, [.ref q_p1_kinds, .ref q_p1_tags, .ref q_p1_cells, .int v_p1_columns, .int v_p1_rows])), (q_p1_tags, .inl (cI, 16, .inl v_p1_tags))] sz) := by
  refine Met.ofW (cc := cX4_followTags) (maxL := 4) (ret := none) (by decide +kernel) rfl ?_
  intro p e s m args below meth c s₁ B hml hv
  obtain ⟨hav, hsz, hP, hK, hD0⟩ := hv
  have hx := B.exec
  have hb := B.bytes
  have hr := B.returns
  have hts := atoms_spec (ws := wsX4_followTags) B.pre
  have hown : s.vm.findClass RX4 = some m.cls := findClass_of_methodNamed B.named
  have hlocks := B.notSynchronized
  subst hsz
  have hD := hD0.self (sz := s.heap.size)
  generalize hAe : va_A [(h0, .inr (2, [.ref q_line, .ref q_before, .ref q_keys, .ref q_tags, .ref q_cells, .ref q_unlike, .int v_rows, .int v_proper])), (q_line, .inl (cI, 16, .inl v_line)), (q_p1, .inr (6, [.ref q_p1_kinds, .ref q_p1_tags, .ref q_p1_cells, .int v_p1_columns, .int v_p1_rows])), (q_p1_tags, .inl (cI, 16, .inl v_p1_tags))] s.heap.size = A at hD ⊢
  have hA : ∀ q : Nat, s.heap.size ≤ q → A q := fun q h => by rw [← hAe]; exact Or.inr h
  have hS : va_S A s.heap s.heap [] := va_S.rf
  refine wstart (rm := rm_X4_followTags) hav (Nat.le_of_ble_eq_true rfl) (fun QQ ls hQQ hl => ?_)
  have hl : lv_has ls 4 [(0, .ref h0), (1, .ref q_p1)] := hl
  have hi_X4 : ∀ w ∈ u_ws RX4 TX4 8, w ∈ wsX4_followTags := by decide +kernel
  have hi_X8 : ∀ w ∈ u_ws RX8 TX8 5, w ∈ wsX4_followTags := by decide +kernel
  have h := hf
  unfold f_X4_followTags at h
  refine lv_iconst (v := 0) hx hb dX4_followTags_0 (by decide) ?_
  refine lv_istore_n (lv' := [(2, .int (0 : Int32)), (0, .ref h0), (1, .ref q_p1)]) hx hb dX4_followTags_1 rfl hl (by decide) rfl (fun ls hl => ?_)
  have LP_2098 : ∀ (n : Nat) (x2_2 : Int32) (v_line_2 : (Nat → Int32)) (w : (Nat → Int32)) (H : Heap) (locs : List Loc) (ls : Array Slot), L_X4_followTags_2 v_rows v_p1_tags n x2_2 v_line_2 = some w → va_P (dC, dI) vwCl [(h0, .inr (2, [.ref q_line, .ref q_before, .ref q_keys, .ref q_tags, .ref q_cells, .ref q_unlike, .int v_rows, .int v_proper])), (q_line, .inl (cI, 16, .inl v_line_2)), (q_p1, .inr (6, [.ref q_p1_kinds, .ref q_p1_tags, .ref q_p1_cells, .int v_p1_columns, .int v_p1_rows])), (q_p1_tags, .inl (cI, 16, .inl v_p1_tags))] H → va_D A [(h0, .inr (2, [.ref q_line, .ref q_before, .ref q_keys, .ref q_tags, .ref q_cells, .ref q_unlike, .int v_rows, .int v_proper])), (q_line, .inl (cI, 16, .inl v_line_2)), (q_p1, .inr (6, [.ref q_p1_kinds, .ref q_p1_tags, .ref q_p1_cells, .int v_p1_columns, .int v_p1_rows])), (q_p1_tags, .inl (cI, 16, .inl v_p1_tags))] → va_S A s.heap H locs → lv_has ls 4 [(0, .ref h0), (1, .ref q_p1), (2, .int x2_2)] → (∀ (H : Heap) (locs : List Loc) (ls : Array Slot), va_P (dC, dI) vwCl [(h0, .inr (2, [.ref q_line, .ref q_before, .ref q_keys, .ref q_tags, .ref q_cells, .ref q_unlike, .int v_rows, .int v_proper])), (q_line, .inl (cI, 16, .inl w)), (q_p1, .inr (6, [.ref q_p1_kinds, .ref q_p1_tags, .ref q_p1_cells, .int v_p1_columns, .int v_p1_rows])), (q_p1_tags, .inl (cI, 16, .inl v_p1_tags))] H → va_D A [(h0, .inr (2, [.ref q_line, .ref q_before, .ref q_keys, .ref q_tags, .ref q_cells, .ref q_unlike, .int v_rows, .int v_proper])), (q_line, .inl (cI, 16, .inl w)), (q_p1, .inr (6, [.ref q_p1_kinds, .ref q_p1_tags, .ref q_p1_cells, .int v_p1_columns, .int v_p1_rows])), (q_p1_tags, .inl (cI, 16, .inl v_p1_tags))] → va_S A s.heap H locs → lv_has ls 4 [] → W p l e rm_X4_followTags s m args below meth c H locs 0 0 QQ (F0 m 49 ls [])) → W p l e rm_X4_followTags s m args below meth c H locs 0 0 QQ (F0 m 2 ls []) := by
    intro n
    induction n with
    | zero => intro x2_2 v_line_2 w H locs ls h; exact absurd (show none = some w from h) nofun
    | succ n ih =>
      intro x2_2 v_line_2 w H locs ls h hP hD hS hl K
      rw [L_X4_followTags_2] at h
      refine lv_iload_n hx hb dX4_followTags_2 rfl (lv_at hl 2 rfl) ?_
      refine lv_aload_n hx hb dX4_followTags_3 rfl (lv_at hl 0 rfl) ?_
      refine va_get (D := (dC, dI)) (ci := 2) (v := .int v_rows) (C := RX4) (T := TX4) (N := 8) hx hb hts hi_X4 hown hK hP 0 rfl rfl 6 (by decide) (hts _ (List.mem_of_getElem? (i := 1) rfl)) (fun _ h9 => h9) rfl dX4_followTags_4 ?_
      refine lv_icmp_ge (tgt := 49) hx hb dX4_followTags_7 (by decide) (fun c_2092 => ?_) (fun c_2092 => ?_)
      · replace h := op c_2092 h
        have ho := Option.some.inj h
        subst ho
        exact K H _ ls hP hD hS (lv_sub hl [] rfl)
      · replace h := on c_2092 h
        refine lv_iconst (v := 0) hx hb dX4_followTags_10 (by decide) ?_
        refine lv_istore_n (lv' := [(3, .int (0 : Int32)), (0, .ref h0), (1, .ref q_p1), (2, .int x2_2)]) hx hb dX4_followTags_11 rfl hl (by decide) rfl (fun ls hl => ?_)
        have LP_2097 : ∀ (n : Nat) (x3_12 : Int32) (v_line_12 : (Nat → Int32)) (w : (Nat → Int32)) (H : Heap) (locs : List Loc) (ls : Array Slot), L_X4_followTags_12 v_rows v_p1_tags x2_2 n x3_12 v_line_12 = some w → va_P (dC, dI) vwCl [(h0, .inr (2, [.ref q_line, .ref q_before, .ref q_keys, .ref q_tags, .ref q_cells, .ref q_unlike, .int v_rows, .int v_proper])), (q_line, .inl (cI, 16, .inl v_line_12)), (q_p1, .inr (6, [.ref q_p1_kinds, .ref q_p1_tags, .ref q_p1_cells, .int v_p1_columns, .int v_p1_rows])), (q_p1_tags, .inl (cI, 16, .inl v_p1_tags))] H → va_D A [(h0, .inr (2, [.ref q_line, .ref q_before, .ref q_keys, .ref q_tags, .ref q_cells, .ref q_unlike, .int v_rows, .int v_proper])), (q_line, .inl (cI, 16, .inl v_line_12)), (q_p1, .inr (6, [.ref q_p1_kinds, .ref q_p1_tags, .ref q_p1_cells, .int v_p1_columns, .int v_p1_rows])), (q_p1_tags, .inl (cI, 16, .inl v_p1_tags))] → va_S A s.heap H locs → lv_has ls 4 [(0, .ref h0), (1, .ref q_p1), (2, .int x2_2), (3, .int x3_12)] → (∀ (H : Heap) (locs : List Loc) (ls : Array Slot), va_P (dC, dI) vwCl [(h0, .inr (2, [.ref q_line, .ref q_before, .ref q_keys, .ref q_tags, .ref q_cells, .ref q_unlike, .int v_rows, .int v_proper])), (q_line, .inl (cI, 16, .inl w)), (q_p1, .inr (6, [.ref q_p1_kinds, .ref q_p1_tags, .ref q_p1_cells, .int v_p1_columns, .int v_p1_rows])), (q_p1_tags, .inl (cI, 16, .inl v_p1_tags))] H → va_D A [(h0, .inr (2, [.ref q_line, .ref q_before, .ref q_keys, .ref q_tags, .ref q_cells, .ref q_unlike, .int v_rows, .int v_proper])), (q_line, .inl (cI, 16, .inl w)), (q_p1, .inr (6, [.ref q_p1_kinds, .ref q_p1_tags, .ref q_p1_cells, .int v_p1_columns, .int v_p1_rows])), (q_p1_tags, .inl (cI, 16, .inl v_p1_tags))] → va_S A s.heap H locs → lv_has ls 4 [(0, .ref h0), (1, .ref q_p1), (2, .int x2_2)] → W p l e rm_X4_followTags s m args below meth c H locs 0 0 QQ (F0 m 43 ls [])) → W p l e rm_X4_followTags s m args below meth c H locs 0 0 QQ (F0 m 12 ls []) := by
          intro n
          induction n with
          | zero => intro x3_12 v_line_12 w H locs ls h; exact absurd (show none = some w from h) nofun
          | succ n ih =>
            intro x3_12 v_line_12 w H locs ls h hP hD hS hl K
            rw [L_X4_followTags_12] at h
            refine lv_iload_n hx hb dX4_followTags_12 rfl (lv_at hl 3 rfl) ?_
            refine lv_aload_n hx hb dX4_followTags_13 rfl (lv_at hl 0 rfl) ?_
            refine va_get (D := (dC, dI)) (ci := 2) (v := .int v_rows) (C := RX4) (T := TX4) (N := 8) hx hb hts hi_X4 hown hK hP 0 rfl rfl 6 (by decide) (hts _ (List.mem_of_getElem? (i := 1) rfl)) (fun _ h9 => h9) rfl dX4_followTags_14 ?_
            refine lv_icmp_ge (tgt := 43) hx hb dX4_followTags_17 (by decide) (fun c_2093 => ?_) (fun c_2093 => ?_)
            · replace h := op c_2093 h
              have ho := Option.some.inj h
              subst ho
              exact K H _ ls hP hD hS (lv_sub hl [0, 1, 2] rfl)
            · replace h := on c_2093 h
              refine lv_aload_n hx hb dX4_followTags_20 rfl (lv_at hl 1 rfl) ?_
              refine va_get (D := (dC, dI)) (ci := 6) (v := .ref q_p1_tags) (C := RX8) (T := TX8) (N := 5) hx hb hts hi_X8 hown hK hP 2 rfl rfl 1 (by decide) (hts _ (List.mem_of_getElem? (i := 2) rfl)) (fun _ h9 => h9) rfl dX4_followTags_21 ?_
              refine lv_iload_n hx hb dX4_followTags_24 rfl (lv_at hl 3 rfl) ?_
              obtain ⟨hi_2094, h⟩ := og h
              refine va_iald hx hb hK hP 3 0 rfl rfl hi_2094 dX4_followTags_25 ?_
              refine lv_iload_n hx hb dX4_followTags_26 rfl (lv_at hl 2 rfl) ?_
              refine lv_icmp_ne (tgt := 37) hx hb dX4_followTags_27 (by decide) (fun c_2095 => ?_) (fun c_2095 => ?_)
              · replace h := on c_2095 h
                refine lv_iinc (v := (x3_12 + 1)) (lv' := [(3, .int (x3_12 + 1)), (0, .ref h0), (1, .ref q_p1), (2, .int x2_2)]) hx hb dX4_followTags_37 hl (k := 3) rfl (by rfl) (by decide) rfl (fun ls hl => ?_)
                refine lv_goto (tgt := 12) hx hb dX4_followTags_40 (by decide) ?_
                exact ih (x3_12 + 1) v_line_12 w H _ ls h hP hD hS (lv_sub hl [1, 2, 3, 0] rfl) K
              · replace h := op c_2095 h
                refine lv_aload_n hx hb dX4_followTags_30 rfl (lv_at hl 0 rfl) ?_
                refine va_get (D := (dC, dI)) (ci := 2) (v := .ref q_line) (C := RX4) (T := TX4) (N := 8) hx hb hts hi_X4 hown hK hP 0 rfl rfl 0 (by decide) (hts _ (List.mem_of_getElem? (i := 3) rfl)) (fun _ h9 => h9) rfl dX4_followTags_31 ?_
                refine lv_iload_n hx hb dX4_followTags_34 rfl (lv_at hl 2 rfl) ?_
                refine lv_iload_n hx hb dX4_followTags_35 rfl (lv_at hl 3 rfl) ?_
                obtain ⟨hi_2096, h⟩ := og h
                refine va_iast hx hb hK hP hD hS 1 0 rfl rfl hi_2096 dX4_followTags_36 (fun H locs hP hD hS => ?_)
                replace hP : va_P (dC, dI) vwCl [(h0, .inr (2, [.ref q_line, .ref q_before, .ref q_keys, .ref q_tags, .ref q_cells, .ref q_unlike, .int v_rows, .int v_proper])), (q_line, .inl (cI, 16, .inl (upd v_line_12 (x2_2).toNatClampNeg x3_12))), (q_p1, .inr (6, [.ref q_p1_kinds, .ref q_p1_tags, .ref q_p1_cells, .int v_p1_columns, .int v_p1_rows])), (q_p1_tags, .inl (cI, 16, .inl v_p1_tags))] H := hP
                replace hD : va_D A [(h0, .inr (2, [.ref q_line, .ref q_before, .ref q_keys, .ref q_tags, .ref q_cells, .ref q_unlike, .int v_rows, .int v_proper])), (q_line, .inl (cI, 16, .inl (upd v_line_12 (x2_2).toNatClampNeg x3_12))), (q_p1, .inr (6, [.ref q_p1_kinds, .ref q_p1_tags, .ref q_p1_cells, .int v_p1_columns, .int v_p1_rows])), (q_p1_tags, .inl (cI, 16, .inl v_p1_tags))] := hD
                refine lv_iinc (v := (x3_12 + 1)) (lv' := [(3, .int (x3_12 + 1)), (0, .ref h0), (1, .ref q_p1), (2, .int x2_2)]) hx hb dX4_followTags_37 hl (k := 3) rfl (by rfl) (by decide) rfl (fun ls hl => ?_)
                refine lv_goto (tgt := 12) hx hb dX4_followTags_40 (by decide) ?_
                exact ih (x3_12 + 1) (upd v_line_12 (x2_2).toNatClampNeg x3_12) w H _ ls h hP hD hS (lv_sub hl [1, 2, 3, 0] rfl) K
        obtain ⟨w_2097, hw_2097, h⟩ := ob h
        refine LP_2097 fu (0 : Int32) v_line_2 w_2097 H _ ls hw_2097 hP hD hS (lv_sub hl [1, 2, 3, 0] rfl) (fun H locs ls hP hD hS hl => ?_)
        refine lv_iinc (v := (x2_2 + 1)) (lv' := [(2, .int (x2_2 + 1)), (0, .ref h0), (1, .ref q_p1)]) hx hb dX4_followTags_43 hl (k := 2) rfl (by rfl) (by decide) rfl (fun ls hl => ?_)
        refine lv_goto (tgt := 2) hx hb dX4_followTags_46 (by decide) ?_
        exact ih (x2_2 + 1) w_2097 w H _ ls h hP hD hS (lv_sub hl [1, 2, 0] rfl) K
  obtain ⟨w_2098, hw_2098, h⟩ := ob h
  refine LP_2098 fu (0 : Int32) v_line w_2098 s.heap _ ls hw_2098 hP hD hS (lv_sub hl [1, 2, 0] rfl) (fun H locs ls hP hD hS hl => ?_)
  rw [hQQ]
  have ho := Option.some.inj h
  subst ho
  exact W.vret hx hb hr (fun t ht hW => ⟨⟨(), rfl, trivial, by rw [ht]; exact hP, va_K.moved hW.alike hK, hD⟩, hS.F ht⟩) hS.2.2 dX4_followTags_49
def L_X4_key_9 (v_size : Int32) (v_columns : (Nat → Int32)) (v_p1_ranks : (Nat → Int32)) (x2 : Int32) (x3 : Int32) : Nat → Int32 → Int32 → Int32 → Option Int32
  | 0, _, _, _ => none
  | n+1, x4_9, x5_9, x6_9 => (if v_size ≤ x6_9 then (some x4_9) else (if x6_9 < 0 ∨ 6 ≤ (x6_9).toNatClampNeg then none else ((f_X6_of v_p1_ranks (v_columns (x6_9).toNatClampNeg) x3).bind (fun o_2101 => (((if x2 = 0 then (some (0 : Int32)) else (((if (x5_9 &&& (1 : Int32)) = (1 : Int32) then (some (1 : Int32)) else (some (0 : Int32)))).bind (fun v_2109 => (some v_2109))))).bind (fun v_2103 => (if v_2103 = 0 then (L_X4_key_9 v_size v_columns v_p1_ranks x2 x3 n ((x4_9 * (16 : Int32)) + o_2101) (x5_9 + o_2101) (x6_9 + 1)) else (L_X4_key_9 v_size v_columns v_p1_ranks x2 x3 n ((x4_9 * (16 : Int32)) + ((15 : Int32) - o_2101)) (x5_9 + o_2101) (x6_9 + 1)))))))))
def f_X4_key (v_size : Int32) (v_columns : Nat → Int32) (v_p1_ranks : Nat → Int32) (x2 : Int32) (x3 : Int32) : Option Int32 :=
  ((L_X4_key_9 v_size v_columns v_p1_ranks x2 x3 fu (0 : Int32) (0 : Int32) (0 : Int32)).bind (fun w_2113 => (some w_2113)))
abbrev rm_X4_key : Room := { frames := 1, cells := 0, slots := 0, locals := 22 }
set_option maxHeartbeats 4000000 in
set_option maxRecDepth 100000 in
theorem c_X4_key (l : Launch) (dC : Nat → ClassId) (dI : Nat → Nat → Nat) (cB cC cI cJ cZ cT : ClassId) (h0 q_columns q_p1 q_p1_distinct q_p1_ranks q_p1_weights q_p1_isFirst : Nat) (v_size : Int32) (v_columns : Nat → Int32) (v_p1_ranks : Nat → Int32) (x2 : Int32) (x3 : Int32) (o : Int32) (hf : f_X4_key v_size v_columns v_p1_ranks x2 x3 = some o) : Met l yX4_key wsX4_key rm_X4_key (va_Pc [.ref h0, .ref q_p1, .int x2, .int x3] (fun U => va_P (dC, dI) vwCl [(h0, .inr (1, [.ref q_columns, .int v_size])), (q_columns, .inl (cI, 6, .inl v_columns)), (q_p1, .inr (4, [.ref q_p1_distinct, .ref q_p1_ranks, .ref q_p1_weights, .ref q_p1_isFirst])), (q_p1_ranks, .inl (cI, 96, .inl v_p1_ranks))] U.heap ∧ va_K (dC, dI) vwCl (tyA cB cC cI cJ cZ cT) U)) (vp_Si (fun r => o = r)) 0 0 (fun _ => False) := by
  refine Met.ofW (cc := cX4_key) (maxL := 9) (ret := (some .int)) (by decide +kernel) rfl ?_
  intro p e s m args below meth c s₁ B hml hv
  obtain ⟨hav, hP, hK⟩ := hv
  have hx := B.exec
  have hb := B.bytes
  have hr := B.returns
  have hts := atoms_spec (ws := wsX4_key) B.pre
  have hown : s.vm.findClass RX4 = some m.cls := findClass_of_methodNamed B.named
  have hlocks := B.notSynchronized
  refine wstart (rm := rm_X4_key) hav (Nat.le_of_ble_eq_true rfl) (fun QQ ls hQQ hl => ?_)
  have hl : lv_has ls 9 [(0, .ref h0), (1, .ref q_p1), (2, .int x2), (3, .int x3)] := hl
  have hi_X2 : ∀ w ∈ u_ws RX2 TX2 2, w ∈ wsX4_key := by decide +kernel
  have h := hf
  unfold f_X4_key at h
  refine lv_iconst (v := 0) hx hb dX4_key_0 (by decide) ?_
  refine lv_istore (lv' := [(4, .int (0 : Int32)), (0, .ref h0), (1, .ref q_p1), (2, .int x2), (3, .int x3)]) hx hb dX4_key_1 hl (by decide) rfl (fun ls hl => ?_)
  refine lv_iconst (v := 0) hx hb dX4_key_3 (by decide) ?_
  refine lv_istore (lv' := [(5, .int (0 : Int32)), (4, .int (0 : Int32)), (0, .ref h0), (1, .ref q_p1), (2, .int x2), (3, .int x3)]) hx hb dX4_key_4 hl (by decide) rfl (fun ls hl => ?_)
  refine lv_iconst (v := 0) hx hb dX4_key_6 (by decide) ?_
  refine lv_istore (lv' := [(6, .int (0 : Int32)), (5, .int (0 : Int32)), (4, .int (0 : Int32)), (0, .ref h0), (1, .ref q_p1), (2, .int x2), (3, .int x3)]) hx hb dX4_key_7 hl (by decide) rfl (fun ls hl => ?_)
  have LP_2113 : ∀ (n : Nat) (x4_9 : Int32) (x5_9 : Int32) (x6_9 : Int32) (w : Int32) (ls : Array Slot), L_X4_key_9 v_size v_columns v_p1_ranks x2 x3 n x4_9 x5_9 x6_9 = some w → lv_has ls 9 [(0, .ref h0), (1, .ref q_p1), (2, .int x2), (3, .int x3), (4, .int x4_9), (5, .int x5_9), (6, .int x6_9)] → (∀ (ls : Array Slot), lv_has ls 9 [(4, .int w)] → W p l e rm_X4_key s m args below meth c s.heap [] 0 0 QQ (F0 m 87 ls [])) → W p l e rm_X4_key s m args below meth c s.heap [] 0 0 QQ (F0 m 9 ls []) := by
    intro n
    induction n with
    | zero => intro x4_9 x5_9 x6_9 w ls h; exact absurd (show none = some w from h) nofun
    | succ n ih =>
      intro x4_9 x5_9 x6_9 w ls h hl K
      rw [L_X4_key_9] at h
      refine lv_iload hx hb dX4_key_9 (lv_at hl 6 rfl) ?_
      refine lv_aload_n hx hb dX4_key_11 rfl (lv_at hl 0 rfl) ?_
      refine va_get (D := (dC, dI)) (ci := 1) (v := .int v_size) (C := RX2) (T := TX2) (N := 2) hx hb hts hi_X2 hown hK hP 0 rfl rfl 1 (by decide) (hts _ (List.mem_of_getElem? (i := 1) rfl)) (fun _ h9 => h9) rfl dX4_key_12 ?_
      refine lv_icmp_ge (tgt := 87) hx hb dX4_key_15 (by decide) (fun c_2099 => ?_) (fun c_2099 => ?_)
      · replace h := op c_2099 h
        have ho := Option.some.inj h
        subst ho
        exact K ls (lv_sub hl [4] rfl)
      · replace h := on c_2099 h
        refine lv_aload_n hx hb dX4_key_18 rfl (lv_at hl 1 rfl) ?_
        refine lv_aload_n hx hb dX4_key_19 rfl (lv_at hl 0 rfl) ?_
        refine va_get (D := (dC, dI)) (ci := 1) (v := .ref q_columns) (C := RX2) (T := TX2) (N := 2) hx hb hts hi_X2 hown hK hP 0 rfl rfl 0 (by decide) (hts _ (List.mem_of_getElem? (i := 2) rfl)) (fun _ h9 => h9) rfl dX4_key_20 ?_
        refine lv_iload hx hb dX4_key_23 (lv_at hl 6 rfl) ?_
        obtain ⟨hi_2100, h⟩ := og h
        refine va_iald hx hb hK hP 1 0 rfl rfl hi_2100 dX4_key_25 ?_
        refine lv_iload_n hx hb dX4_key_26 rfl (lv_at hl 3 rfl) ?_
        obtain ⟨o_2101, hr_2101, h⟩ := ob h
        refine vp_callSi (va_Run.run (va_runV (As := [.int (v_columns (x6_9).toNatClampNeg), .int x3]) (rest := []) ⟨hx, hb, hml, hown, hts⟩ (c_X6_of l dC dI cB cC cI cJ cZ cT q_p1 q_p1_distinct q_p1_ranks q_p1_weights q_p1_isFirst v_p1_ranks (v_columns (x6_9).toNatClampNeg) x3 o_2101 hr_2101) (cwV 2 hts gX4_key_X6_of rfl rfl rfl (by decide +kernel) ⟨Nat.le_of_ble_eq_true rfl, Nat.le_of_ble_eq_true rfl⟩) ⟨blR, va_recv hK hP (ci := 4) (q0 := 2) rfl rfl, fun U hU hW => ⟨rfl, by rw [hU]; exact hP.sub [2, 3] rfl, va_K.moved hW.alike hK⟩⟩ rfl rfl hl.1 rfl (lv_room (Nat.le_of_ble_eq_true rfl)) dX4_key_27 ⟨Nat.le_of_ble_eq_true rfl, Nat.le_of_ble_eq_true rfl⟩)) (fun r_2101 e_2101 => ?_)
        subst e_2101
        refine lv_istore (lv' := [(7, .int o_2101), (0, .ref h0), (1, .ref q_p1), (2, .int x2), (3, .int x3), (4, .int x4_9), (5, .int x5_9), (6, .int x6_9)]) hx hb dX4_key_30 hl (by decide) rfl (fun ls hl => ?_)
        refine lv_iload_n hx hb dX4_key_32 rfl (lv_at hl 3 rfl) ?_
        obtain ⟨v_2103, hv_2103, h⟩ := ob h
        have J_2103 : ∀ (ls : Array Slot), lv_has ls 9 [(0, .ref h0), (1, .ref q_p1), (2, .int x2), (3, .int x3), (4, .int x4_9), (5, .int x5_9), (6, .int x6_9), (7, .int o_2101)] → W p l e rm_X4_key s m args below meth c s.heap [] 0 0 QQ (F0 m 49 ls [.int v_2103]) := by
          intro ls hl
          refine lv_istore (lv' := [(8, .int v_2103), (0, .ref h0), (1, .ref q_p1), (2, .int x2), (3, .int x3), (4, .int x4_9), (5, .int x5_9), (6, .int x6_9), (7, .int o_2101)]) hx hb dX4_key_49 hl (by decide) rfl (fun ls hl => ?_)
          refine lv_iload hx hb dX4_key_51 (lv_at hl 5 rfl) ?_
          refine lv_bipush (v := 16) hx hb dX4_key_53 (by decide) ?_
          refine lv_imul hx hb dX4_key_55 ?_
          refine lv_iload hx hb dX4_key_56 (lv_at hl 0 rfl) ?_
          refine lv_if_eq (tgt := 69) hx hb dX4_key_58 (by decide) (fun c_2112 => ?_) (fun c_2112 => ?_)
          · replace h := op c_2112 h
            refine lv_iload hx hb dX4_key_69 (lv_at hl 8 rfl) ?_
            refine lv_iadd hx hb dX4_key_71 ?_
            refine lv_istore (lv' := [(4, .int ((x4_9 * (16 : Int32)) + o_2101)), (8, .int v_2103), (0, .ref h0), (1, .ref q_p1), (2, .int x2), (3, .int x3), (5, .int x5_9), (6, .int x6_9), (7, .int o_2101)]) hx hb dX4_key_72 hl (by decide) rfl (fun ls hl => ?_)
            refine lv_iload hx hb dX4_key_74 (lv_at hl 6 rfl) ?_
            refine lv_iload hx hb dX4_key_76 (lv_at hl 8 rfl) ?_
            refine lv_iadd hx hb dX4_key_78 ?_
            refine lv_istore (lv' := [(5, .int (x5_9 + o_2101)), (4, .int ((x4_9 * (16 : Int32)) + o_2101)), (8, .int v_2103), (0, .ref h0), (1, .ref q_p1), (2, .int x2), (3, .int x3), (6, .int x6_9), (7, .int o_2101)]) hx hb dX4_key_79 hl (by decide) rfl (fun ls hl => ?_)
            refine lv_iinc (v := (x6_9 + 1)) (lv' := [(6, .int (x6_9 + 1)), (5, .int (x5_9 + o_2101)), (4, .int ((x4_9 * (16 : Int32)) + o_2101)), (8, .int v_2103), (0, .ref h0), (1, .ref q_p1), (2, .int x2), (3, .int x3), (7, .int o_2101)]) hx hb dX4_key_81 hl (k := 7) rfl (by rfl) (by decide) rfl (fun ls hl => ?_)
            refine lv_goto (tgt := 9) hx hb dX4_key_84 (by decide) ?_
            exact ih ((x4_9 * (16 : Int32)) + o_2101) (x5_9 + o_2101) (x6_9 + 1) w ls h (lv_sub hl [4, 5, 6, 7, 2, 1, 0] rfl) K
          · replace h := on c_2112 h
            refine lv_bipush (v := 15) hx hb dX4_key_61 (by decide) ?_
            refine lv_iload hx hb dX4_key_63 (lv_at hl 8 rfl) ?_
            refine lv_isub hx hb dX4_key_65 ?_
            refine lv_goto (tgt := 71) hx hb dX4_key_66 (by decide) ?_
            refine lv_iadd hx hb dX4_key_71 ?_
            refine lv_istore (lv' := [(4, .int ((x4_9 * (16 : Int32)) + ((15 : Int32) - o_2101))), (8, .int v_2103), (0, .ref h0), (1, .ref q_p1), (2, .int x2), (3, .int x3), (5, .int x5_9), (6, .int x6_9), (7, .int o_2101)]) hx hb dX4_key_72 hl (by decide) rfl (fun ls hl => ?_)
            refine lv_iload hx hb dX4_key_74 (lv_at hl 6 rfl) ?_
            refine lv_iload hx hb dX4_key_76 (lv_at hl 8 rfl) ?_
            refine lv_iadd hx hb dX4_key_78 ?_
            refine lv_istore (lv' := [(5, .int (x5_9 + o_2101)), (4, .int ((x4_9 * (16 : Int32)) + ((15 : Int32) - o_2101))), (8, .int v_2103), (0, .ref h0), (1, .ref q_p1), (2, .int x2), (3, .int x3), (6, .int x6_9), (7, .int o_2101)]) hx hb dX4_key_79 hl (by decide) rfl (fun ls hl => ?_)
            refine lv_iinc (v := (x6_9 + 1)) (lv' := [(6, .int (x6_9 + 1)), (5, .int (x5_9 + o_2101)), (4, .int ((x4_9 * (16 : Int32)) + ((15 : Int32) - o_2101))), (8, .int v_2103), (0, .ref h0), (1, .ref q_p1), (2, .int x2), (3, .int x3), (7, .int o_2101)]) hx hb dX4_key_81 hl (k := 7) rfl (by rfl) (by decide) rfl (fun ls hl => ?_)
            refine lv_goto (tgt := 9) hx hb dX4_key_84 (by decide) ?_
            exact ih ((x4_9 * (16 : Int32)) + ((15 : Int32) - o_2101)) (x5_9 + o_2101) (x6_9 + 1) w ls h (lv_sub hl [4, 5, 6, 7, 2, 1, 0] rfl) K
        replace h := hv_2103
        refine lv_if_eq (tgt := 48) hx hb dX4_key_33 (by decide) (fun c_2108 => ?_) (fun c_2108 => ?_)
        · replace h := op c_2108 h
          refine lv_iconst (v := 0) hx hb dX4_key_48 (by decide) ?_
          have ho := Option.some.inj h
          subst ho
          exact J_2103 ls (lv_sub hl [1, 2, 3, 4, 5, 6, 7, 0] rfl)
        · replace h := on c_2108 h
          refine lv_iload hx hb dX4_key_36 (lv_at hl 6 rfl) ?_
          refine lv_iconst (v := 1) hx hb dX4_key_38 (by decide) ?_
          refine lv_iand hx hb dX4_key_39 ?_
          refine lv_iconst (v := 1) hx hb dX4_key_40 (by decide) ?_
          obtain ⟨v_2109, hv_2109, h⟩ := ob h
          have J_2109 : ∀ (ls : Array Slot), lv_has ls 9 [(0, .ref h0), (1, .ref q_p1), (2, .int x2), (3, .int x3), (4, .int x4_9), (5, .int x5_9), (6, .int x6_9), (7, .int o_2101)] → W p l e rm_X4_key s m args below meth c s.heap [] 0 0 QQ (F0 m 49 ls [.int v_2109]) := by
            intro ls hl
            have ho := Option.some.inj h
            subst ho
            exact J_2103 ls (lv_sub hl [0, 1, 2, 3, 4, 5, 6, 7] rfl)
          replace h := hv_2109
          refine lv_icmp_ne (tgt := 48) hx hb dX4_key_41 (by decide) (fun c_2111 => ?_) (fun c_2111 => ?_)
          · replace h := on c_2111 h
            refine lv_iconst (v := 0) hx hb dX4_key_48 (by decide) ?_
            have ho := Option.some.inj h
            subst ho
            exact J_2109 ls (lv_sub hl [1, 2, 3, 4, 5, 6, 7, 0] rfl)
          · replace h := op c_2111 h
            refine lv_iconst (v := 1) hx hb dX4_key_44 (by decide) ?_
            refine lv_goto (tgt := 49) hx hb dX4_key_45 (by decide) ?_
            have ho := Option.some.inj h
            subst ho
            exact J_2109 ls (lv_sub hl [1, 2, 3, 4, 5, 6, 7, 0] rfl)
  obtain ⟨w_2113, hw_2113, h⟩ := ob h
  refine LP_2113 fu (0 : Int32) (0 : Int32) (0 : Int32) w_2113 ls hw_2113 (lv_sub hl [3, 4, 5, 6, 2, 1, 0] rfl) (fun ls hl => ?_)
  refine lv_iload hx hb dX4_key_87 (lv_at hl 0 rfl) ?_
  rw [hQQ]
  exact W.iret hx hb hr (fun t ht hW => ⟨_, rfl, (Option.some.inj h).symm, ht⟩) (fun q hq => absurd hq List.not_mem_nil) dX4_key_89
def L_X4_sortBy_26 (o_2115 : Int32) : Nat → Int32 → (Nat → Int32) → (Nat → Int32) → Option (Int32 × (Nat → Int32) × (Nat → Int32))
  | 0, _, _, _ => none
  | n+1, x6_26, v_line_26, v_keys_26 => (if x6_26 ≤ 0 then (some (x6_26, v_line_26, v_keys_26)) else (if (x6_26 - (1 : Int32)) < 0 ∨ 16 ≤ ((x6_26 - (1 : Int32))).toNatClampNeg then none else (if (v_keys_26 ((x6_26 - (1 : Int32))).toNatClampNeg) ≤ o_2115 then (some (x6_26, v_line_26, v_keys_26)) else (if (x6_26 - (1 : Int32)) < 0 ∨ 16 ≤ ((x6_26 - (1 : Int32))).toNatClampNeg then none else (if x6_26 < 0 ∨ 16 ≤ (x6_26).toNatClampNeg then none else (if (x6_26 - (1 : Int32)) < 0 ∨ 16 ≤ ((x6_26 - (1 : Int32))).toNatClampNeg then none else (if x6_26 < 0 ∨ 16 ≤ (x6_26).toNatClampNeg then none else (L_X4_sortBy_26 o_2115 n (x6_26 + (-1)) (upd v_line_26 (x6_26).toNatClampNeg (v_line_26 ((x6_26 - (1 : Int32))).toNatClampNeg)) (upd v_keys_26 (x6_26).toNatClampNeg (v_keys_26 ((x6_26 - (1 : Int32))).toNatClampNeg))))))))))
def L_X4_sortBy_3 (v_rows : Int32) (v_p1_size : Int32) (v_p1_columns : (Nat → Int32)) (v_p2_ranks : (Nat → Int32)) (x3 : Int32) : Nat → Int32 → (Nat → Int32) → (Nat → Int32) → Option ((Nat → Int32) × (Nat → Int32))
  | 0, _, _, _ => none
  | n+1, x4_3, v_line_3, v_keys_3 => (if v_rows ≤ x4_3 then (some (v_line_3, v_keys_3)) else ((f_X4_key v_p1_size v_p1_columns v_p2_ranks x3 x4_3).bind (fun o_2115 => ((L_X4_sortBy_26 o_2115 fu x4_3 v_line_3 v_keys_3).bind (fun w_2124 => (if w_2124.1 < 0 ∨ 16 ≤ (w_2124.1).toNatClampNeg then none else (if w_2124.1 < 0 ∨ 16 ≤ (w_2124.1).toNatClampNeg then none else (L_X4_sortBy_3 v_rows v_p1_size v_p1_columns v_p2_ranks x3 n (x4_3 + 1) (upd w_2124.2.1 (w_2124.1).toNatClampNeg x4_3) (upd w_2124.2.2 (w_2124.1).toNatClampNeg o_2115)))))))))
def f_X4_sortBy (v_rows : Int32) (v_line : Nat → Int32) (v_keys : Nat → Int32) (v_p1_size : Int32) (v_p1_columns : Nat → Int32) (v_p2_ranks : Nat → Int32) (x3 : Int32) : Option ((Nat → Int32) × (Nat → Int32)) :=
  ((L_X4_sortBy_3 v_rows v_p1_size v_p1_columns v_p2_ranks x3 fu (0 : Int32) v_line v_keys).bind (fun w_2127 => (some (w_2127.1, w_2127.2))))
abbrev rm_X4_sortBy : Room := { frames := 2, cells := 0, slots := 0, locals := 50 }
set_option maxHeartbeats 4000000 in
set_option maxRecDepth 100000 in
theorem c_X4_sortBy (l : Launch) (dC : Nat → ClassId) (dI : Nat → Nat → Nat) (cB cC cI cJ cZ cT : ClassId) (h0 q_line q_before q_keys q_tags q_cells q_unlike q_p1 q_p1_columns q_p2 q_p2_distinct q_p2_ranks q_p2_weights q_p2_isFirst : Nat) (sz : Nat) (v_rows : Int32) (v_proper : Int32) (v_line : Nat → Int32) (v_keys : Nat → Int32) (v_p1_size : Int32) (v_p1_columns : Nat → Int32) (v_p2_ranks : Nat → Int32) (x3 : Int32) (o : ((Nat → Int32) × (Nat → Int32))) (hf : f_X4_sortBy v_rows v_line v_keys v_p1_size v_p1_columns v_p2_ranks x3 = some o) : Met l yX4_sortBy wsX4_sortBy rm_X4_sortBy (va_Pc [.ref h0, .ref q_p1, .ref q_p2, .int x3] (fun U => U.heap.size = sz ∧ va_P (dC, dI) vwCl [(h0, .inr (2, [.ref q_line, .ref q_before, .ref q_keys, .ref q_tags, .ref q_cells, .ref q_unlike, .int v_rows, .int v_proper])), (q_line, .inl (cI, 16, .inl v_line)), (q_keys, .inl (cI, 16, .inl v_keys)), (q_p1, .inr (1, [.ref q_p1_columns, .int v_p1_size])), (q_p1_columns, .inl (cI, 6, .inl v_p1_columns)), (q_p2, .inr (4, [.ref q_p2_distinct, .ref q_p2_ranks, .ref q_p2_weights, .ref q_p2_isFirst])), (q_p2_ranks, .inl (cI, 96, .inl v_p2_ranks))] U.heap ∧ va_K (dC, dI) vwCl (tyA cB cC cI cJ cZ cT) U ∧ va_D (fun _ => True) [(h0, .inr (2, [.ref q_line, .ref q_before, .ref q_keys, .ref q_tags, .ref q_cells, .ref q_unlike, .int v_rows, .int v_proper])), (q_line, .inl (cI, 16, .inl v_line)), (q_keys, .inl (cI, 16, .inl v_keys)), (q_p1, .inr (1, [.ref q_p1_columns, .int v_p1_size])), (q_p1_columns, .inl (cI, 6, .inl v_p1_columns)), (q_p2, .inr (4, [.ref q_p2_distinct, .ref q_p2_ranks, .ref q_p2_weights, .ref q_p2_isFirst])), (q_p2_ranks, .inl (cI, 96, .inl v_p2_ranks))])) (va_Qv (fun _ : Unit => True) (fun _ t => va_P (dC, dI) vwCl [(h0, .inr (2, [.ref q_line, .ref q_before, .ref q_keys, .ref q_tags, .ref q_cells, .ref q_unlike, .int v_rows, .int v_proper])), (q_line, .inl (cI, 16, .inl o.1)), (q_keys, .inl (cI, 16, .inl o.2)), (q_p1, .inr (1, [.ref q_p1_columns, .int v_p1_size])), (q_p1_columns, .inl (cI, 6, .inl v_p1_columns)), (q_p2, .inr (4, [.ref q_p2_distinct, .ref q_p2_ranks, .ref q_p2_weights, .ref q_p2_isFirst])), (q_p2_ranks, .inl (cI, 96, .inl v_p2_ranks))] t.heap ∧ va_K (dC, dI) vwCl (tyA cB cC cI cJ cZ cT) t ∧ va_D (va_A [(h0, .inr (2, [.ref q_line, .ref q_before, .ref q_keys, .ref q_tags, .ref q_cells, .ref q_unlike, .int v_rows, .int v_proper])), (q_line, .inl (cI, 16, .inl v_line)), (q_keys, .inl (cI, 16, .inl v_keys)), (q_p1, .inr (1, [.ref q_p1_columns, .int v_p1_size])), (q_p1_columns, .inl (cI, 6, .inl v_p1_columns)), (q_p2, .inr (4, [.ref q_p2_distinct, .ref q_p2_ranks, .ref q_p2_weights, .ref q_p2_isFirst])), (q_p2_ranks, .inl (cI, 96, .inl v_p2_ranks))] sz) [(h0, .inr (2, [.ref q_line, .ref q_before, .ref q_keys, .ref q_tags, .ref q_cells, .ref q_unlike, .int v_rows, .int v_proper])), (q_line, .inl (cI, 16, .inl o.1)), (q_keys, .inl (cI, 16, .inl o.2)), (q_p1, .inr (1, [.ref q_p1_columns, .int v_p1_size])), (q_p1_columns, .inl (cI, 6, .inl v_p1_columns)), (q_p2, .inr (4, [.ref q_p2_distinct, .ref q_p2_ranks, .ref q_p2_weights, .ref q_p2_isFirst])), (q_p2_ranks, .inl (cI, 96, .inl v_p2_ranks))]) (va_A [(h0, .inr (2, [.ref q_line, .ref q_before, .ref q_keys, .ref q_tags, .ref q_cells, .ref q_unlike, .int v_rows, .int v_proper])), (q_line, .inl (cI, 16, .inl v_line)), (q_keys, .inl (cI, 16, .inl v_keys)), (q_p1, .inr (1, [.ref q_p1_columns, .int v_p1_size])), (q_p1_columns, .inl (cI, 6, .inl v_p1_columns)), (q_p2, .inr (4, [.ref q_p2_distinct, .ref q_p2_ranks, .ref q_p2_weights, .ref q_p2_isFirst])), (q_p2_ranks, .inl (cI, 96, .inl v_p2_ranks))] sz)) 0 0 (va_A [(h0, .inr (2, [.ref q_line, .ref q_before, .ref q_keys, .ref q_tags, .ref q_cells, .ref q_unlike, .int v_rows, .int v_proper])), (q_line, .inl (cI, 16, .inl v_line)), (q_keys, .inl (cI, 16, .inl v_keys)), (q_p1, .inr (1, [.ref q_p1_columns, .int v_p1_size])), (q_p1_columns, .inl (cI, 6, .inl v_p1_columns)), (q_p2, .inr (4, [.ref q_p2_distinct, .ref q_p2_ranks, .ref q_p2_weights, .ref q_p2_isFirst])), (q_p2_ranks, .inl (cI, 96, .inl v_p2_ranks))] sz) := by
  refine Met.ofW (cc := cX4_sortBy) (maxL := 7) (ret := none) (by decide +kernel) rfl ?_
  intro p e s m args below meth c s₁ B hml hv
  obtain ⟨hav, hsz, hP, hK, hD0⟩ := hv
  have hx := B.exec
  have hb := B.bytes
  have hr := B.returns
  have hts := atoms_spec (ws := wsX4_sortBy) B.pre
  have hown : s.vm.findClass RX4 = some m.cls := findClass_of_methodNamed B.named
  have hlocks := B.notSynchronized
  subst hsz
  have hD := hD0.self (sz := s.heap.size)
  generalize hAe : va_A [(h0, .inr (2, [.ref q_line, .ref q_before, .ref q_keys, .ref q_tags, .ref q_cells, .ref q_unlike, .int v_rows, .int v_proper])), (q_line, .inl (cI, 16, .inl v_line)), (q_keys, .inl (cI, 16, .inl v_keys)), (q_p1, .inr (1, [.ref q_p1_columns, .int v_p1_size])), (q_p1_columns, .inl (cI, 6, .inl v_p1_columns)), (q_p2, .inr (4, [.ref q_p2_distinct, .ref q_p2_ranks, .ref q_p2_weights, .ref q_p2_isFirst])), (q_p2_ranks, .inl (cI, 96, .inl v_p2_ranks))] s.heap.size = A at hD ⊢
  have hA : ∀ q : Nat, s.heap.size ≤ q → A q := fun q h => by rw [← hAe]; exact Or.inr h
  have hS : va_S A s.heap s.heap [] := va_S.rf
  refine wstart (rm := rm_X4_sortBy) hav (Nat.le_of_ble_eq_true rfl) (fun QQ ls hQQ hl => ?_)
  have hl : lv_has ls 7 [(0, .ref h0), (1, .ref q_p1), (2, .ref q_p2), (3, .int x3)] := hl
  have hi_X4 : ∀ w ∈ u_ws RX4 TX4 8, w ∈ wsX4_sortBy := by decide +kernel
  have h := hf
  unfold f_X4_sortBy at h
  refine lv_iconst (v := 0) hx hb dX4_sortBy_0 (by decide) ?_
  refine lv_istore (lv' := [(4, .int (0 : Int32)), (0, .ref h0), (1, .ref q_p1), (2, .ref q_p2), (3, .int x3)]) hx hb dX4_sortBy_1 hl (by decide) rfl (fun ls hl => ?_)
  have LP_2127 : ∀ (n : Nat) (x4_3 : Int32) (v_line_3 : (Nat → Int32)) (v_keys_3 : (Nat → Int32)) (w : ((Nat → Int32) × (Nat → Int32))) (H : Heap) (locs : List Loc) (ls : Array Slot), L_X4_sortBy_3 v_rows v_p1_size v_p1_columns v_p2_ranks x3 n x4_3 v_line_3 v_keys_3 = some w → va_P (dC, dI) vwCl [(h0, .inr (2, [.ref q_line, .ref q_before, .ref q_keys, .ref q_tags, .ref q_cells, .ref q_unlike, .int v_rows, .int v_proper])), (q_line, .inl (cI, 16, .inl v_line_3)), (q_keys, .inl (cI, 16, .inl v_keys_3)), (q_p1, .inr (1, [.ref q_p1_columns, .int v_p1_size])), (q_p1_columns, .inl (cI, 6, .inl v_p1_columns)), (q_p2, .inr (4, [.ref q_p2_distinct, .ref q_p2_ranks, .ref q_p2_weights, .ref q_p2_isFirst])), (q_p2_ranks, .inl (cI, 96, .inl v_p2_ranks))] H → va_D A [(h0, .inr (2, [.ref q_line, .ref q_before, .ref q_keys, .ref q_tags, .ref q_cells, .ref q_unlike, .int v_rows, .int v_proper])), (q_line, .inl (cI, 16, .inl v_line_3)), (q_keys, .inl (cI, 16, .inl v_keys_3)), (q_p1, .inr (1, [.ref q_p1_columns, .int v_p1_size])), (q_p1_columns, .inl (cI, 6, .inl v_p1_columns)), (q_p2, .inr (4, [.ref q_p2_distinct, .ref q_p2_ranks, .ref q_p2_weights, .ref q_p2_isFirst])), (q_p2_ranks, .inl (cI, 96, .inl v_p2_ranks))] → va_S A s.heap H locs → lv_has ls 7 [(0, .ref h0), (1, .ref q_p1), (2, .ref q_p2), (3, .int x3), (4, .int x4_3)] → (∀ (H : Heap) (locs : List Loc) (ls : Array Slot), va_P (dC, dI) vwCl [(h0, .inr (2, [.ref q_line, .ref q_before, .ref q_keys, .ref q_tags, .ref q_cells, .ref q_unlike, .int v_rows, .int v_proper])), (q_line, .inl (cI, 16, .inl w.1)), (q_keys, .inl (cI, 16, .inl w.2)), (q_p1, .inr (1, [.ref q_p1_columns, .int v_p1_size])), (q_p1_columns, .inl (cI, 6, .inl v_p1_columns)), (q_p2, .inr (4, [.ref q_p2_distinct, .ref q_p2_ranks, .ref q_p2_weights, .ref q_p2_isFirst])), (q_p2_ranks, .inl (cI, 96, .inl v_p2_ranks))] H → va_D A [(h0, .inr (2, [.ref q_line, .ref q_before, .ref q_keys, .ref q_tags, .ref q_cells, .ref q_unlike, .int v_rows, .int v_proper])), (q_line, .inl (cI, 16, .inl w.1)), (q_keys, .inl (cI, 16, .inl w.2)), (q_p1, .inr (1, [.ref q_p1_columns, .int v_p1_size])), (q_p1_columns, .inl (cI, 6, .inl v_p1_columns)), (q_p2, .inr (4, [.ref q_p2_distinct, .ref q_p2_ranks, .ref q_p2_weights, .ref q_p2_isFirst])), (q_p2_ranks, .inl (cI, 96, .inl v_p2_ranks))] → va_S A s.heap H locs → lv_has ls 7 [] → W p l e rm_X4_sortBy s m args below meth c H locs 0 0 QQ (F0 m 107 ls [])) → W p l e rm_X4_sortBy s m args below meth c H locs 0 0 QQ (F0 m 3 ls []) := by
    intro n
    induction n with
    | zero => intro x4_3 v_line_3 v_keys_3 w H locs ls h; exact absurd (show none = some w from h) nofun
    | succ n ih =>
      intro x4_3 v_line_3 v_keys_3 w H locs ls h hP hD hS hl K
      rw [L_X4_sortBy_3] at h
      refine lv_iload hx hb dX4_sortBy_3 (lv_at hl 4 rfl) ?_
      refine lv_aload_n hx hb dX4_sortBy_5 rfl (lv_at hl 0 rfl) ?_
      refine va_get (D := (dC, dI)) (ci := 2) (v := .int v_rows) (C := RX4) (T := TX4) (N := 8) hx hb hts hi_X4 hown hK hP 0 rfl rfl 6 (by decide) (hts _ (List.mem_of_getElem? (i := 1) rfl)) (fun _ h9 => h9) rfl dX4_sortBy_6 ?_
      refine lv_icmp_ge (tgt := 107) hx hb dX4_sortBy_9 (by decide) (fun c_2114 => ?_) (fun c_2114 => ?_)
      · replace h := op c_2114 h
        have ho := Option.some.inj h
        subst ho
        exact K H _ ls hP hD hS (lv_sub hl [] rfl)
      · replace h := on c_2114 h
        refine lv_aload_n hx hb dX4_sortBy_12 rfl (lv_at hl 1 rfl) ?_
        refine lv_aload_n hx hb dX4_sortBy_13 rfl (lv_at hl 2 rfl) ?_
        refine lv_iload_n hx hb dX4_sortBy_14 rfl (lv_at hl 3 rfl) ?_
        refine lv_iload hx hb dX4_sortBy_15 (lv_at hl 4 rfl) ?_
        obtain ⟨o_2115, hr_2115, h⟩ := ob h
        refine vp_callSi (va_Run.run (va_runS (As := [.ref q_p1, .ref q_p2, .int x3, .int x4_3]) (rest := []) ⟨hx, hb, hml, hown, hts⟩ (c_X4_key l dC dI cB cC cI cJ cZ cT q_p1 q_p1_columns q_p2 q_p2_distinct q_p2_ranks q_p2_weights q_p2_isFirst v_p1_size v_p1_columns v_p2_ranks x3 x4_3 o_2115 hr_2115) (va_cwS 4 hts gX4_sortBy_X4_key rfl rfl rfl (by decide +kernel) ⟨Nat.le_of_ble_eq_true rfl, Nat.le_of_ble_eq_true rfl⟩) ⟨blR, fun U hU hW => ⟨rfl, by rw [hU]; exact hP.sub [3, 4, 5, 6] rfl, va_K.moved hW.alike hK⟩⟩ rfl rfl hl.1 rfl (lv_room (Nat.le_of_ble_eq_true rfl)) dX4_sortBy_17 ⟨Nat.le_of_ble_eq_true rfl, Nat.le_of_ble_eq_true rfl⟩)) (fun r_2115 e_2115 => ?_)
        subst e_2115
        refine lv_istore (lv' := [(5, .int o_2115), (0, .ref h0), (1, .ref q_p1), (2, .ref q_p2), (3, .int x3), (4, .int x4_3)]) hx hb dX4_sortBy_20 hl (by decide) rfl (fun ls hl => ?_)
        refine lv_iload hx hb dX4_sortBy_22 (lv_at hl 5 rfl) ?_
        refine lv_istore (lv' := [(6, .int x4_3), (5, .int o_2115), (0, .ref h0), (1, .ref q_p1), (2, .ref q_p2), (3, .int x3), (4, .int x4_3)]) hx hb dX4_sortBy_24 hl (by decide) rfl (fun ls hl => ?_)
        have LP_2124 : ∀ (n : Nat) (x6_26 : Int32) (v_line_26 : (Nat → Int32)) (v_keys_26 : (Nat → Int32)) (w : (Int32 × (Nat → Int32) × (Nat → Int32))) (H : Heap) (locs : List Loc) (ls : Array Slot), L_X4_sortBy_26 o_2115 n x6_26 v_line_26 v_keys_26 = some w → va_P (dC, dI) vwCl [(h0, .inr (2, [.ref q_line, .ref q_before, .ref q_keys, .ref q_tags, .ref q_cells, .ref q_unlike, .int v_rows, .int v_proper])), (q_line, .inl (cI, 16, .inl v_line_26)), (q_keys, .inl (cI, 16, .inl v_keys_26)), (q_p1, .inr (1, [.ref q_p1_columns, .int v_p1_size])), (q_p1_columns, .inl (cI, 6, .inl v_p1_columns)), (q_p2, .inr (4, [.ref q_p2_distinct, .ref q_p2_ranks, .ref q_p2_weights, .ref q_p2_isFirst])), (q_p2_ranks, .inl (cI, 96, .inl v_p2_ranks))] H → va_D A [(h0, .inr (2, [.ref q_line, .ref q_before, .ref q_keys, .ref q_tags, .ref q_cells, .ref q_unlike, .int v_rows, .int v_proper])), (q_line, .inl (cI, 16, .inl v_line_26)), (q_keys, .inl (cI, 16, .inl v_keys_26)), (q_p1, .inr (1, [.ref q_p1_columns, .int v_p1_size])), (q_p1_columns, .inl (cI, 6, .inl v_p1_columns)), (q_p2, .inr (4, [.ref q_p2_distinct, .ref q_p2_ranks, .ref q_p2_weights, .ref q_p2_isFirst])), (q_p2_ranks, .inl (cI, 96, .inl v_p2_ranks))] → va_S A s.heap H locs → lv_has ls 7 [(0, .ref h0), (1, .ref q_p1), (2, .ref q_p2), (3, .int x3), (4, .int x4_3), (5, .int o_2115), (6, .int x6_26)] → (∀ (H : Heap) (locs : List Loc) (ls : Array Slot), va_P (dC, dI) vwCl [(h0, .inr (2, [.ref q_line, .ref q_before, .ref q_keys, .ref q_tags, .ref q_cells, .ref q_unlike, .int v_rows, .int v_proper])), (q_line, .inl (cI, 16, .inl w.2.1)), (q_keys, .inl (cI, 16, .inl w.2.2)), (q_p1, .inr (1, [.ref q_p1_columns, .int v_p1_size])), (q_p1_columns, .inl (cI, 6, .inl v_p1_columns)), (q_p2, .inr (4, [.ref q_p2_distinct, .ref q_p2_ranks, .ref q_p2_weights, .ref q_p2_isFirst])), (q_p2_ranks, .inl (cI, 96, .inl v_p2_ranks))] H → va_D A [(h0, .inr (2, [.ref q_line, .ref q_before, .ref q_keys, .ref q_tags, .ref q_cells, .ref q_unlike, .int v_rows, .int v_proper])), (q_line, .inl (cI, 16, .inl w.2.1)), (q_keys, .inl (cI, 16, .inl w.2.2)), (q_p1, .inr (1, [.ref q_p1_columns, .int v_p1_size])), (q_p1_columns, .inl (cI, 6, .inl v_p1_columns)), (q_p2, .inr (4, [.ref q_p2_distinct, .ref q_p2_ranks, .ref q_p2_weights, .ref q_p2_isFirst])), (q_p2_ranks, .inl (cI, 96, .inl v_p2_ranks))] → va_S A s.heap H locs → lv_has ls 7 [(0, .ref h0), (1, .ref q_p1), (2, .ref q_p2), (3, .int x3), (4, .int x4_3), (5, .int o_2115), (6, .int w.1)] → W p l e rm_X4_sortBy s m args below meth c H locs 0 0 QQ (F0 m 83 ls [])) → W p l e rm_X4_sortBy s m args below meth c H locs 0 0 QQ (F0 m 26 ls []) := by
          intro n
          induction n with
          | zero => intro x6_26 v_line_26 v_keys_26 w H locs ls h; exact absurd (show none = some w from h) nofun
          | succ n ih =>
            intro x6_26 v_line_26 v_keys_26 w H locs ls h hP hD hS hl K
            rw [L_X4_sortBy_26] at h
            refine lv_iload hx hb dX4_sortBy_26 (lv_at hl 6 rfl) ?_
            refine lv_if_le (tgt := 83) hx hb dX4_sortBy_28 (by decide) (fun c_2117 => ?_) (fun c_2117 => ?_)
            · replace h := op c_2117 h
              have ho := Option.some.inj h
              subst ho
              exact K H _ ls hP hD hS (lv_sub hl [0, 1, 2, 3, 4, 5, 6] rfl)
            · replace h := on c_2117 h
              refine lv_aload_n hx hb dX4_sortBy_31 rfl (lv_at hl 0 rfl) ?_
              refine va_get (D := (dC, dI)) (ci := 2) (v := .ref q_keys) (C := RX4) (T := TX4) (N := 8) hx hb hts hi_X4 hown hK hP 0 rfl rfl 2 (by decide) (hts _ (List.mem_of_getElem? (i := 2) rfl)) (fun _ h9 => h9) rfl dX4_sortBy_32 ?_
              refine lv_iload hx hb dX4_sortBy_35 (lv_at hl 6 rfl) ?_
              refine lv_iconst (v := 1) hx hb dX4_sortBy_37 (by decide) ?_
              refine lv_isub hx hb dX4_sortBy_38 ?_
              obtain ⟨hi_2118, h⟩ := og h
              refine va_iald hx hb hK hP 2 0 rfl rfl hi_2118 dX4_sortBy_39 ?_
              refine lv_iload hx hb dX4_sortBy_40 (lv_at hl 5 rfl) ?_
              refine lv_icmp_le (tgt := 83) hx hb dX4_sortBy_42 (by decide) (fun c_2119 => ?_) (fun c_2119 => ?_)
              · replace h := op c_2119 h
                have ho := Option.some.inj h
                subst ho
                exact K H _ ls hP hD hS (lv_sub hl [0, 1, 2, 3, 4, 5, 6] rfl)
              · replace h := on c_2119 h
                refine lv_aload_n hx hb dX4_sortBy_45 rfl (lv_at hl 0 rfl) ?_
                refine va_get (D := (dC, dI)) (ci := 2) (v := .ref q_keys) (C := RX4) (T := TX4) (N := 8) hx hb hts hi_X4 hown hK hP 0 rfl rfl 2 (by decide) (hts _ (List.mem_of_getElem? (i := 2) rfl)) (fun _ h9 => h9) rfl dX4_sortBy_46 ?_
                refine lv_iload hx hb dX4_sortBy_49 (lv_at hl 6 rfl) ?_
                refine lv_aload_n hx hb dX4_sortBy_51 rfl (lv_at hl 0 rfl) ?_
                refine va_get (D := (dC, dI)) (ci := 2) (v := .ref q_keys) (C := RX4) (T := TX4) (N := 8) hx hb hts hi_X4 hown hK hP 0 rfl rfl 2 (by decide) (hts _ (List.mem_of_getElem? (i := 2) rfl)) (fun _ h9 => h9) rfl dX4_sortBy_52 ?_
                refine lv_iload hx hb dX4_sortBy_55 (lv_at hl 6 rfl) ?_
                refine lv_iconst (v := 1) hx hb dX4_sortBy_57 (by decide) ?_
                refine lv_isub hx hb dX4_sortBy_58 ?_
                obtain ⟨hi_2120, h⟩ := og h
                refine va_iald hx hb hK hP 2 0 rfl rfl hi_2120 dX4_sortBy_59 ?_
                obtain ⟨hi_2121, h⟩ := og h
                refine va_iast hx hb hK hP hD hS 2 0 rfl rfl hi_2121 dX4_sortBy_60 (fun H locs hP hD hS => ?_)
                replace hP : va_P (dC, dI) vwCl [(h0, .inr (2, [.ref q_line, .ref q_before, .ref q_keys, .ref q_tags, .ref q_cells, .ref q_unlike, .int v_rows, .int v_proper])), (q_line, .inl (cI, 16, .inl v_line_26)), (q_keys, .inl (cI, 16, .inl (upd v_keys_26 (x6_26).toNatClampNeg (v_keys_26 ((x6_26 - (1 : Int32))).toNatClampNeg)))), (q_p1, .inr (1, [.ref q_p1_columns, .int v_p1_size])), (q_p1_columns, .inl (cI, 6, .inl v_p1_columns)), (q_p2, .inr (4, [.ref q_p2_distinct, .ref q_p2_ranks, .ref q_p2_weights, .ref q_p2_isFirst])), (q_p2_ranks, .inl (cI, 96, .inl v_p2_ranks))] H := hP
                replace hD : va_D A [(h0, .inr (2, [.ref q_line, .ref q_before, .ref q_keys, .ref q_tags, .ref q_cells, .ref q_unlike, .int v_rows, .int v_proper])), (q_line, .inl (cI, 16, .inl v_line_26)), (q_keys, .inl (cI, 16, .inl (upd v_keys_26 (x6_26).toNatClampNeg (v_keys_26 ((x6_26 - (1 : Int32))).toNatClampNeg)))), (q_p1, .inr (1, [.ref q_p1_columns, .int v_p1_size])), (q_p1_columns, .inl (cI, 6, .inl v_p1_columns)), (q_p2, .inr (4, [.ref q_p2_distinct, .ref q_p2_ranks, .ref q_p2_weights, .ref q_p2_isFirst])), (q_p2_ranks, .inl (cI, 96, .inl v_p2_ranks))] := hD
                refine lv_aload_n hx hb dX4_sortBy_61 rfl (lv_at hl 0 rfl) ?_
                refine va_get (D := (dC, dI)) (ci := 2) (v := .ref q_line) (C := RX4) (T := TX4) (N := 8) hx hb hts hi_X4 hown hK hP 0 rfl rfl 0 (by decide) (hts _ (List.mem_of_getElem? (i := 3) rfl)) (fun _ h9 => h9) rfl dX4_sortBy_62 ?_
                refine lv_iload hx hb dX4_sortBy_65 (lv_at hl 6 rfl) ?_
                refine lv_aload_n hx hb dX4_sortBy_67 rfl (lv_at hl 0 rfl) ?_
                refine va_get (D := (dC, dI)) (ci := 2) (v := .ref q_line) (C := RX4) (T := TX4) (N := 8) hx hb hts hi_X4 hown hK hP 0 rfl rfl 0 (by decide) (hts _ (List.mem_of_getElem? (i := 3) rfl)) (fun _ h9 => h9) rfl dX4_sortBy_68 ?_
                refine lv_iload hx hb dX4_sortBy_71 (lv_at hl 6 rfl) ?_
                refine lv_iconst (v := 1) hx hb dX4_sortBy_73 (by decide) ?_
                refine lv_isub hx hb dX4_sortBy_74 ?_
                obtain ⟨hi_2122, h⟩ := og h
                refine va_iald hx hb hK hP 1 0 rfl rfl hi_2122 dX4_sortBy_75 ?_
                obtain ⟨hi_2123, h⟩ := og h
                refine va_iast hx hb hK hP hD hS 1 0 rfl rfl hi_2123 dX4_sortBy_76 (fun H locs hP hD hS => ?_)
                replace hP : va_P (dC, dI) vwCl [(h0, .inr (2, [.ref q_line, .ref q_before, .ref q_keys, .ref q_tags, .ref q_cells, .ref q_unlike, .int v_rows, .int v_proper])), (q_line, .inl (cI, 16, .inl (upd v_line_26 (x6_26).toNatClampNeg (v_line_26 ((x6_26 - (1 : Int32))).toNatClampNeg)))), (q_keys, .inl (cI, 16, .inl (upd v_keys_26 (x6_26).toNatClampNeg (v_keys_26 ((x6_26 - (1 : Int32))).toNatClampNeg)))), (q_p1, .inr (1, [.ref q_p1_columns, .int v_p1_size])), (q_p1_columns, .inl (cI, 6, .inl v_p1_columns)), (q_p2, .inr (4, [.ref q_p2_distinct, .ref q_p2_ranks, .ref q_p2_weights, .ref q_p2_isFirst])), (q_p2_ranks, .inl (cI, 96, .inl v_p2_ranks))] H := hP
                replace hD : va_D A [(h0, .inr (2, [.ref q_line, .ref q_before, .ref q_keys, .ref q_tags, .ref q_cells, .ref q_unlike, .int v_rows, .int v_proper])), (q_line, .inl (cI, 16, .inl (upd v_line_26 (x6_26).toNatClampNeg (v_line_26 ((x6_26 - (1 : Int32))).toNatClampNeg)))), (q_keys, .inl (cI, 16, .inl (upd v_keys_26 (x6_26).toNatClampNeg (v_keys_26 ((x6_26 - (1 : Int32))).toNatClampNeg)))), (q_p1, .inr (1, [.ref q_p1_columns, .int v_p1_size])), (q_p1_columns, .inl (cI, 6, .inl v_p1_columns)), (q_p2, .inr (4, [.ref q_p2_distinct, .ref q_p2_ranks, .ref q_p2_weights, .ref q_p2_isFirst])), (q_p2_ranks, .inl (cI, 96, .inl v_p2_ranks))] := hD
                refine lv_iinc (v := (x6_26 + (-1))) (lv' := [(6, .int (x6_26 + (-1))), (0, .ref h0), (1, .ref q_p1), (2, .ref q_p2), (3, .int x3), (4, .int x4_3), (5, .int o_2115)]) hx hb dX4_sortBy_77 hl (k := 6) rfl (by rfl) (by decide) rfl (fun ls hl => ?_)
                refine lv_goto (tgt := 26) hx hb dX4_sortBy_80 (by decide) ?_
                exact ih (x6_26 + (-1)) (upd v_line_26 (x6_26).toNatClampNeg (v_line_26 ((x6_26 - (1 : Int32))).toNatClampNeg)) (upd v_keys_26 (x6_26).toNatClampNeg (v_keys_26 ((x6_26 - (1 : Int32))).toNatClampNeg)) w H _ ls h hP hD hS (lv_sub hl [1, 2, 3, 4, 5, 6, 0] rfl) K
        obtain ⟨w_2124, hw_2124, h⟩ := ob h
        refine LP_2124 fu x4_3 v_line_3 v_keys_3 w_2124 H _ ls hw_2124 hP hD hS (lv_sub hl [2, 3, 4, 5, 6, 1, 0] rfl) (fun H locs ls hP hD hS hl => ?_)
        refine lv_aload_n hx hb dX4_sortBy_83 rfl (lv_at hl 0 rfl) ?_
        refine va_get (D := (dC, dI)) (ci := 2) (v := .ref q_keys) (C := RX4) (T := TX4) (N := 8) hx hb hts hi_X4 hown hK hP 0 rfl rfl 2 (by decide) (hts _ (List.mem_of_getElem? (i := 2) rfl)) (fun _ h9 => h9) rfl dX4_sortBy_84 ?_
        refine lv_iload hx hb dX4_sortBy_87 (lv_at hl 6 rfl) ?_
        refine lv_iload hx hb dX4_sortBy_89 (lv_at hl 5 rfl) ?_
        obtain ⟨hi_2125, h⟩ := og h
        refine va_iast hx hb hK hP hD hS 2 0 rfl rfl hi_2125 dX4_sortBy_91 (fun H locs hP hD hS => ?_)
        replace hP : va_P (dC, dI) vwCl [(h0, .inr (2, [.ref q_line, .ref q_before, .ref q_keys, .ref q_tags, .ref q_cells, .ref q_unlike, .int v_rows, .int v_proper])), (q_line, .inl (cI, 16, .inl w_2124.2.1)), (q_keys, .inl (cI, 16, .inl (upd w_2124.2.2 (w_2124.1).toNatClampNeg o_2115))), (q_p1, .inr (1, [.ref q_p1_columns, .int v_p1_size])), (q_p1_columns, .inl (cI, 6, .inl v_p1_columns)), (q_p2, .inr (4, [.ref q_p2_distinct, .ref q_p2_ranks, .ref q_p2_weights, .ref q_p2_isFirst])), (q_p2_ranks, .inl (cI, 96, .inl v_p2_ranks))] H := hP
        replace hD : va_D A [(h0, .inr (2, [.ref q_line, .ref q_before, .ref q_keys, .ref q_tags, .ref q_cells, .ref q_unlike, .int v_rows, .int v_proper])), (q_line, .inl (cI, 16, .inl w_2124.2.1)), (q_keys, .inl (cI, 16, .inl (upd w_2124.2.2 (w_2124.1).toNatClampNeg o_2115))), (q_p1, .inr (1, [.ref q_p1_columns, .int v_p1_size])), (q_p1_columns, .inl (cI, 6, .inl v_p1_columns)), (q_p2, .inr (4, [.ref q_p2_distinct, .ref q_p2_ranks, .ref q_p2_weights, .ref q_p2_isFirst])), (q_p2_ranks, .inl (cI, 96, .inl v_p2_ranks))] := hD
        refine lv_aload_n hx hb dX4_sortBy_92 rfl (lv_at hl 0 rfl) ?_
        refine va_get (D := (dC, dI)) (ci := 2) (v := .ref q_line) (C := RX4) (T := TX4) (N := 8) hx hb hts hi_X4 hown hK hP 0 rfl rfl 0 (by decide) (hts _ (List.mem_of_getElem? (i := 3) rfl)) (fun _ h9 => h9) rfl dX4_sortBy_93 ?_
        refine lv_iload hx hb dX4_sortBy_96 (lv_at hl 6 rfl) ?_
        refine lv_iload hx hb dX4_sortBy_98 (lv_at hl 4 rfl) ?_
        obtain ⟨hi_2126, h⟩ := og h
        refine va_iast hx hb hK hP hD hS 1 0 rfl rfl hi_2126 dX4_sortBy_100 (fun H locs hP hD hS => ?_)
        replace hP : va_P (dC, dI) vwCl [(h0, .inr (2, [.ref q_line, .ref q_before, .ref q_keys, .ref q_tags, .ref q_cells, .ref q_unlike, .int v_rows, .int v_proper])), (q_line, .inl (cI, 16, .inl (upd w_2124.2.1 (w_2124.1).toNatClampNeg x4_3))), (q_keys, .inl (cI, 16, .inl (upd w_2124.2.2 (w_2124.1).toNatClampNeg o_2115))), (q_p1, .inr (1, [.ref q_p1_columns, .int v_p1_size])), (q_p1_columns, .inl (cI, 6, .inl v_p1_columns)), (q_p2, .inr (4, [.ref q_p2_distinct, .ref q_p2_ranks, .ref q_p2_weights, .ref q_p2_isFirst])), (q_p2_ranks, .inl (cI, 96, .inl v_p2_ranks))] H := hP
        replace hD : va_D A [(h0, .inr (2, [.ref q_line, .ref q_before, .ref q_keys, .ref q_tags, .ref q_cells, .ref q_unlike, .int v_rows, .int v_proper])), (q_line, .inl (cI, 16, .inl (upd w_2124.2.1 (w_2124.1).toNatClampNeg x4_3))), (q_keys, .inl (cI, 16, .inl (upd w_2124.2.2 (w_2124.1).toNatClampNeg o_2115))), (q_p1, .inr (1, [.ref q_p1_columns, .int v_p1_size])), (q_p1_columns, .inl (cI, 6, .inl v_p1_columns)), (q_p2, .inr (4, [.ref q_p2_distinct, .ref q_p2_ranks, .ref q_p2_weights, .ref q_p2_isFirst])), (q_p2_ranks, .inl (cI, 96, .inl v_p2_ranks))] := hD
        refine lv_iinc (v := (x4_3 + 1)) (lv' := [(4, .int (x4_3 + 1)), (0, .ref h0), (1, .ref q_p1), (2, .ref q_p2), (3, .int x3), (5, .int o_2115), (6, .int w_2124.1)]) hx hb dX4_sortBy_101 hl (k := 4) rfl (by rfl) (by decide) rfl (fun ls hl => ?_)
        refine lv_goto (tgt := 3) hx hb dX4_sortBy_104 (by decide) ?_
        exact ih (x4_3 + 1) (upd w_2124.2.1 (w_2124.1).toNatClampNeg x4_3) (upd w_2124.2.2 (w_2124.1).toNatClampNeg o_2115) w H _ ls h hP hD hS (lv_sub hl [1, 2, 3, 4, 0] rfl) K
  obtain ⟨w_2127, hw_2127, h⟩ := ob h
  refine LP_2127 fu (0 : Int32) v_line v_keys w_2127 s.heap _ ls hw_2127 hP hD hS (lv_sub hl [1, 2, 3, 4, 0] rfl) (fun H locs ls hP hD hS hl => ?_)
  rw [hQQ]
  have ho := Option.some.inj h
  subst ho
  exact W.vret hx hb hr (fun t ht hW => ⟨⟨(), rfl, trivial, by rw [ht]; exact hP, va_K.moved hW.alike hK, hD⟩, hS.F ht⟩) hS.2.2 dX4_sortBy_107
def L_X4_mostAlike_7 (v_line : (Nat → Int32)) (v_unlike : (Nat → Int32)) (x1 : Int32) (x2 : Int32) : Nat → Int32 → Int32 → Option Int32
  | 0, _, _ => none
  | n+1, x3_7, x4_7 => (if x2 ≤ x4_7 then (some x3_7) else ((f_X4_unlikeAt v_line v_unlike (x1 - (1 : Int32)) x4_7).bind (fun o_2129 => ((f_X4_unlikeAt v_line v_unlike (x1 - (1 : Int32)) x3_7).bind (fun o_2131 => (if o_2131 ≤ o_2129 then (L_X4_mostAlike_7 v_line v_unlike x1 x2 n x3_7 (x4_7 + 1)) else (L_X4_mostAlike_7 v_line v_unlike x1 x2 n x4_7 (x4_7 + 1))))))))
def f_X4_mostAlike (v_line : Nat → Int32) (v_unlike : Nat → Int32) (x1 : Int32) (x2 : Int32) : Option Int32 :=
  ((L_X4_mostAlike_7 v_line v_unlike x1 x2 fu x1 (x1 + (1 : Int32))).bind (fun w_2134 => (some w_2134)))
abbrev rm_X4_mostAlike : Room := { frames := 1, cells := 0, slots := 0, locals := 22 }
set_option maxHeartbeats 4000000 in
set_option maxRecDepth 100000 in
theorem c_X4_mostAlike (l : Launch) (dC : Nat → ClassId) (dI : Nat → Nat → Nat) (cB cC cI cJ cZ cT : ClassId) (h0 q_line q_before q_keys q_tags q_cells q_unlike : Nat) (v_rows : Int32) (v_proper : Int32) (v_line : Nat → Int32) (v_unlike : Nat → Int32) (x1 : Int32) (x2 : Int32) (o : Int32) (hf : f_X4_mostAlike v_line v_unlike x1 x2 = some o) : Met l yX4_mostAlike wsX4_mostAlike rm_X4_mostAlike (va_Pc [.ref h0, .int x1, .int x2] (fun U => va_P (dC, dI) vwCl [(h0, .inr (2, [.ref q_line, .ref q_before, .ref q_keys, .ref q_tags, .ref q_cells, .ref q_unlike, .int v_rows, .int v_proper])), (q_line, .inl (cI, 16, .inl v_line)), (q_unlike, .inl (cI, 256, .inl v_unlike))] U.heap ∧ va_K (dC, dI) vwCl (tyA cB cC cI cJ cZ cT) U)) (vp_Si (fun r => o = r)) 0 0 (fun _ => False) := by
  refine Met.ofW (cc := cX4_mostAlike) (maxL := 5) (ret := (some .int)) (by decide +kernel) rfl ?_
  intro p e s m args below meth c s₁ B hml hv
  obtain ⟨hav, hP, hK⟩ := hv
  have hx := B.exec
  have hb := B.bytes
  have hr := B.returns
  have hts := atoms_spec (ws := wsX4_mostAlike) B.pre
  have hown : s.vm.findClass RX4 = some m.cls := findClass_of_methodNamed B.named
  have hlocks := B.notSynchronized
  refine wstart (rm := rm_X4_mostAlike) hav (Nat.le_of_ble_eq_true rfl) (fun QQ ls hQQ hl => ?_)
  have hl : lv_has ls 5 [(0, .ref h0), (1, .int x1), (2, .int x2)] := hl
  have h := hf
  unfold f_X4_mostAlike at h
  refine lv_iload_n hx hb dX4_mostAlike_0 rfl (lv_at hl 1 rfl) ?_
  refine lv_istore_n (lv' := [(3, .int x1), (0, .ref h0), (1, .int x1), (2, .int x2)]) hx hb dX4_mostAlike_1 rfl hl (by decide) rfl (fun ls hl => ?_)
  refine lv_iload_n hx hb dX4_mostAlike_2 rfl (lv_at hl 2 rfl) ?_
  refine lv_iconst (v := 1) hx hb dX4_mostAlike_3 (by decide) ?_
  refine lv_iadd hx hb dX4_mostAlike_4 ?_
  refine lv_istore (lv' := [(4, .int (x1 + (1 : Int32))), (3, .int x1), (0, .ref h0), (1, .int x1), (2, .int x2)]) hx hb dX4_mostAlike_5 hl (by decide) rfl (fun ls hl => ?_)
  have LP_2134 : ∀ (n : Nat) (x3_7 : Int32) (x4_7 : Int32) (w : Int32) (ls : Array Slot), L_X4_mostAlike_7 v_line v_unlike x1 x2 n x3_7 x4_7 = some w → lv_has ls 5 [(0, .ref h0), (1, .int x1), (2, .int x2), (3, .int x3_7), (4, .int x4_7)] → (∀ (ls : Array Slot), lv_has ls 5 [(3, .int w)] → W p l e rm_X4_mostAlike s m args below meth c s.heap [] 0 0 QQ (F0 m 42 ls [])) → W p l e rm_X4_mostAlike s m args below meth c s.heap [] 0 0 QQ (F0 m 7 ls []) := by
    intro n
    induction n with
    | zero => intro x3_7 x4_7 w ls h; exact absurd (show none = some w from h) nofun
    | succ n ih =>
      intro x3_7 x4_7 w ls h hl K
      rw [L_X4_mostAlike_7] at h
      refine lv_iload hx hb dX4_mostAlike_7 (lv_at hl 4 rfl) ?_
      refine lv_iload_n hx hb dX4_mostAlike_9 rfl (lv_at hl 2 rfl) ?_
      refine lv_icmp_ge (tgt := 42) hx hb dX4_mostAlike_10 (by decide) (fun c_2128 => ?_) (fun c_2128 => ?_)
      · replace h := op c_2128 h
        have ho := Option.some.inj h
        subst ho
        exact K ls (lv_sub hl [3] rfl)
      · replace h := on c_2128 h
        refine lv_aload_n hx hb dX4_mostAlike_13 rfl (lv_at hl 0 rfl) ?_
        refine lv_iload_n hx hb dX4_mostAlike_14 rfl (lv_at hl 1 rfl) ?_
        refine lv_iconst (v := 1) hx hb dX4_mostAlike_15 (by decide) ?_
        refine lv_isub hx hb dX4_mostAlike_16 ?_
        refine lv_iload hx hb dX4_mostAlike_17 (lv_at hl 4 rfl) ?_
        obtain ⟨o_2129, hr_2129, h⟩ := ob h
        refine vp_callSi (va_Run.run (va_runV (As := [.int (x1 - (1 : Int32)), .int x4_7]) (rest := []) ⟨hx, hb, hml, hown, hts⟩ (c_X4_unlikeAt l dC dI cB cC cI cJ cZ cT h0 q_line q_before q_keys q_tags q_cells q_unlike v_rows v_proper v_line v_unlike (x1 - (1 : Int32)) x4_7 o_2129 hr_2129) (cwV 2 hts gX4_mostAlike_X4_unlikeAt rfl rfl rfl (by decide +kernel) ⟨Nat.le_of_ble_eq_true rfl, Nat.le_of_ble_eq_true rfl⟩) ⟨blR, va_recv hK hP (ci := 2) (q0 := 0) rfl rfl, fun U hU hW => ⟨rfl, by rw [hU]; exact hP.sub [0, 1, 2] rfl, va_K.moved hW.alike hK⟩⟩ rfl rfl hl.1 rfl (lv_room (Nat.le_of_ble_eq_true rfl)) dX4_mostAlike_19 ⟨Nat.le_of_ble_eq_true rfl, Nat.le_of_ble_eq_true rfl⟩)) (fun r_2129 e_2129 => ?_)
        subst e_2129
        refine lv_aload_n hx hb dX4_mostAlike_22 rfl (lv_at hl 0 rfl) ?_
        refine lv_iload_n hx hb dX4_mostAlike_23 rfl (lv_at hl 1 rfl) ?_
        refine lv_iconst (v := 1) hx hb dX4_mostAlike_24 (by decide) ?_
        refine lv_isub hx hb dX4_mostAlike_25 ?_
        refine lv_iload_n hx hb dX4_mostAlike_26 rfl (lv_at hl 3 rfl) ?_
        obtain ⟨o_2131, hr_2131, h⟩ := ob h
        refine vp_callSi (va_Run.run (va_runV (As := [.int (x1 - (1 : Int32)), .int x3_7]) (rest := [.int o_2129]) ⟨hx, hb, hml, hown, hts⟩ (c_X4_unlikeAt l dC dI cB cC cI cJ cZ cT h0 q_line q_before q_keys q_tags q_cells q_unlike v_rows v_proper v_line v_unlike (x1 - (1 : Int32)) x3_7 o_2131 hr_2131) (cwV 2 hts gX4_mostAlike_X4_unlikeAt rfl rfl rfl (by decide +kernel) ⟨Nat.le_of_ble_eq_true rfl, Nat.le_of_ble_eq_true rfl⟩) ⟨blR, va_recv hK hP (ci := 2) (q0 := 0) rfl rfl, fun U hU hW => ⟨rfl, by rw [hU]; exact hP.sub [0, 1, 2] rfl, va_K.moved hW.alike hK⟩⟩ rfl rfl hl.1 rfl (lv_room (Nat.le_of_ble_eq_true rfl)) dX4_mostAlike_27 ⟨Nat.le_of_ble_eq_true rfl, Nat.le_of_ble_eq_true rfl⟩)) (fun r_2131 e_2131 => ?_)
        subst e_2131
        refine lv_icmp_ge (tgt := 36) hx hb dX4_mostAlike_30 (by decide) (fun c_2133 => ?_) (fun c_2133 => ?_)
        · replace h := op c_2133 h
          refine lv_iinc (v := (x4_7 + 1)) (lv' := [(4, .int (x4_7 + 1)), (0, .ref h0), (1, .int x1), (2, .int x2), (3, .int x3_7)]) hx hb dX4_mostAlike_36 hl (k := 4) rfl (by rfl) (by decide) rfl (fun ls hl => ?_)
          refine lv_goto (tgt := 7) hx hb dX4_mostAlike_39 (by decide) ?_
          exact ih x3_7 (x4_7 + 1) w ls h (lv_sub hl [1, 2, 3, 4, 0] rfl) K
        · replace h := on c_2133 h
          refine lv_iload hx hb dX4_mostAlike_33 (lv_at hl 4 rfl) ?_
          refine lv_istore_n (lv' := [(3, .int x4_7), (0, .ref h0), (1, .int x1), (2, .int x2), (4, .int x4_7)]) hx hb dX4_mostAlike_35 rfl hl (by decide) rfl (fun ls hl => ?_)
          refine lv_iinc (v := (x4_7 + 1)) (lv' := [(4, .int (x4_7 + 1)), (3, .int x4_7), (0, .ref h0), (1, .int x1), (2, .int x2)]) hx hb dX4_mostAlike_36 hl (k := 4) rfl (by rfl) (by decide) rfl (fun ls hl => ?_)
          refine lv_goto (tgt := 7) hx hb dX4_mostAlike_39 (by decide) ?_
          exact ih x4_7 (x4_7 + 1) w ls h (lv_sub hl [2, 3, 4, 1, 0] rfl) K
  obtain ⟨w_2134, hw_2134, h⟩ := ob h
  refine LP_2134 fu x1 (x1 + (1 : Int32)) w_2134 ls hw_2134 (lv_sub hl [2, 3, 4, 1, 0] rfl) (fun ls hl => ?_)
  refine lv_iload_n hx hb dX4_mostAlike_42 rfl (lv_at hl 0 rfl) ?_
  rw [hQQ]
  exact W.iret hx hb hr (fun t ht hW => ⟨_, rfl, (Option.some.inj h).symm, ht⟩) (fun q hq => absurd hq List.not_mem_nil) dX4_mostAlike_43
def L_X4_tourBlock_26 (v_unlike : (Nat → Int32)) (x2 : Int32) : Nat → Int32 → (Nat → Int32) → Option (Nat → Int32)
  | 0, _, _ => none
  | n+1, x4_26, v_line_26 => (if x2 ≤ x4_26 then (some v_line_26) else ((f_X4_mostAlike v_line_26 v_unlike x4_26 x2).bind (fun o_2139 => ((f_X4_shift v_line_26 o_2139 x4_26).bind (fun o_2141 => (L_X4_tourBlock_26 v_unlike x2 n (x4_26 + 1) o_2141))))))
def f_X4_tourBlock (v_rows : Int32) (v_proper : Int32) (v_line : Nat → Int32) (v_before : Nat → Int32) (v_unlike : Nat → Int32) (x1 : Int32) (x2 : Int32) : Option (Bool × (Nat → Int32) × (Nat → Int32)) :=
  ((f_X4_runsOfLine v_rows v_proper v_line v_unlike).bind (fun o_2135 => (if x1 < 0 ∨ x1 < 0 ∨ (x2 - x1) < 0 ∨ 16 < (x1).toNatClampNeg + ((x2 - x1)).toNatClampNeg ∨ 16 < (x1).toNatClampNeg + ((x2 - x1)).toNatClampNeg then none else ((L_X4_tourBlock_26 v_unlike x2 fu (x1 + (1 : Int32)) v_line).bind (fun w_2143 => ((f_X4_runsOfLine v_rows v_proper w_2143 v_unlike).bind (fun o_2144 => (if o_2135 ≤ o_2144 then (if x1 < 0 ∨ x1 < 0 ∨ (x2 - x1) < 0 ∨ 16 < (x1).toNatClampNeg + ((x2 - x1)).toNatClampNeg ∨ 16 < (x1).toNatClampNeg + ((x2 - x1)).toNatClampNeg then none else (some (false, (va_cpy (va_cpy v_line v_before (x1).toNatClampNeg (x1).toNatClampNeg ((x2 - x1)).toNatClampNeg) w_2143 (x1).toNatClampNeg (x1).toNatClampNeg ((x2 - x1)).toNatClampNeg), (va_cpy v_line v_before (x1).toNatClampNeg (x1).toNatClampNeg ((x2 - x1)).toNatClampNeg)))) else (some (true, w_2143, (va_cpy v_line v_before (x1).toNatClampNeg (x1).toNatClampNeg ((x2 - x1)).toNatClampNeg)))))))))))
abbrev rm_X4_tourBlock : Room := { frames := 2, cells := 0, slots := 0, locals := 46 }
set_option maxHeartbeats 4000000 in
set_option maxRecDepth 100000 in
theorem c_X4_tourBlock (l : Launch) (dC : Nat → ClassId) (dI : Nat → Nat → Nat) (cB cC cI cJ cZ cT : ClassId) (h0 q_line q_before q_keys q_tags q_cells q_unlike : Nat) (sz : Nat) (v_rows : Int32) (v_proper : Int32) (v_line : Nat → Int32) (v_before : Nat → Int32) (v_unlike : Nat → Int32) (x1 : Int32) (x2 : Int32) (o : (Bool × (Nat → Int32) × (Nat → Int32))) (hf : f_X4_tourBlock v_rows v_proper v_line v_before v_unlike x1 x2 = some o) : Met l yX4_tourBlock wsX4_tourBlock rm_X4_tourBlock (va_Pc [.ref h0, .int x1, .int x2] (fun U => U.heap.size = sz ∧ va_P (dC, dI) vwCl [(h0, .inr (2, [.ref q_line, .ref q_before, .ref q_keys, .ref q_tags, .ref q_cells, .ref q_unlike, .int v_rows, .int v_proper])), (q_line, .inl (cI, 16, .inl v_line)), (q_before, .inl (cI, 16, .inl v_before)), (q_unlike, .inl (cI, 256, .inl v_unlike))] U.heap ∧ va_K (dC, dI) vwCl (tyA cB cC cI cJ cZ cT) U ∧ va_D (fun _ => True) [(h0, .inr (2, [.ref q_line, .ref q_before, .ref q_keys, .ref q_tags, .ref q_cells, .ref q_unlike, .int v_rows, .int v_proper])), (q_line, .inl (cI, 16, .inl v_line)), (q_before, .inl (cI, 16, .inl v_before)), (q_unlike, .inl (cI, 256, .inl v_unlike))])) (va_Qi (fun (r : Int32) (_ : Unit) => b2i o.1 = r) (fun _ t => va_P (dC, dI) vwCl [(h0, .inr (2, [.ref q_line, .ref q_before, .ref q_keys, .ref q_tags, .ref q_cells, .ref q_unlike, .int v_rows, .int v_proper])), (q_line, .inl (cI, 16, .inl o.2.1)), (q_before, .inl (cI, 16, .inl o.2.2)), (q_unlike, .inl (cI, 256, .inl v_unlike))] t.heap ∧ va_K (dC, dI) vwCl (tyA cB cC cI cJ cZ cT) t ∧ va_D (va_A [(h0, .inr (2, [.ref q_line, .ref q_before, .ref q_keys, .ref q_tags, .ref q_cells, .ref q_unlike, .int v_rows, .int v_proper])), (q_line, .inl (cI, 16, .inl v_line)), (q_before, .inl (cI, 16, .inl v_before)), (q_unlike, .inl (cI, 256, .inl v_unlike))] sz) [(h0, .inr (2, [.ref q_line, .ref q_before, .ref q_keys, .ref q_tags, .ref q_cells, .ref q_unlike, .int v_rows, .int v_proper])), (q_line, .inl (cI, 16, .inl o.2.1)), (q_before, .inl (cI, 16, .inl o.2.2)), (q_unlike, .inl (cI, 256, .inl v_unlike))]) (va_A [(h0, .inr (2, [.ref q_line, .ref q_before, .ref q_keys, .ref q_tags, .ref q_cells, .ref q_unlike, .int v_rows, .int v_proper])), (q_line, .inl (cI, 16, .inl v_line)), (q_before, .inl (cI, 16, .inl v_before)), (q_unlike, .inl (cI, 256, .inl v_unlike))] sz)) 0 0 (va_A [(h0, .inr (2, [.ref q_line, .ref q_before, .ref q_keys, .ref q_tags, .ref q_cells, .ref q_unlike, .int v_rows, .int v_proper])), (q_line, .inl (cI, 16, .inl v_line)), (q_before, .inl (cI, 16, .inl v_before)), (q_unlike, .inl (cI, 256, .inl v_unlike))] sz) := by
  refine Met.ofW (cc := cX4_tourBlock) (maxL := 5) (ret := (some .boolean)) (by decide +kernel) rfl ?_
  intro p e s m args below meth c s₁ B hml hv
  obtain ⟨hav, hsz, hP, hK, hD0⟩ := hv
  have hx := B.exec
  have hb := B.bytes
  have hr := B.returns
  have hts := atoms_spec (ws := wsX4_tourBlock) B.pre
  have hown : s.vm.findClass RX4 = some m.cls := findClass_of_methodNamed B.named
  have hlocks := B.notSynchronized
  subst hsz
  have hD := hD0.self (sz := s.heap.size)
  generalize hAe : va_A [(h0, .inr (2, [.ref q_line, .ref q_before, .ref q_keys, .ref q_tags, .ref q_cells, .ref q_unlike, .int v_rows, .int v_proper])), (q_line, .inl (cI, 16, .inl v_line)), (q_before, .inl (cI, 16, .inl v_before)), (q_unlike, .inl (cI, 256, .inl v_unlike))] s.heap.size = A at hD ⊢
  have hA : ∀ q : Nat, s.heap.size ≤ q → A q := fun q h => by rw [← hAe]; exact Or.inr h
  have hS : va_S A s.heap s.heap [] := va_S.rf
  refine wstart (rm := rm_X4_tourBlock) hav (Nat.le_of_ble_eq_true rfl) (fun QQ ls hQQ hl => ?_)
  have hl : lv_has ls 5 [(0, .ref h0), (1, .int x1), (2, .int x2)] := hl
  have hi_X4 : ∀ w ∈ u_ws RX4 TX4 8, w ∈ wsX4_tourBlock := by decide +kernel
  have h := hf
  unfold f_X4_tourBlock at h
  refine lv_aload_n hx hb dX4_tourBlock_0 rfl (lv_at hl 0 rfl) ?_
  obtain ⟨o_2135, hr_2135, h⟩ := ob h
  refine vp_callSi (va_Run.run (va_runV (As := []) (rest := []) ⟨hx, hb, hml, hown, hts⟩ (c_X4_runsOfLine l dC dI cB cC cI cJ cZ cT h0 q_line q_before q_keys q_tags q_cells q_unlike v_rows v_proper v_line v_unlike o_2135 hr_2135) (cwV 0 hts gX4_tourBlock_X4_runsOfLine rfl rfl rfl (by decide +kernel) ⟨Nat.le_of_ble_eq_true rfl, Nat.le_of_ble_eq_true rfl⟩) ⟨blR, va_recv hK hP (ci := 2) (q0 := 0) rfl rfl, fun U hU hW => ⟨rfl, by rw [hU]; exact hP.sub [0, 1, 3] rfl, va_K.moved hW.alike hK⟩⟩ rfl rfl hl.1 rfl (lv_room (Nat.le_of_ble_eq_true rfl)) dX4_tourBlock_1 ⟨Nat.le_of_ble_eq_true rfl, Nat.le_of_ble_eq_true rfl⟩)) (fun r_2135 e_2135 => ?_)
  subst e_2135
  refine lv_istore_n (lv' := [(3, .int o_2135), (0, .ref h0), (1, .int x1), (2, .int x2)]) hx hb dX4_tourBlock_4 rfl hl (by decide) rfl (fun ls hl => ?_)
  refine lv_aload_n hx hb dX4_tourBlock_5 rfl (lv_at hl 1 rfl) ?_
  refine va_get (D := (dC, dI)) (ci := 2) (v := .ref q_line) (C := RX4) (T := TX4) (N := 8) hx hb hts hi_X4 hown hK hP 0 rfl rfl 0 (by decide) (hts _ (List.mem_of_getElem? (i := 1) rfl)) (fun _ h9 => h9) rfl dX4_tourBlock_6 ?_
  refine lv_iload_n hx hb dX4_tourBlock_9 rfl (lv_at hl 2 rfl) ?_
  refine lv_aload_n hx hb dX4_tourBlock_10 rfl (lv_at hl 1 rfl) ?_
  refine va_get (D := (dC, dI)) (ci := 2) (v := .ref q_before) (C := RX4) (T := TX4) (N := 8) hx hb hts hi_X4 hown hK hP 0 rfl rfl 1 (by decide) (hts _ (List.mem_of_getElem? (i := 2) rfl)) (fun _ h9 => h9) rfl dX4_tourBlock_11 ?_
  refine lv_iload_n hx hb dX4_tourBlock_14 rfl (lv_at hl 2 rfl) ?_
  refine lv_iload_n hx hb dX4_tourBlock_15 rfl (lv_at hl 3 rfl) ?_
  refine lv_iload_n hx hb dX4_tourBlock_16 rfl (lv_at hl 2 rfl) ?_
  refine lv_isub hx hb dX4_tourBlock_17 ?_
  obtain ⟨hi_2137, h⟩ := og h
  refine va_copyi (ty := .int) hx hb (hml.trans hl.1.symm) hown (hts _ (List.mem_of_getElem? (i := 3) rfl)) (hts _ (List.mem_of_getElem? (i := 4) rfl)) (hts _ (List.mem_of_getElem? (i := 5) rfl)) (hts _ (List.mem_of_getElem? (i := 6) rfl)) hK hP hD hS 1 2 0 0 rfl rfl rfl rfl rfl (fun q => hi_2137 (Or.inl q)) (fun q => hi_2137 (Or.inr (Or.inl q))) (fun q => hi_2137 (Or.inr (Or.inr (Or.inl q)))) (Nat.le_of_not_lt (fun q => hi_2137 (Or.inr (Or.inr (Or.inr (Or.inl q)))))) (Nat.le_of_not_lt (fun q => hi_2137 (Or.inr (Or.inr (Or.inr (Or.inr q)))))) (fun _ _ => rfl) (Nat.le_of_ble_eq_true rfl) (Nat.le_of_ble_eq_true rfl) dX4_tourBlock_18 (fun H locs hP hD hS => ?_)
  replace hP : va_P (dC, dI) vwCl [(h0, .inr (2, [.ref q_line, .ref q_before, .ref q_keys, .ref q_tags, .ref q_cells, .ref q_unlike, .int v_rows, .int v_proper])), (q_line, .inl (cI, 16, .inl v_line)), (q_before, .inl (cI, 16, .inl (va_cpy v_line v_before (x1).toNatClampNeg (x1).toNatClampNeg ((x2 - x1)).toNatClampNeg))), (q_unlike, .inl (cI, 256, .inl v_unlike))] H := hP
  replace hD : va_D A [(h0, .inr (2, [.ref q_line, .ref q_before, .ref q_keys, .ref q_tags, .ref q_cells, .ref q_unlike, .int v_rows, .int v_proper])), (q_line, .inl (cI, 16, .inl v_line)), (q_before, .inl (cI, 16, .inl (va_cpy v_line v_before (x1).toNatClampNeg (x1).toNatClampNeg ((x2 - x1)).toNatClampNeg))), (q_unlike, .inl (cI, 256, .inl v_unlike))] := hD
  refine lv_iload_n hx hb dX4_tourBlock_21 rfl (lv_at hl 2 rfl) ?_
  refine lv_iconst (v := 1) hx hb dX4_tourBlock_22 (by decide) ?_
  refine lv_iadd hx hb dX4_tourBlock_23 ?_
  refine lv_istore (lv' := [(4, .int (x1 + (1 : Int32))), (3, .int o_2135), (0, .ref h0), (1, .int x1), (2, .int x2)]) hx hb dX4_tourBlock_24 hl (by decide) rfl (fun ls hl => ?_)
  have LP_2143 : ∀ (n : Nat) (x4_26 : Int32) (v_line_26 : (Nat → Int32)) (w : (Nat → Int32)) (H : Heap) (locs : List Loc) (ls : Array Slot), L_X4_tourBlock_26 v_unlike x2 n x4_26 v_line_26 = some w → va_P (dC, dI) vwCl [(h0, .inr (2, [.ref q_line, .ref q_before, .ref q_keys, .ref q_tags, .ref q_cells, .ref q_unlike, .int v_rows, .int v_proper])), (q_line, .inl (cI, 16, .inl v_line_26)), (q_before, .inl (cI, 16, .inl (va_cpy v_line v_before (x1).toNatClampNeg (x1).toNatClampNeg ((x2 - x1)).toNatClampNeg))), (q_unlike, .inl (cI, 256, .inl v_unlike))] H → va_D A [(h0, .inr (2, [.ref q_line, .ref q_before, .ref q_keys, .ref q_tags, .ref q_cells, .ref q_unlike, .int v_rows, .int v_proper])), (q_line, .inl (cI, 16, .inl v_line_26)), (q_before, .inl (cI, 16, .inl (va_cpy v_line v_before (x1).toNatClampNeg (x1).toNatClampNeg ((x2 - x1)).toNatClampNeg))), (q_unlike, .inl (cI, 256, .inl v_unlike))] → va_S A s.heap H locs → lv_has ls 5 [(0, .ref h0), (1, .int x1), (2, .int x2), (3, .int o_2135), (4, .int x4_26)] → (∀ (H : Heap) (locs : List Loc) (ls : Array Slot), va_P (dC, dI) vwCl [(h0, .inr (2, [.ref q_line, .ref q_before, .ref q_keys, .ref q_tags, .ref q_cells, .ref q_unlike, .int v_rows, .int v_proper])), (q_line, .inl (cI, 16, .inl w)), (q_before, .inl (cI, 16, .inl (va_cpy v_line v_before (x1).toNatClampNeg (x1).toNatClampNeg ((x2 - x1)).toNatClampNeg))), (q_unlike, .inl (cI, 256, .inl v_unlike))] H → va_D A [(h0, .inr (2, [.ref q_line, .ref q_before, .ref q_keys, .ref q_tags, .ref q_cells, .ref q_unlike, .int v_rows, .int v_proper])), (q_line, .inl (cI, 16, .inl w)), (q_before, .inl (cI, 16, .inl (va_cpy v_line v_before (x1).toNatClampNeg (x1).toNatClampNeg ((x2 - x1)).toNatClampNeg))), (q_unlike, .inl (cI, 256, .inl v_unlike))] → va_S A s.heap H locs → lv_has ls 5 [(0, .ref h0), (1, .int x1), (2, .int x2), (3, .int o_2135)] → W p l e rm_X4_tourBlock s m args below meth c H locs 0 0 QQ (F0 m 51 ls [])) → W p l e rm_X4_tourBlock s m args below meth c H locs 0 0 QQ (F0 m 26 ls []) := by
    intro n
    induction n with
    | zero => intro x4_26 v_line_26 w H locs ls h; exact absurd (show none = some w from h) nofun
    | succ n ih =>
      intro x4_26 v_line_26 w H locs ls h hP hD hS hl K
      rw [L_X4_tourBlock_26] at h
      refine lv_iload hx hb dX4_tourBlock_26 (lv_at hl 4 rfl) ?_
      refine lv_iload_n hx hb dX4_tourBlock_28 rfl (lv_at hl 2 rfl) ?_
      refine lv_icmp_ge (tgt := 51) hx hb dX4_tourBlock_29 (by decide) (fun c_2138 => ?_) (fun c_2138 => ?_)
      · replace h := op c_2138 h
        have ho := Option.some.inj h
        subst ho
        exact K H _ ls hP hD hS (lv_sub hl [0, 1, 2, 3] rfl)
      · replace h := on c_2138 h
        refine lv_aload_n hx hb dX4_tourBlock_32 rfl (lv_at hl 0 rfl) ?_
        refine lv_aload_n hx hb dX4_tourBlock_33 rfl (lv_at hl 0 rfl) ?_
        refine lv_iload hx hb dX4_tourBlock_34 (lv_at hl 4 rfl) ?_
        refine lv_iload_n hx hb dX4_tourBlock_36 rfl (lv_at hl 2 rfl) ?_
        obtain ⟨o_2139, hr_2139, h⟩ := ob h
        refine vp_callSi (va_Run.run (va_runV (As := [.int x4_26, .int x2]) (rest := [.ref h0]) ⟨hx, hb, hml, hown, hts⟩ (c_X4_mostAlike l dC dI cB cC cI cJ cZ cT h0 q_line q_before q_keys q_tags q_cells q_unlike v_rows v_proper v_line_26 v_unlike x4_26 x2 o_2139 hr_2139) (cwV 2 hts gX4_tourBlock_X4_mostAlike rfl rfl rfl (by decide +kernel) ⟨Nat.le_of_ble_eq_true rfl, Nat.le_of_ble_eq_true rfl⟩) ⟨blR, va_recv hK hP (ci := 2) (q0 := 0) rfl rfl, fun U hU hW => ⟨rfl, by rw [hU]; exact hP.sub [0, 1, 3] rfl, va_K.moved hW.alike hK⟩⟩ rfl rfl hl.1 rfl (lv_room (Nat.le_of_ble_eq_true rfl)) dX4_tourBlock_37 ⟨Nat.le_of_ble_eq_true rfl, Nat.le_of_ble_eq_true rfl⟩)) (fun r_2139 e_2139 => ?_)
        subst e_2139
        refine lv_iload hx hb dX4_tourBlock_40 (lv_at hl 4 rfl) ?_
        obtain ⟨o_2141, hr_2141, h⟩ := ob h
        have hPc := hP.sub (ws' := [(h0, .inr (2, [.ref q_line, .ref q_before, .ref q_keys, .ref q_tags, .ref q_cells, .ref q_unlike, .int v_rows, .int v_proper])), (q_line, .inl (cI, 16, .inl v_line_26))]) [0, 1] rfl
        have hDc := hD.sub (ws' := [(h0, .inr (2, [.ref q_line, .ref q_before, .ref q_keys, .ref q_tags, .ref q_cells, .ref q_unlike, .int v_rows, .int v_proper])), (q_line, .inl (cI, 16, .inl v_line_26))]) [0, 1] (by decide) rfl
        have hFc := va_free (wc := [(h0, .inr (2, [.ref q_line, .ref q_before, .ref q_keys, .ref q_tags, .ref q_cells, .ref q_unlike, .int v_rows, .int v_proper])), (q_line, .inl (cI, 16, .inl v_line_26))]) hD hS hA [0, 1] rfl
        refine va_callv (va_runV (As := [.int o_2139, .int x4_26]) (rest := []) ⟨hx, hb, hml, hown, hts⟩ (c_X4_shift l dC dI cB cC cI cJ cZ cT h0 q_line q_before q_keys q_tags q_cells q_unlike H.size v_rows v_proper v_line_26 o_2139 x4_26 o_2141 hr_2141) (cwV 2 hts gX4_tourBlock_X4_shift rfl rfl rfl (by decide +kernel) ⟨Nat.le_of_ble_eq_true rfl, Nat.le_of_ble_eq_true rfl⟩) ⟨blW, va_recv hK hP (ci := 2) (q0 := 0) rfl rfl, fun U hU hW => ⟨rfl, by rw [hU], by rw [hU]; exact hPc, va_K.moved hW.alike hK, hDc.weaken (fun _ _ _ _ => trivial)⟩⟩ rfl rfl hl.1 rfl (lv_room (Nat.le_of_ble_eq_true rfl)) dX4_tourBlock_42 ⟨Nat.le_of_ble_eq_true rfl, Nat.le_of_ble_eq_true rfl⟩) hS (fun q _ h => hFc q h) hFc (fun u_2141 t_2141 H locs ht hvm e_2141 hB hz1 hk1 hS => ?_)
        obtain ⟨hP1, -, hD1⟩ := hB
        rw [ht] at hP1
        obtain ⟨hP, hD⟩ := va_join (wr := [(q_before, .inl (cI, 16, .inl (va_cpy v_line v_before (x1).toNatClampNeg (x1).toNatClampNeg ((x2 - x1)).toNatClampNeg))), (q_unlike, .inl (cI, 256, .inl v_unlike))]) (w1 := [(h0, .inr (2, [.ref q_line, .ref q_before, .ref q_keys, .ref q_tags, .ref q_cells, .ref q_unlike, .int v_rows, .int v_proper])), (q_line, .inl (cI, 16, .inl o_2141))]) hP hD [0, 1] [2, 3] rfl rfl (by decide) (by decide) hk1 hFc hP1 hD1
        replace hP := hP.sub (ws' := [(h0, .inr (2, [.ref q_line, .ref q_before, .ref q_keys, .ref q_tags, .ref q_cells, .ref q_unlike, .int v_rows, .int v_proper])), (q_line, .inl (cI, 16, .inl o_2141)), (q_before, .inl (cI, 16, .inl (va_cpy v_line v_before (x1).toNatClampNeg (x1).toNatClampNeg ((x2 - x1)).toNatClampNeg))), (q_unlike, .inl (cI, 256, .inl v_unlike))]) [2, 3, 0, 1] rfl
        replace hD := hD.sub (ws' := [(h0, .inr (2, [.ref q_line, .ref q_before, .ref q_keys, .ref q_tags, .ref q_cells, .ref q_unlike, .int v_rows, .int v_proper])), (q_line, .inl (cI, 16, .inl o_2141)), (q_before, .inl (cI, 16, .inl (va_cpy v_line v_before (x1).toNatClampNeg (x1).toNatClampNeg ((x2 - x1)).toNatClampNeg))), (q_unlike, .inl (cI, 256, .inl v_unlike))]) [2, 3, 0, 1] (by decide) rfl
        refine lv_iinc (v := (x4_26 + 1)) (lv' := [(4, .int (x4_26 + 1)), (0, .ref h0), (1, .int x1), (2, .int x2), (3, .int o_2135)]) hx hb dX4_tourBlock_45 hl (k := 4) rfl (by rfl) (by decide) rfl (fun ls hl => ?_)
        refine lv_goto (tgt := 26) hx hb dX4_tourBlock_48 (by decide) ?_
        exact ih (x4_26 + 1) o_2141 w H _ ls h hP hD hS (lv_sub hl [1, 2, 3, 4, 0] rfl) K
  obtain ⟨w_2143, hw_2143, h⟩ := ob h
  refine LP_2143 fu (x1 + (1 : Int32)) v_line w_2143 H _ ls hw_2143 hP hD hS (lv_sub hl [2, 3, 4, 1, 0] rfl) (fun H locs ls hP hD hS hl => ?_)
  refine lv_aload_n hx hb dX4_tourBlock_51 rfl (lv_at hl 0 rfl) ?_
  obtain ⟨o_2144, hr_2144, h⟩ := ob h
  refine vp_callSi (va_Run.run (va_runV (As := []) (rest := []) ⟨hx, hb, hml, hown, hts⟩ (c_X4_runsOfLine l dC dI cB cC cI cJ cZ cT h0 q_line q_before q_keys q_tags q_cells q_unlike v_rows v_proper w_2143 v_unlike o_2144 hr_2144) (cwV 0 hts gX4_tourBlock_X4_runsOfLine rfl rfl rfl (by decide +kernel) ⟨Nat.le_of_ble_eq_true rfl, Nat.le_of_ble_eq_true rfl⟩) ⟨blR, va_recv hK hP (ci := 2) (q0 := 0) rfl rfl, fun U hU hW => ⟨rfl, by rw [hU]; exact hP.sub [0, 1, 3] rfl, va_K.moved hW.alike hK⟩⟩ rfl rfl hl.1 rfl (lv_room (Nat.le_of_ble_eq_true rfl)) dX4_tourBlock_52 ⟨Nat.le_of_ble_eq_true rfl, Nat.le_of_ble_eq_true rfl⟩)) (fun r_2144 e_2144 => ?_)
  subst e_2144
  refine lv_iload_n hx hb dX4_tourBlock_55 rfl (lv_at hl 3 rfl) ?_
  refine lv_icmp_ge (tgt := 61) hx hb dX4_tourBlock_56 (by decide) (fun c_2146 => ?_) (fun c_2146 => ?_)
  · replace h := op c_2146 h
    refine lv_aload_n hx hb dX4_tourBlock_61 rfl (lv_at hl 0 rfl) ?_
    refine va_get (D := (dC, dI)) (ci := 2) (v := .ref q_before) (C := RX4) (T := TX4) (N := 8) hx hb hts hi_X4 hown hK hP 0 rfl rfl 1 (by decide) (hts _ (List.mem_of_getElem? (i := 2) rfl)) (fun _ h9 => h9) rfl dX4_tourBlock_62 ?_
    refine lv_iload_n hx hb dX4_tourBlock_65 rfl (lv_at hl 1 rfl) ?_
    refine lv_aload_n hx hb dX4_tourBlock_66 rfl (lv_at hl 0 rfl) ?_
    refine va_get (D := (dC, dI)) (ci := 2) (v := .ref q_line) (C := RX4) (T := TX4) (N := 8) hx hb hts hi_X4 hown hK hP 0 rfl rfl 0 (by decide) (hts _ (List.mem_of_getElem? (i := 1) rfl)) (fun _ h9 => h9) rfl dX4_tourBlock_67 ?_
    refine lv_iload_n hx hb dX4_tourBlock_70 rfl (lv_at hl 1 rfl) ?_
    refine lv_iload_n hx hb dX4_tourBlock_71 rfl (lv_at hl 2 rfl) ?_
    refine lv_iload_n hx hb dX4_tourBlock_72 rfl (lv_at hl 1 rfl) ?_
    refine lv_isub hx hb dX4_tourBlock_73 ?_
    obtain ⟨hi_2147, h⟩ := og h
    refine va_copyi (ty := .int) hx hb (hml.trans hl.1.symm) hown (hts _ (List.mem_of_getElem? (i := 3) rfl)) (hts _ (List.mem_of_getElem? (i := 4) rfl)) (hts _ (List.mem_of_getElem? (i := 5) rfl)) (hts _ (List.mem_of_getElem? (i := 6) rfl)) hK hP hD hS 2 1 0 0 rfl rfl rfl rfl rfl (fun q => hi_2147 (Or.inl q)) (fun q => hi_2147 (Or.inr (Or.inl q))) (fun q => hi_2147 (Or.inr (Or.inr (Or.inl q)))) (Nat.le_of_not_lt (fun q => hi_2147 (Or.inr (Or.inr (Or.inr (Or.inl q)))))) (Nat.le_of_not_lt (fun q => hi_2147 (Or.inr (Or.inr (Or.inr (Or.inr q)))))) (fun _ _ => rfl) (Nat.le_of_ble_eq_true rfl) (Nat.le_of_ble_eq_true rfl) dX4_tourBlock_74 (fun H locs hP hD hS => ?_)
    replace hP : va_P (dC, dI) vwCl [(h0, .inr (2, [.ref q_line, .ref q_before, .ref q_keys, .ref q_tags, .ref q_cells, .ref q_unlike, .int v_rows, .int v_proper])), (q_line, .inl (cI, 16, .inl (va_cpy (va_cpy v_line v_before (x1).toNatClampNeg (x1).toNatClampNeg ((x2 - x1)).toNatClampNeg) w_2143 (x1).toNatClampNeg (x1).toNatClampNeg ((x2 - x1)).toNatClampNeg))), (q_before, .inl (cI, 16, .inl (va_cpy v_line v_before (x1).toNatClampNeg (x1).toNatClampNeg ((x2 - x1)).toNatClampNeg))), (q_unlike, .inl (cI, 256, .inl v_unlike))] H := hP
    replace hD : va_D A [(h0, .inr (2, [.ref q_line, .ref q_before, .ref q_keys, .ref q_tags, .ref q_cells, .ref q_unlike, .int v_rows, .int v_proper])), (q_line, .inl (cI, 16, .inl (va_cpy (va_cpy v_line v_before (x1).toNatClampNeg (x1).toNatClampNeg ((x2 - x1)).toNatClampNeg) w_2143 (x1).toNatClampNeg (x1).toNatClampNeg ((x2 - x1)).toNatClampNeg))), (q_before, .inl (cI, 16, .inl (va_cpy v_line v_before (x1).toNatClampNeg (x1).toNatClampNeg ((x2 - x1)).toNatClampNeg))), (q_unlike, .inl (cI, 256, .inl v_unlike))] := hD
    refine lv_iconst (v := 0) hx hb dX4_tourBlock_77 (by decide) ?_
    rw [hQQ]
    have ho := Option.some.inj h
    subst ho
    exact W.zret hx hb hr rfl (fun t ht hW => ⟨⟨_, (), rfl, rfl, by rw [ht]; exact hP, va_K.moved hW.alike hK, hD⟩, hS.F ht⟩) hS.2.2 dX4_tourBlock_78
  · replace h := on c_2146 h
    refine lv_iconst (v := 1) hx hb dX4_tourBlock_59 (by decide) ?_
    rw [hQQ]
    have ho := Option.some.inj h
    subst ho
    exact W.zret hx hb hr rfl (fun t ht hW => ⟨⟨_, (), rfl, rfl, by rw [ht]; exact hP, va_K.moved hW.alike hK, hD⟩, hS.F ht⟩) hS.2.2 dX4_tourBlock_60
def L_X4_tourBlocks_4 (v_rows : Int32) (v_proper : Int32) (v_unlike : (Nat → Int32)) (x1 : Int32) : Nat → Int32 → Int32 → (Nat → Int32) → (Nat → Int32) → Option (Int32 × (Nat → Int32) × (Nat → Int32))
  | 0, _, _, _, _ => none
  | n+1, x2_4, x3_4, v_line_4, v_before_4 => (if v_rows ≤ x3_4 then (some (x2_4, v_line_4, v_before_4)) else ((f_X4_tourBlock v_rows v_proper v_line_4 v_before_4 v_unlike x3_4 (mmin (x3_4 + x1) v_rows)).bind (fun o_2149 => (((if (b2i o_2149.1) = 0 then (some x2_4) else (some (x2_4 + 1)))).bind (fun v_2151 => (L_X4_tourBlocks_4 v_rows v_proper v_unlike x1 n v_2151 (x3_4 + (mmax (1 : Int32) x1)) o_2149.2.1 o_2149.2.2))))))
def f_X4_tourBlocks (v_rows : Int32) (v_proper : Int32) (v_line : Nat → Int32) (v_before : Nat → Int32) (v_unlike : Nat → Int32) (x1 : Int32) : Option (Int32 × (Nat → Int32) × (Nat → Int32)) :=
  ((L_X4_tourBlocks_4 v_rows v_proper v_unlike x1 fu (0 : Int32) (0 : Int32) v_line v_before).bind (fun w_2154 => (some (w_2154.1, w_2154.2.1, w_2154.2.2))))
abbrev rm_X4_tourBlocks : Room := { frames := 3, cells := 0, slots := 0, locals := 70 }
set_option maxHeartbeats 4000000 in
set_option maxRecDepth 100000 in
theorem c_X4_tourBlocks (l : Launch) (dC : Nat → ClassId) (dI : Nat → Nat → Nat) (cB cC cI cJ cZ cT : ClassId) (h0 q_line q_before q_keys q_tags q_cells q_unlike : Nat) (sz : Nat) (v_rows : Int32) (v_proper : Int32) (v_line : Nat → Int32) (v_before : Nat → Int32) (v_unlike : Nat → Int32) (x1 : Int32) (o : (Int32 × (Nat → Int32) × (Nat → Int32))) (hf : f_X4_tourBlocks v_rows v_proper v_line v_before v_unlike x1 = some o) : Met l yX4_tourBlocks wsX4_tourBlocks rm_X4_tourBlocks (va_Pc [.ref h0, .int x1] (fun U => U.heap.size = sz ∧ va_P (dC, dI) vwCl [(h0, .inr (2, [.ref q_line, .ref q_before, .ref q_keys, .ref q_tags, .ref q_cells, .ref q_unlike, .int v_rows, .int v_proper])), (q_line, .inl (cI, 16, .inl v_line)), (q_before, .inl (cI, 16, .inl v_before)), (q_unlike, .inl (cI, 256, .inl v_unlike))] U.heap ∧ va_K (dC, dI) vwCl (tyA cB cC cI cJ cZ cT) U ∧ va_D (fun _ => True) [(h0, .inr (2, [.ref q_line, .ref q_before, .ref q_keys, .ref q_tags, .ref q_cells, .ref q_unlike, .int v_rows, .int v_proper])), (q_line, .inl (cI, 16, .inl v_line)), (q_before, .inl (cI, 16, .inl v_before)), (q_unlike, .inl (cI, 256, .inl v_unlike))])) (va_Qi (fun (r : Int32) (_ : Unit) => o.1 = r) (fun _ t => va_P (dC, dI) vwCl [(h0, .inr (2, [.ref q_line, .ref q_before, .ref q_keys, .ref q_tags, .ref q_cells, .ref q_unlike, .int v_rows, .int v_proper])), (q_line, .inl (cI, 16, .inl o.2.1)), (q_before, .inl (cI, 16, .inl o.2.2)), (q_unlike, .inl (cI, 256, .inl v_unlike))] t.heap ∧ va_K (dC, dI) vwCl (tyA cB cC cI cJ cZ cT) t ∧ va_D (va_A [(h0, .inr (2, [.ref q_line, .ref q_before, .ref q_keys, .ref q_tags, .ref q_cells, .ref q_unlike, .int v_rows, .int v_proper])), (q_line, .inl (cI, 16, .inl v_line)), (q_before, .inl (cI, 16, .inl v_before)), (q_unlike, .inl (cI, 256, .inl v_unlike))] sz) [(h0, .inr (2, [.ref q_line, .ref q_before, .ref q_keys, .ref q_tags, .ref q_cells, .ref q_unlike, .int v_rows, .int v_proper])), (q_line, .inl (cI, 16, .inl o.2.1)), (q_before, .inl (cI, 16, .inl o.2.2)), (q_unlike, .inl (cI, 256, .inl v_unlike))]) (va_A [(h0, .inr (2, [.ref q_line, .ref q_before, .ref q_keys, .ref q_tags, .ref q_cells, .ref q_unlike, .int v_rows, .int v_proper])), (q_line, .inl (cI, 16, .inl v_line)), (q_before, .inl (cI, 16, .inl v_before)), (q_unlike, .inl (cI, 256, .inl v_unlike))] sz)) 0 0 (va_A [(h0, .inr (2, [.ref q_line, .ref q_before, .ref q_keys, .ref q_tags, .ref q_cells, .ref q_unlike, .int v_rows, .int v_proper])), (q_line, .inl (cI, 16, .inl v_line)), (q_before, .inl (cI, 16, .inl v_before)), (q_unlike, .inl (cI, 256, .inl v_unlike))] sz) := by
  refine Met.ofW (cc := cX4_tourBlocks) (maxL := 4) (ret := (some .int)) (by decide +kernel) rfl ?_
  intro p e s m args below meth c s₁ B hml hv
  obtain ⟨hav, hsz, hP, hK, hD0⟩ := hv
  have hx := B.exec
  have hb := B.bytes
  have hr := B.returns
  have hts := atoms_spec (ws := wsX4_tourBlocks) B.pre
  have hown : s.vm.findClass RX4 = some m.cls := findClass_of_methodNamed B.named
  have hlocks := B.notSynchronized
  subst hsz
  have hD := hD0.self (sz := s.heap.size)
  generalize hAe : va_A [(h0, .inr (2, [.ref q_line, .ref q_before, .ref q_keys, .ref q_tags, .ref q_cells, .ref q_unlike, .int v_rows, .int v_proper])), (q_line, .inl (cI, 16, .inl v_line)), (q_before, .inl (cI, 16, .inl v_before)), (q_unlike, .inl (cI, 256, .inl v_unlike))] s.heap.size = A at hD ⊢
  have hA : ∀ q : Nat, s.heap.size ≤ q → A q := fun q h => by rw [← hAe]; exact Or.inr h
  have hS : va_S A s.heap s.heap [] := va_S.rf
  refine wstart (rm := rm_X4_tourBlocks) hav (Nat.le_of_ble_eq_true rfl) (fun QQ ls hQQ hl => ?_)
  have hl : lv_has ls 4 [(0, .ref h0), (1, .int x1)] := hl
  have hi_X4 : ∀ w ∈ u_ws RX4 TX4 8, w ∈ wsX4_tourBlocks := by decide +kernel
  have h := hf
  unfold f_X4_tourBlocks at h
  refine lv_iconst (v := 0) hx hb dX4_tourBlocks_0 (by decide) ?_
  refine lv_istore_n (lv' := [(2, .int (0 : Int32)), (0, .ref h0), (1, .int x1)]) hx hb dX4_tourBlocks_1 rfl hl (by decide) rfl (fun ls hl => ?_)
  refine lv_iconst (v := 0) hx hb dX4_tourBlocks_2 (by decide) ?_
  refine lv_istore_n (lv' := [(3, .int (0 : Int32)), (2, .int (0 : Int32)), (0, .ref h0), (1, .int x1)]) hx hb dX4_tourBlocks_3 rfl hl (by decide) rfl (fun ls hl => ?_)
  have LP_2154 : ∀ (n : Nat) (x2_4 : Int32) (x3_4 : Int32) (v_line_4 : (Nat → Int32)) (v_before_4 : (Nat → Int32)) (w : (Int32 × (Nat → Int32) × (Nat → Int32))) (H : Heap) (locs : List Loc) (ls : Array Slot), L_X4_tourBlocks_4 v_rows v_proper v_unlike x1 n x2_4 x3_4 v_line_4 v_before_4 = some w → va_P (dC, dI) vwCl [(h0, .inr (2, [.ref q_line, .ref q_before, .ref q_keys, .ref q_tags, .ref q_cells, .ref q_unlike, .int v_rows, .int v_proper])), (q_line, .inl (cI, 16, .inl v_line_4)), (q_before, .inl (cI, 16, .inl v_before_4)), (q_unlike, .inl (cI, 256, .inl v_unlike))] H → va_D A [(h0, .inr (2, [.ref q_line, .ref q_before, .ref q_keys, .ref q_tags, .ref q_cells, .ref q_unlike, .int v_rows, .int v_proper])), (q_line, .inl (cI, 16, .inl v_line_4)), (q_before, .inl (cI, 16, .inl v_before_4)), (q_unlike, .inl (cI, 256, .inl v_unlike))] → va_S A s.heap H locs → lv_has ls 4 [(0, .ref h0), (1, .int x1), (2, .int x2_4), (3, .int x3_4)] → (∀ (H : Heap) (locs : List Loc) (ls : Array Slot), va_P (dC, dI) vwCl [(h0, .inr (2, [.ref q_line, .ref q_before, .ref q_keys, .ref q_tags, .ref q_cells, .ref q_unlike, .int v_rows, .int v_proper])), (q_line, .inl (cI, 16, .inl w.2.1)), (q_before, .inl (cI, 16, .inl w.2.2)), (q_unlike, .inl (cI, 256, .inl v_unlike))] H → va_D A [(h0, .inr (2, [.ref q_line, .ref q_before, .ref q_keys, .ref q_tags, .ref q_cells, .ref q_unlike, .int v_rows, .int v_proper])), (q_line, .inl (cI, 16, .inl w.2.1)), (q_before, .inl (cI, 16, .inl w.2.2)), (q_unlike, .inl (cI, 256, .inl v_unlike))] → va_S A s.heap H locs → lv_has ls 4 [(2, .int w.1)] → W p l e rm_X4_tourBlocks s m args below meth c H locs 0 0 QQ (F0 m 44 ls [])) → W p l e rm_X4_tourBlocks s m args below meth c H locs 0 0 QQ (F0 m 4 ls []) := by
    intro n
    induction n with
    | zero => intro x2_4 x3_4 v_line_4 v_before_4 w H locs ls h; exact absurd (show none = some w from h) nofun
    | succ n ih =>
      intro x2_4 x3_4 v_line_4 v_before_4 w H locs ls h hP hD hS hl K
      rw [L_X4_tourBlocks_4] at h
      refine lv_iload_n hx hb dX4_tourBlocks_4 rfl (lv_at hl 3 rfl) ?_
      refine lv_aload_n hx hb dX4_tourBlocks_5 rfl (lv_at hl 0 rfl) ?_
      refine va_get (D := (dC, dI)) (ci := 2) (v := .int v_rows) (C := RX4) (T := TX4) (N := 8) hx hb hts hi_X4 hown hK hP 0 rfl rfl 6 (by decide) (hts _ (List.mem_of_getElem? (i := 1) rfl)) (fun _ h9 => h9) rfl dX4_tourBlocks_6 ?_
      refine lv_icmp_ge (tgt := 44) hx hb dX4_tourBlocks_9 (by decide) (fun c_2148 => ?_) (fun c_2148 => ?_)
      · replace h := op c_2148 h
        have ho := Option.some.inj h
        subst ho
        exact K H _ ls hP hD hS (lv_sub hl [2] rfl)
      · replace h := on c_2148 h
        refine lv_aload_n hx hb dX4_tourBlocks_12 rfl (lv_at hl 0 rfl) ?_
        refine lv_iload_n hx hb dX4_tourBlocks_13 rfl (lv_at hl 3 rfl) ?_
        refine lv_iload_n hx hb dX4_tourBlocks_14 rfl (lv_at hl 3 rfl) ?_
        refine lv_iload_n hx hb dX4_tourBlocks_15 rfl (lv_at hl 1 rfl) ?_
        refine lv_iadd hx hb dX4_tourBlocks_16 ?_
        refine lv_aload_n hx hb dX4_tourBlocks_17 rfl (lv_at hl 0 rfl) ?_
        refine va_get (D := (dC, dI)) (ci := 2) (v := .int v_rows) (C := RX4) (T := TX4) (N := 8) hx hb hts hi_X4 hown hK hP 0 rfl rfl 6 (by decide) (hts _ (List.mem_of_getElem? (i := 1) rfl)) (fun _ h9 => h9) rfl dX4_tourBlocks_18 ?_
        refine va_mmin hx hb (hml.trans hl.1.symm) hown (hts _ (List.mem_of_getElem? (i := 2) rfl)) (hts _ (List.mem_of_getElem? (i := 3) rfl)) (hts _ (List.mem_of_getElem? (i := 4) rfl)) (hts _ (List.mem_of_getElem? (i := 5) rfl)) (Nat.le_of_ble_eq_true rfl) (Nat.le_of_ble_eq_true rfl) (Nat.le_of_ble_eq_true rfl) (Nat.le_of_ble_eq_true rfl) dX4_tourBlocks_21 ?_
        obtain ⟨o_2149, hr_2149, h⟩ := ob h
        have hPc := hP.sub (ws' := [(h0, .inr (2, [.ref q_line, .ref q_before, .ref q_keys, .ref q_tags, .ref q_cells, .ref q_unlike, .int v_rows, .int v_proper])), (q_line, .inl (cI, 16, .inl v_line_4)), (q_before, .inl (cI, 16, .inl v_before_4)), (q_unlike, .inl (cI, 256, .inl v_unlike))]) [0, 1, 2, 3] rfl
        have hDc := hD.sub (ws' := [(h0, .inr (2, [.ref q_line, .ref q_before, .ref q_keys, .ref q_tags, .ref q_cells, .ref q_unlike, .int v_rows, .int v_proper])), (q_line, .inl (cI, 16, .inl v_line_4)), (q_before, .inl (cI, 16, .inl v_before_4)), (q_unlike, .inl (cI, 256, .inl v_unlike))]) [0, 1, 2, 3] (by decide) rfl
        have hFc := va_free (wc := [(h0, .inr (2, [.ref q_line, .ref q_before, .ref q_keys, .ref q_tags, .ref q_cells, .ref q_unlike, .int v_rows, .int v_proper])), (q_line, .inl (cI, 16, .inl v_line_4)), (q_before, .inl (cI, 16, .inl v_before_4)), (q_unlike, .inl (cI, 256, .inl v_unlike))]) hD hS hA [0, 1, 2, 3] rfl
        refine va_calli (va_runV (As := [.int x3_4, .int (mmin (x3_4 + x1) v_rows)]) (rest := []) ⟨hx, hb, hml, hown, hts⟩ (c_X4_tourBlock l dC dI cB cC cI cJ cZ cT h0 q_line q_before q_keys q_tags q_cells q_unlike H.size v_rows v_proper v_line_4 v_before_4 v_unlike x3_4 (mmin (x3_4 + x1) v_rows) o_2149 hr_2149) (cwV 2 hts gX4_tourBlocks_X4_tourBlock rfl rfl rfl (by decide +kernel) ⟨Nat.le_of_ble_eq_true rfl, Nat.le_of_ble_eq_true rfl⟩) ⟨blW, va_recv hK hP (ci := 2) (q0 := 0) rfl rfl, fun U hU hW => ⟨rfl, by rw [hU], by rw [hU]; exact hPc, va_K.moved hW.alike hK, hDc.weaken (fun _ _ _ _ => trivial)⟩⟩ rfl rfl hl.1 rfl (lv_room (Nat.le_of_ble_eq_true rfl)) dX4_tourBlocks_24 ⟨Nat.le_of_ble_eq_true rfl, Nat.le_of_ble_eq_true rfl⟩) hS (fun q _ h => hFc q h) hFc (fun r_2149 u_2149 t_2149 H locs ht hvm e_2149 hB hz1 hk1 hS => ?_)
        obtain ⟨hP1, -, hD1⟩ := hB
        rw [ht] at hP1
        obtain ⟨hP, hD⟩ := va_join (wr := []) (w1 := [(h0, .inr (2, [.ref q_line, .ref q_before, .ref q_keys, .ref q_tags, .ref q_cells, .ref q_unlike, .int v_rows, .int v_proper])), (q_line, .inl (cI, 16, .inl o_2149.2.1)), (q_before, .inl (cI, 16, .inl o_2149.2.2)), (q_unlike, .inl (cI, 256, .inl v_unlike))]) hP hD [0, 1, 2, 3] [] rfl rfl (by decide) (by decide) hk1 hFc hP1 hD1
        replace hP := hP.sub (ws' := [(h0, .inr (2, [.ref q_line, .ref q_before, .ref q_keys, .ref q_tags, .ref q_cells, .ref q_unlike, .int v_rows, .int v_proper])), (q_line, .inl (cI, 16, .inl o_2149.2.1)), (q_before, .inl (cI, 16, .inl o_2149.2.2)), (q_unlike, .inl (cI, 256, .inl v_unlike))]) [0, 1, 2, 3] rfl
        replace hD := hD.sub (ws' := [(h0, .inr (2, [.ref q_line, .ref q_before, .ref q_keys, .ref q_tags, .ref q_cells, .ref q_unlike, .int v_rows, .int v_proper])), (q_line, .inl (cI, 16, .inl o_2149.2.1)), (q_before, .inl (cI, 16, .inl o_2149.2.2)), (q_unlike, .inl (cI, 256, .inl v_unlike))]) [0, 1, 2, 3] (by decide) rfl
        subst e_2149
        obtain ⟨v_2151, hv_2151, h⟩ := ob h
        have J_2151 : ∀ (H : Heap) (locs : List Loc) (ls : Array Slot), va_P (dC, dI) vwCl [(h0, .inr (2, [.ref q_line, .ref q_before, .ref q_keys, .ref q_tags, .ref q_cells, .ref q_unlike, .int v_rows, .int v_proper])), (q_line, .inl (cI, 16, .inl o_2149.2.1)), (q_before, .inl (cI, 16, .inl o_2149.2.2)), (q_unlike, .inl (cI, 256, .inl v_unlike))] H → va_D A [(h0, .inr (2, [.ref q_line, .ref q_before, .ref q_keys, .ref q_tags, .ref q_cells, .ref q_unlike, .int v_rows, .int v_proper])), (q_line, .inl (cI, 16, .inl o_2149.2.1)), (q_before, .inl (cI, 16, .inl o_2149.2.2)), (q_unlike, .inl (cI, 256, .inl v_unlike))] → va_S A s.heap H locs → lv_has ls 4 [(0, .ref h0), (1, .int x1), (2, .int v_2151), (3, .int x3_4)] → W p l e rm_X4_tourBlocks s m args below meth c H locs 0 0 QQ (F0 m 33 ls []) := by
          intro H locs ls hP hD hS hl
          refine lv_iload_n hx hb dX4_tourBlocks_33 rfl (lv_at hl 3 rfl) ?_
          refine lv_iconst (v := 1) hx hb dX4_tourBlocks_34 (by decide) ?_
          refine lv_iload_n hx hb dX4_tourBlocks_35 rfl (lv_at hl 1 rfl) ?_
          refine va_mmax hx hb (hml.trans hl.1.symm) hown (hts _ (List.mem_of_getElem? (i := 6) rfl)) (hts _ (List.mem_of_getElem? (i := 7) rfl)) (hts _ (List.mem_of_getElem? (i := 4) rfl)) (hts _ (List.mem_of_getElem? (i := 8) rfl)) (Nat.le_of_ble_eq_true rfl) (Nat.le_of_ble_eq_true rfl) (Nat.le_of_ble_eq_true rfl) (Nat.le_of_ble_eq_true rfl) dX4_tourBlocks_36 ?_
          refine lv_iadd hx hb dX4_tourBlocks_39 ?_
          refine lv_istore_n (lv' := [(3, .int (x3_4 + (mmax (1 : Int32) x1))), (0, .ref h0), (1, .int x1), (2, .int v_2151)]) hx hb dX4_tourBlocks_40 rfl hl (by decide) rfl (fun ls hl => ?_)
          refine lv_goto (tgt := 4) hx hb dX4_tourBlocks_41 (by decide) ?_
          exact ih v_2151 (x3_4 + (mmax (1 : Int32) x1)) o_2149.2.1 o_2149.2.2 w H _ ls h hP hD hS (lv_sub hl [1, 2, 3, 0] rfl) K
        replace h := hv_2151
        refine lv_if_eq (tgt := 33) hx hb dX4_tourBlocks_27 (by decide) (fun c_2153 => ?_) (fun c_2153 => ?_)
        · replace h := op c_2153 h
          have ho := Option.some.inj h
          subst ho
          exact J_2151 H _ ls hP hD hS (lv_sub hl [0, 1, 2, 3] rfl)
        · replace h := on c_2153 h
          refine lv_iinc (v := (x2_4 + 1)) (lv' := [(2, .int (x2_4 + 1)), (0, .ref h0), (1, .int x1), (3, .int x3_4)]) hx hb dX4_tourBlocks_30 hl (k := 2) rfl (by rfl) (by decide) rfl (fun ls hl => ?_)
          have ho := Option.some.inj h
          subst ho
          exact J_2151 H _ ls hP hD hS (lv_sub hl [1, 2, 0, 3] rfl)
  obtain ⟨w_2154, hw_2154, h⟩ := ob h
  refine LP_2154 fu (0 : Int32) (0 : Int32) v_line v_before w_2154 s.heap _ ls hw_2154 hP hD hS (lv_sub hl [2, 3, 1, 0] rfl) (fun H locs ls hP hD hS hl => ?_)
  refine lv_iload_n hx hb dX4_tourBlocks_44 rfl (lv_at hl 0 rfl) ?_
  rw [hQQ]
  have ho := Option.some.inj h
  subst ho
  exact W.iret hx hb hr (fun t ht hW => ⟨⟨_, (), rfl, rfl, by rw [ht]; exact hP, va_K.moved hW.alike hK, hD⟩, hS.F ht⟩) hS.2.2 dX4_tourBlocks_45
def L_X4_carryOut_18 (v_rows : Int32) (v_line : (Nat → Int32)) (x2_2 : Int32) (v_p1_cells_2 : (Nat → Int64)) : Nat → Int32 → (Nat → Int64) → Option (Nat → Int64)
  | 0, _, _ => none
  | n+1, x4_18, v_cells_18 => (if v_rows ≤ x4_18 then (some v_cells_18) else (if x4_18 < 0 ∨ 16 ≤ (x4_18).toNatClampNeg then none else (if ((x2_2 * (16 : Int32)) + (v_line (x4_18).toNatClampNeg)) < 0 ∨ 96 ≤ (((x2_2 * (16 : Int32)) + (v_line (x4_18).toNatClampNeg))).toNatClampNeg then none else (if x4_18 < 0 ∨ 16 ≤ (x4_18).toNatClampNeg then none else (L_X4_carryOut_18 v_rows v_line x2_2 v_p1_cells_2 n (x4_18 + 1) (vp_updL v_cells_18 (x4_18).toNatClampNeg (v_p1_cells_2 (((x2_2 * (16 : Int32)) + (v_line (x4_18).toNatClampNeg))).toNatClampNeg)))))))
def L_X4_carryOut_2 (v_rows : Int32) (v_line : (Nat → Int32)) (v_p1_columns : Int32) : Nat → Int32 → (Nat → Int64) → (Nat → Int64) → Option ((Nat → Int64) × (Nat → Int64))
  | 0, _, _, _ => none
  | n+1, x2_2, v_cells_2, v_p1_cells_2 => (if v_p1_columns ≤ x2_2 then (some (v_cells_2, v_p1_cells_2)) else ((L_X4_carryOut_18 v_rows v_line x2_2 v_p1_cells_2 fu (0 : Int32) v_cells_2).bind (fun w_2160 => (if (0 : Int32) < 0 ∨ (x2_2 * (16 : Int32)) < 0 ∨ v_rows < 0 ∨ 16 < ((0 : Int32)).toNatClampNeg + (v_rows).toNatClampNeg ∨ 96 < ((x2_2 * (16 : Int32))).toNatClampNeg + (v_rows).toNatClampNeg then none else (L_X4_carryOut_2 v_rows v_line v_p1_columns n (x2_2 + 1) w_2160 (va_cpy w_2160 v_p1_cells_2 ((0 : Int32)).toNatClampNeg ((x2_2 * (16 : Int32))).toNatClampNeg (v_rows).toNatClampNeg))))))
def L_X4_carryOut_81 (v_rows : Int32) (v_line : (Nat → Int32)) (v_p1_tags : (Nat → Int32)) : Nat → Int32 → Int32 → (Nat → Int32) → Option (Int32 × (Nat → Int32))
  | 0, _, _, _ => none
  | n+1, x2_81, x3_81, v_tags_81 => (if v_rows ≤ x3_81 then (some (x2_81, v_tags_81)) else (if x3_81 < 0 ∨ 16 ≤ (x3_81).toNatClampNeg then none else (if (v_line (x3_81).toNatClampNeg) < 0 ∨ 16 ≤ ((v_line (x3_81).toNatClampNeg)).toNatClampNeg then none else (if x3_81 < 0 ∨ 16 ≤ (x3_81).toNatClampNeg then none else (if x3_81 < 0 ∨ 16 ≤ (x3_81).toNatClampNeg then none else (if (v_line (x3_81).toNatClampNeg) = x3_81 then (L_X4_carryOut_81 v_rows v_line v_p1_tags n x2_81 (x3_81 + 1) (upd v_tags_81 (x3_81).toNatClampNeg (v_p1_tags ((v_line (x3_81).toNatClampNeg)).toNatClampNeg))) else (L_X4_carryOut_81 v_rows v_line v_p1_tags n (x2_81 + 1) (x3_81 + 1) (upd v_tags_81 (x3_81).toNatClampNeg (v_p1_tags ((v_line (x3_81).toNatClampNeg)).toNatClampNeg)))))))))
def f_X4_carryOut (v_rows : Int32) (v_line : Nat → Int32) (v_tags : Nat → Int32) (v_cells : Nat → Int64) (v_p1_columns : Int32) (v_p1_tags : Nat → Int32) (v_p1_cells : Nat → Int64) : Option (Int32 × (Nat → Int32) × (Nat → Int64) × (Nat → Int32) × (Nat → Int64)) :=
  ((L_X4_carryOut_2 v_rows v_line v_p1_columns fu (0 : Int32) v_cells v_p1_cells).bind (fun w_2162 => ((L_X4_carryOut_81 v_rows v_line v_p1_tags fu (0 : Int32) (0 : Int32) v_tags).bind (fun w_2169 => (if (0 : Int32) < 0 ∨ (0 : Int32) < 0 ∨ v_rows < 0 ∨ 16 < ((0 : Int32)).toNatClampNeg + (v_rows).toNatClampNeg ∨ 16 < ((0 : Int32)).toNatClampNeg + (v_rows).toNatClampNeg then none else (some (w_2169.1, w_2169.2, w_2162.1, (va_cpy w_2169.2 v_p1_tags ((0 : Int32)).toNatClampNeg ((0 : Int32)).toNatClampNeg (v_rows).toNatClampNeg), w_2162.2)))))))
abbrev rm_X4_carryOut : Room := { frames := 1, cells := 0, slots := 0, locals := 26 }
set_option maxHeartbeats 4000000 in
set_option maxRecDepth 100000 in
theorem c_X4_carryOut (l : Launch) (dC : Nat → ClassId) (dI : Nat → Nat → Nat) (cB cC cI cJ cZ cT : ClassId) (h0 q_line q_before q_keys q_tags q_cells q_unlike q_p1 q_p1_kinds q_p1_tags q_p1_cells : Nat) (sz : Nat) (v_rows : Int32) (v_proper : Int32) (v_line : Nat → Int32) (v_tags : Nat → Int32) (v_cells : Nat → Int64) (v_p1_columns : Int32) (v_p1_rows : Int32) (v_p1_tags : Nat → Int32) (v_p1_cells : Nat → Int64) (o : (Int32 × (Nat → Int32) × (Nat → Int64) × (Nat → Int32) × (Nat → Int64))) (hf : f_X4_carryOut v_rows v_line v_tags v_cells v_p1_columns v_p1_tags v_p1_cells = some o) : Met l yX4_carryOut wsX4_carryOut rm_X4_carryOut (va_Pc [.ref h0, .ref q_p1] (fun U => U.heap.size = sz ∧ va_P (dC, dI) vwCl [(h0, .inr (2, [.ref q_line, .ref q_before, .ref q_keys, .ref q_tags, .ref q_cells, .ref q_unlike, .int v_rows, .int v_proper])), (q_line, .inl (cI, 16, .inl v_line)), (q_tags, .inl (cI, 16, .inl v_tags)), (q_cells, .inl (cJ, 16, .inr (.inl v_cells))), (q_p1, .inr (6, [.ref q_p1_kinds, .ref q_p1_tags, .ref q_p1_cells, .int v_p1_columns, .int v_p1_rows])), (q_p1_tags, .inl (cI, 16, .inl v_p1_tags)), (q_p1_cells, .inl (cJ, 96, .inr (.inl v_p1_cells)))] U.heap ∧ va_K (dC, dI) vwCl (tyA cB cC cI cJ cZ cT) U ∧ va_D (fun _ => True) [(h0, .inr (2, [.ref q_line, .ref q_before, .ref q_keys, .ref q_tags, .ref q_cells, .ref q_unlike, .int v_rows, .int v_proper])), (q_line, .inl (cI, 16, .inl v_line)), (q_tags, .inl (cI, 16, .inl v_tags)), (q_cells, .inl (cJ, 16, .inr (.inl v_cells))), (q_p1, .inr (6, [.ref q_p1_kinds, .ref q_p1_tags, .ref q_p1_cells, .int v_p1_columns, .int v_p1_rows])), (q_p1_tags, .inl (cI, 16, .inl v_p1_tags)), (q_p1_cells, .inl (cJ, 96, .inr (.inl v_p1_cells)))])) (va_Qi (fun (r : Int32) (_ : Unit) => o.1 = r) (fun _ t => va_P (dC, dI) vwCl [(h0, .inr (2, [.ref q_line, .ref q_before, .ref q_keys, .ref q_tags, .ref q_cells, .ref q_unlike, .int v_rows, .int v_proper])), (q_line, .inl (cI, 16, .inl v_line)), (q_tags, .inl (cI, 16, .inl o.2.1)), (q_cells, .inl (cJ, 16, .inr (.inl o.2.2.1))), (q_p1, .inr (6, [.ref q_p1_kinds, .ref q_p1_tags, .ref q_p1_cells, .int v_p1_columns, .int v_p1_rows])), (q_p1_tags, .inl (cI, 16, .inl o.2.2.2.1)), (q_p1_cells, .inl (cJ, 96, .inr (.inl o.2.2.2.2)))] t.heap ∧ va_K (dC, dI) vwCl (tyA cB cC cI cJ cZ cT) t ∧ va_D (va_A [(h0, .inr (2, [.ref q_line, .ref q_before, .ref q_keys, .ref q_tags, .ref q_cells, .ref q_unlike, .int v_rows, .int v_proper])), (q_line, .inl (cI, 16, .inl v_line)), (q_tags, .inl (cI, 16, .inl v_tags)), (q_cells, .inl (cJ, 16, .inr (.inl v_cells))), (q_p1, .inr (6, [.ref q_p1_kinds, .ref q_p1_tags, .ref q_p1_cells, .int v_p1_columns, .int v_p1_rows])), (q_p1_tags, .inl (cI, 16, .inl v_p1_tags)), (q_p1_cells, .inl (cJ, 96, .inr (.inl v_p1_cells)))] sz) [(h0, .inr (2, [.ref q_line, .ref q_before, .ref q_keys, .ref q_tags, .ref q_cells, .ref q_unlike, .int v_rows, .int v_proper])), (q_line, .inl (cI, 16, .inl v_line)), (q_tags, .inl (cI, 16, .inl o.2.1)), (q_cells, .inl (cJ, 16, .inr (.inl o.2.2.1))), (q_p1, .inr (6, [.ref q_p1_kinds, .ref q_p1_tags, .ref q_p1_cells, .int v_p1_columns, .int v_p1_rows])), (q_p1_tags, .inl (cI, 16, .inl o.2.2.2.1)), (q_p1_cells, .inl (cJ, 96, .inr (.inl o.2.2.2.2)))]) (va_A [(h0, .inr (2, [.ref q_line, .ref q_before, .ref q_keys, .ref q_tags, .ref q_cells, .ref q_unlike, .int v_rows, .int v_proper])), (q_line, .inl (cI, 16, .inl v_line)), (q_tags, .inl (cI, 16, .inl v_tags)), (q_cells, .inl (cJ, 16, .inr (.inl v_cells))), (q_p1, .inr (6, [.ref q_p1_kinds, .ref q_p1_tags, .ref q_p1_cells, .int v_p1_columns, .int v_p1_rows])), (q_p1_tags, .inl (cI, 16, .inl v_p1_tags)), (q_p1_cells, .inl (cJ, 96, .inr (.inl v_p1_cells)))] sz)) 0 0 (va_A [(h0, .inr (2, [.ref q_line, .ref q_before, .ref q_keys, .ref q_tags, .ref q_cells, .ref q_unlike, .int v_rows, .int v_proper])), (q_line, .inl (cI, 16, .inl v_line)), (q_tags, .inl (cI, 16, .inl v_tags)), (q_cells, .inl (cJ, 16, .inr (.inl v_cells))), (q_p1, .inr (6, [.ref q_p1_kinds, .ref q_p1_tags, .ref q_p1_cells, .int v_p1_columns, .int v_p1_rows])), (q_p1_tags, .inl (cI, 16, .inl v_p1_tags)), (q_p1_cells, .inl (cJ, 96, .inr (.inl v_p1_cells)))] sz) := by
  refine Met.ofW (cc := cX4_carryOut) (maxL := 5) (ret := (some .int)) (by decide +kernel) rfl ?_
  intro p e s m args below meth c s₁ B hml hv
  obtain ⟨hav, hsz, hP, hK, hD0⟩ := hv
  have hx := B.exec
  have hb := B.bytes
  have hr := B.returns
  have hts := atoms_spec (ws := wsX4_carryOut) B.pre
  have hown : s.vm.findClass RX4 = some m.cls := findClass_of_methodNamed B.named
  have hlocks := B.notSynchronized
  subst hsz
  have hD := hD0.self (sz := s.heap.size)
  generalize hAe : va_A [(h0, .inr (2, [.ref q_line, .ref q_before, .ref q_keys, .ref q_tags, .ref q_cells, .ref q_unlike, .int v_rows, .int v_proper])), (q_line, .inl (cI, 16, .inl v_line)), (q_tags, .inl (cI, 16, .inl v_tags)), (q_cells, .inl (cJ, 16, .inr (.inl v_cells))), (q_p1, .inr (6, [.ref q_p1_kinds, .ref q_p1_tags, .ref q_p1_cells, .int v_p1_columns, .int v_p1_rows])), (q_p1_tags, .inl (cI, 16, .inl v_p1_tags)), (q_p1_cells, .inl (cJ, 96, .inr (.inl v_p1_cells)))] s.heap.size = A at hD ⊢
  have hA : ∀ q : Nat, s.heap.size ≤ q → A q := fun q h => by rw [← hAe]; exact Or.inr h
  have hS : va_S A s.heap s.heap [] := va_S.rf
  refine wstart (rm := rm_X4_carryOut) hav (Nat.le_of_ble_eq_true rfl) (fun QQ ls hQQ hl => ?_)
  have hl : lv_has ls 5 [(0, .ref h0), (1, .ref q_p1)] := hl
  have hi_X4 : ∀ w ∈ u_ws RX4 TX4 8, w ∈ wsX4_carryOut := by decide +kernel
  have hi_X8 : ∀ w ∈ u_ws RX8 TX8 5, w ∈ wsX4_carryOut := by decide +kernel
  have h := hf
  unfold f_X4_carryOut at h
  refine lv_iconst (v := 0) hx hb dX4_carryOut_0 (by decide) ?_
  refine lv_istore_n (lv' := [(2, .int (0 : Int32)), (0, .ref h0), (1, .ref q_p1)]) hx hb dX4_carryOut_1 rfl hl (by decide) rfl (fun ls hl => ?_)
  have LP_2162 : ∀ (n : Nat) (x2_2 : Int32) (v_cells_2 : (Nat → Int64)) (v_p1_cells_2 : (Nat → Int64)) (w : ((Nat → Int64) × (Nat → Int64))) (H : Heap) (locs : List Loc) (ls : Array Slot), L_X4_carryOut_2 v_rows v_line v_p1_columns n x2_2 v_cells_2 v_p1_cells_2 = some w → va_P (dC, dI) vwCl [(h0, .inr (2, [.ref q_line, .ref q_before, .ref q_keys, .ref q_tags, .ref q_cells, .ref q_unlike, .int v_rows, .int v_proper])), (q_line, .inl (cI, 16, .inl v_line)), (q_tags, .inl (cI, 16, .inl v_tags)), (q_cells, .inl (cJ, 16, .inr (.inl v_cells_2))), (q_p1, .inr (6, [.ref q_p1_kinds, .ref q_p1_tags, .ref q_p1_cells, .int v_p1_columns, .int v_p1_rows])), (q_p1_tags, .inl (cI, 16, .inl v_p1_tags)), (q_p1_cells, .inl (cJ, 96, .inr (.inl v_p1_cells_2)))] H → va_D A [(h0, .inr (2, [.ref q_line, .ref q_before, .ref q_keys, .ref q_tags, .ref q_cells, .ref q_unlike, .int v_rows, .int v_proper])), (q_line, .inl (cI, 16, .inl v_line)), (q_tags, .inl (cI, 16, .inl v_tags)), (q_cells, .inl (cJ, 16, .inr (.inl v_cells_2))), (q_p1, .inr (6, [.ref q_p1_kinds, .ref q_p1_tags, .ref q_p1_cells, .int v_p1_columns, .int v_p1_rows])), (q_p1_tags, .inl (cI, 16, .inl v_p1_tags)), (q_p1_cells, .inl (cJ, 96, .inr (.inl v_p1_cells_2)))] → va_S A s.heap H locs → lv_has ls 5 [(0, .ref h0), (1, .ref q_p1), (2, .int x2_2)] → (∀ (H : Heap) (locs : List Loc) (ls : Array Slot), va_P (dC, dI) vwCl [(h0, .inr (2, [.ref q_line, .ref q_before, .ref q_keys, .ref q_tags, .ref q_cells, .ref q_unlike, .int v_rows, .int v_proper])), (q_line, .inl (cI, 16, .inl v_line)), (q_tags, .inl (cI, 16, .inl v_tags)), (q_cells, .inl (cJ, 16, .inr (.inl w.1))), (q_p1, .inr (6, [.ref q_p1_kinds, .ref q_p1_tags, .ref q_p1_cells, .int v_p1_columns, .int v_p1_rows])), (q_p1_tags, .inl (cI, 16, .inl v_p1_tags)), (q_p1_cells, .inl (cJ, 96, .inr (.inl w.2)))] H → va_D A [(h0, .inr (2, [.ref q_line, .ref q_before, .ref q_keys, .ref q_tags, .ref q_cells, .ref q_unlike, .int v_rows, .int v_proper])), (q_line, .inl (cI, 16, .inl v_line)), (q_tags, .inl (cI, 16, .inl v_tags)), (q_cells, .inl (cJ, 16, .inr (.inl w.1))), (q_p1, .inr (6, [.ref q_p1_kinds, .ref q_p1_tags, .ref q_p1_cells, .int v_p1_columns, .int v_p1_rows])), (q_p1_tags, .inl (cI, 16, .inl v_p1_tags)), (q_p1_cells, .inl (cJ, 96, .inr (.inl w.2)))] → va_S A s.heap H locs → lv_has ls 5 [(0, .ref h0), (1, .ref q_p1)] → W p l e rm_X4_carryOut s m args below meth c H locs 0 0 QQ (F0 m 77 ls [])) → W p l e rm_X4_carryOut s m args below meth c H locs 0 0 QQ (F0 m 2 ls []) := by
    intro n
    induction n with
    | zero => intro x2_2 v_cells_2 v_p1_cells_2 w H locs ls h; exact absurd (show none = some w from h) nofun
    | succ n ih =>
      intro x2_2 v_cells_2 v_p1_cells_2 w H locs ls h hP hD hS hl K
      rw [L_X4_carryOut_2] at h
      refine lv_iload_n hx hb dX4_carryOut_2 rfl (lv_at hl 2 rfl) ?_
      refine lv_aload_n hx hb dX4_carryOut_3 rfl (lv_at hl 1 rfl) ?_
      refine va_get (D := (dC, dI)) (ci := 6) (v := .int v_p1_columns) (C := RX8) (T := TX8) (N := 5) hx hb hts hi_X8 hown hK hP 4 rfl rfl 3 (by decide) (hts _ (List.mem_of_getElem? (i := 1) rfl)) (fun _ h9 => h9) rfl dX4_carryOut_4 ?_
      refine lv_icmp_ge (tgt := 77) hx hb dX4_carryOut_7 (by decide) (fun c_2155 => ?_) (fun c_2155 => ?_)
      · replace h := op c_2155 h
        have ho := Option.some.inj h
        subst ho
        exact K H _ ls hP hD hS (lv_sub hl [0, 1] rfl)
      · replace h := on c_2155 h
        refine lv_iload_n hx hb dX4_carryOut_10 rfl (lv_at hl 2 rfl) ?_
        refine lv_bipush (v := 16) hx hb dX4_carryOut_11 (by decide) ?_
        refine lv_imul hx hb dX4_carryOut_13 ?_
        refine lv_istore_n (lv' := [(3, .int (x2_2 * (16 : Int32))), (0, .ref h0), (1, .ref q_p1), (2, .int x2_2)]) hx hb dX4_carryOut_14 rfl hl (by decide) rfl (fun ls hl => ?_)
        refine lv_iconst (v := 0) hx hb dX4_carryOut_15 (by decide) ?_
        refine lv_istore (lv' := [(4, .int (0 : Int32)), (3, .int (x2_2 * (16 : Int32))), (0, .ref h0), (1, .ref q_p1), (2, .int x2_2)]) hx hb dX4_carryOut_16 hl (by decide) rfl (fun ls hl => ?_)
        have LP_2160 : ∀ (n : Nat) (x4_18 : Int32) (v_cells_18 : (Nat → Int64)) (w : (Nat → Int64)) (H : Heap) (locs : List Loc) (ls : Array Slot), L_X4_carryOut_18 v_rows v_line x2_2 v_p1_cells_2 n x4_18 v_cells_18 = some w → va_P (dC, dI) vwCl [(h0, .inr (2, [.ref q_line, .ref q_before, .ref q_keys, .ref q_tags, .ref q_cells, .ref q_unlike, .int v_rows, .int v_proper])), (q_line, .inl (cI, 16, .inl v_line)), (q_tags, .inl (cI, 16, .inl v_tags)), (q_cells, .inl (cJ, 16, .inr (.inl v_cells_18))), (q_p1, .inr (6, [.ref q_p1_kinds, .ref q_p1_tags, .ref q_p1_cells, .int v_p1_columns, .int v_p1_rows])), (q_p1_tags, .inl (cI, 16, .inl v_p1_tags)), (q_p1_cells, .inl (cJ, 96, .inr (.inl v_p1_cells_2)))] H → va_D A [(h0, .inr (2, [.ref q_line, .ref q_before, .ref q_keys, .ref q_tags, .ref q_cells, .ref q_unlike, .int v_rows, .int v_proper])), (q_line, .inl (cI, 16, .inl v_line)), (q_tags, .inl (cI, 16, .inl v_tags)), (q_cells, .inl (cJ, 16, .inr (.inl v_cells_18))), (q_p1, .inr (6, [.ref q_p1_kinds, .ref q_p1_tags, .ref q_p1_cells, .int v_p1_columns, .int v_p1_rows])), (q_p1_tags, .inl (cI, 16, .inl v_p1_tags)), (q_p1_cells, .inl (cJ, 96, .inr (.inl v_p1_cells_2)))] → va_S A s.heap H locs → lv_has ls 5 [(0, .ref h0), (1, .ref q_p1), (2, .int x2_2), (3, .int (x2_2 * (16 : Int32))), (4, .int x4_18)] → (∀ (H : Heap) (locs : List Loc) (ls : Array Slot), va_P (dC, dI) vwCl [(h0, .inr (2, [.ref q_line, .ref q_before, .ref q_keys, .ref q_tags, .ref q_cells, .ref q_unlike, .int v_rows, .int v_proper])), (q_line, .inl (cI, 16, .inl v_line)), (q_tags, .inl (cI, 16, .inl v_tags)), (q_cells, .inl (cJ, 16, .inr (.inl w))), (q_p1, .inr (6, [.ref q_p1_kinds, .ref q_p1_tags, .ref q_p1_cells, .int v_p1_columns, .int v_p1_rows])), (q_p1_tags, .inl (cI, 16, .inl v_p1_tags)), (q_p1_cells, .inl (cJ, 96, .inr (.inl v_p1_cells_2)))] H → va_D A [(h0, .inr (2, [.ref q_line, .ref q_before, .ref q_keys, .ref q_tags, .ref q_cells, .ref q_unlike, .int v_rows, .int v_proper])), (q_line, .inl (cI, 16, .inl v_line)), (q_tags, .inl (cI, 16, .inl v_tags)), (q_cells, .inl (cJ, 16, .inr (.inl w))), (q_p1, .inr (6, [.ref q_p1_kinds, .ref q_p1_tags, .ref q_p1_cells, .int v_p1_columns, .int v_p1_rows])), (q_p1_tags, .inl (cI, 16, .inl v_p1_tags)), (q_p1_cells, .inl (cJ, 96, .inr (.inl v_p1_cells_2)))] → va_S A s.heap H locs → lv_has ls 5 [(0, .ref h0), (1, .ref q_p1), (2, .int x2_2), (3, .int (x2_2 * (16 : Int32)))] → W p l e rm_X4_carryOut s m args below meth c H locs 0 0 QQ (F0 m 54 ls [])) → W p l e rm_X4_carryOut s m args below meth c H locs 0 0 QQ (F0 m 18 ls []) := by
          intro n
          induction n with
          | zero => intro x4_18 v_cells_18 w H locs ls h; exact absurd (show none = some w from h) nofun
          | succ n ih =>
            intro x4_18 v_cells_18 w H locs ls h hP hD hS hl K
            rw [L_X4_carryOut_18] at h
            refine lv_iload hx hb dX4_carryOut_18 (lv_at hl 4 rfl) ?_
            refine lv_aload_n hx hb dX4_carryOut_20 rfl (lv_at hl 0 rfl) ?_
            refine va_get (D := (dC, dI)) (ci := 2) (v := .int v_rows) (C := RX4) (T := TX4) (N := 8) hx hb hts hi_X4 hown hK hP 0 rfl rfl 6 (by decide) (hts _ (List.mem_of_getElem? (i := 2) rfl)) (fun _ h9 => h9) rfl dX4_carryOut_21 ?_
            refine lv_icmp_ge (tgt := 54) hx hb dX4_carryOut_24 (by decide) (fun c_2156 => ?_) (fun c_2156 => ?_)
            · replace h := op c_2156 h
              have ho := Option.some.inj h
              subst ho
              exact K H _ ls hP hD hS (lv_sub hl [0, 1, 2, 3] rfl)
            · replace h := on c_2156 h
              refine lv_aload_n hx hb dX4_carryOut_27 rfl (lv_at hl 0 rfl) ?_
              refine va_get (D := (dC, dI)) (ci := 2) (v := .ref q_cells) (C := RX4) (T := TX4) (N := 8) hx hb hts hi_X4 hown hK hP 0 rfl rfl 4 (by decide) (hts _ (List.mem_of_getElem? (i := 3) rfl)) (fun _ h9 => h9) rfl dX4_carryOut_28 ?_
              refine lv_iload hx hb dX4_carryOut_31 (lv_at hl 4 rfl) ?_
              refine lv_aload_n hx hb dX4_carryOut_33 rfl (lv_at hl 1 rfl) ?_
              refine va_get (D := (dC, dI)) (ci := 6) (v := .ref q_p1_cells) (C := RX8) (T := TX8) (N := 5) hx hb hts hi_X8 hown hK hP 4 rfl rfl 2 (by decide) (hts _ (List.mem_of_getElem? (i := 4) rfl)) (fun _ h9 => h9) rfl dX4_carryOut_34 ?_
              refine lv_iload_n hx hb dX4_carryOut_37 rfl (lv_at hl 3 rfl) ?_
              refine lv_aload_n hx hb dX4_carryOut_38 rfl (lv_at hl 0 rfl) ?_
              refine va_get (D := (dC, dI)) (ci := 2) (v := .ref q_line) (C := RX4) (T := TX4) (N := 8) hx hb hts hi_X4 hown hK hP 0 rfl rfl 0 (by decide) (hts _ (List.mem_of_getElem? (i := 5) rfl)) (fun _ h9 => h9) rfl dX4_carryOut_39 ?_
              refine lv_iload hx hb dX4_carryOut_42 (lv_at hl 4 rfl) ?_
              obtain ⟨hi_2157, h⟩ := og h
              refine va_iald hx hb hK hP 1 0 rfl rfl hi_2157 dX4_carryOut_44 ?_
              refine lv_iadd hx hb dX4_carryOut_45 ?_
              obtain ⟨hi_2158, h⟩ := og h
              refine va_lald hx hb hK hP 6 1 rfl rfl hi_2158 dX4_carryOut_46 ?_
              obtain ⟨hi_2159, h⟩ := og h
              refine va_last hx hb hK hP hD hS 3 1 rfl rfl hi_2159 dX4_carryOut_47 (fun H locs hP hD hS => ?_)
              replace hP : va_P (dC, dI) vwCl [(h0, .inr (2, [.ref q_line, .ref q_before, .ref q_keys, .ref q_tags, .ref q_cells, .ref q_unlike, .int v_rows, .int v_proper])), (q_line, .inl (cI, 16, .inl v_line)), (q_tags, .inl (cI, 16, .inl v_tags)), (q_cells, .inl (cJ, 16, .inr (.inl (vp_updL v_cells_18 (x4_18).toNatClampNeg (v_p1_cells_2 (((x2_2 * (16 : Int32)) + (v_line (x4_18).toNatClampNeg))).toNatClampNeg))))), (q_p1, .inr (6, [.ref q_p1_kinds, .ref q_p1_tags, .ref q_p1_cells, .int v_p1_columns, .int v_p1_rows])), (q_p1_tags, .inl (cI, 16, .inl v_p1_tags)), (q_p1_cells, .inl (cJ, 96, .inr (.inl v_p1_cells_2)))] H := hP
              replace hD : va_D A [(h0, .inr (2, [.ref q_line, .ref q_before, .ref q_keys, .ref q_tags, .ref q_cells, .ref q_unlike, .int v_rows, .int v_proper])), (q_line, .inl (cI, 16, .inl v_line)), (q_tags, .inl (cI, 16, .inl v_tags)), (q_cells, .inl (cJ, 16, .inr (.inl (vp_updL v_cells_18 (x4_18).toNatClampNeg (v_p1_cells_2 (((x2_2 * (16 : Int32)) + (v_line (x4_18).toNatClampNeg))).toNatClampNeg))))), (q_p1, .inr (6, [.ref q_p1_kinds, .ref q_p1_tags, .ref q_p1_cells, .int v_p1_columns, .int v_p1_rows])), (q_p1_tags, .inl (cI, 16, .inl v_p1_tags)), (q_p1_cells, .inl (cJ, 96, .inr (.inl v_p1_cells_2)))] := hD
              refine lv_iinc (v := (x4_18 + 1)) (lv' := [(4, .int (x4_18 + 1)), (0, .ref h0), (1, .ref q_p1), (2, .int x2_2), (3, .int (x2_2 * (16 : Int32)))]) hx hb dX4_carryOut_48 hl (k := 4) rfl (by rfl) (by decide) rfl (fun ls hl => ?_)
              refine lv_goto (tgt := 18) hx hb dX4_carryOut_51 (by decide) ?_
              exact ih (x4_18 + 1) (vp_updL v_cells_18 (x4_18).toNatClampNeg (v_p1_cells_2 (((x2_2 * (16 : Int32)) + (v_line (x4_18).toNatClampNeg))).toNatClampNeg)) w H _ ls h hP hD hS (lv_sub hl [1, 2, 3, 4, 0] rfl) K
        obtain ⟨w_2160, hw_2160, h⟩ := ob h
        refine LP_2160 fu (0 : Int32) v_cells_2 w_2160 H _ ls hw_2160 hP hD hS (lv_sub hl [2, 3, 4, 1, 0] rfl) (fun H locs ls hP hD hS hl => ?_)
        refine lv_aload_n hx hb dX4_carryOut_54 rfl (lv_at hl 0 rfl) ?_
        refine va_get (D := (dC, dI)) (ci := 2) (v := .ref q_cells) (C := RX4) (T := TX4) (N := 8) hx hb hts hi_X4 hown hK hP 0 rfl rfl 4 (by decide) (hts _ (List.mem_of_getElem? (i := 3) rfl)) (fun _ h9 => h9) rfl dX4_carryOut_55 ?_
        refine lv_iconst (v := 0) hx hb dX4_carryOut_58 (by decide) ?_
        refine lv_aload_n hx hb dX4_carryOut_59 rfl (lv_at hl 1 rfl) ?_
        refine va_get (D := (dC, dI)) (ci := 6) (v := .ref q_p1_cells) (C := RX8) (T := TX8) (N := 5) hx hb hts hi_X8 hown hK hP 4 rfl rfl 2 (by decide) (hts _ (List.mem_of_getElem? (i := 4) rfl)) (fun _ h9 => h9) rfl dX4_carryOut_60 ?_
        refine lv_iload_n hx hb dX4_carryOut_63 rfl (lv_at hl 3 rfl) ?_
        refine lv_aload_n hx hb dX4_carryOut_64 rfl (lv_at hl 0 rfl) ?_
        refine va_get (D := (dC, dI)) (ci := 2) (v := .int v_rows) (C := RX4) (T := TX4) (N := 8) hx hb hts hi_X4 hown hK hP 0 rfl rfl 6 (by decide) (hts _ (List.mem_of_getElem? (i := 2) rfl)) (fun _ h9 => h9) rfl dX4_carryOut_65 ?_
        obtain ⟨hi_2161, h⟩ := og h
        refine va_copyl (ty := .long) hx hb (hml.trans hl.1.symm) hown (hts _ (List.mem_of_getElem? (i := 6) rfl)) (hts _ (List.mem_of_getElem? (i := 7) rfl)) (hts _ (List.mem_of_getElem? (i := 8) rfl)) (hts _ (List.mem_of_getElem? (i := 9) rfl)) hK hP hD hS 3 6 1 1 rfl rfl rfl rfl rfl (fun q => hi_2161 (Or.inl q)) (fun q => hi_2161 (Or.inr (Or.inl q))) (fun q => hi_2161 (Or.inr (Or.inr (Or.inl q)))) (Nat.le_of_not_lt (fun q => hi_2161 (Or.inr (Or.inr (Or.inr (Or.inl q)))))) (Nat.le_of_not_lt (fun q => hi_2161 (Or.inr (Or.inr (Or.inr (Or.inr q)))))) (fun _ _ => rfl) (Nat.le_of_ble_eq_true rfl) (Nat.le_of_ble_eq_true rfl) dX4_carryOut_68 (fun H locs hP hD hS => ?_)
        replace hP : va_P (dC, dI) vwCl [(h0, .inr (2, [.ref q_line, .ref q_before, .ref q_keys, .ref q_tags, .ref q_cells, .ref q_unlike, .int v_rows, .int v_proper])), (q_line, .inl (cI, 16, .inl v_line)), (q_tags, .inl (cI, 16, .inl v_tags)), (q_cells, .inl (cJ, 16, .inr (.inl w_2160))), (q_p1, .inr (6, [.ref q_p1_kinds, .ref q_p1_tags, .ref q_p1_cells, .int v_p1_columns, .int v_p1_rows])), (q_p1_tags, .inl (cI, 16, .inl v_p1_tags)), (q_p1_cells, .inl (cJ, 96, .inr (.inl (va_cpy w_2160 v_p1_cells_2 ((0 : Int32)).toNatClampNeg ((x2_2 * (16 : Int32))).toNatClampNeg (v_rows).toNatClampNeg))))] H := hP
        replace hD : va_D A [(h0, .inr (2, [.ref q_line, .ref q_before, .ref q_keys, .ref q_tags, .ref q_cells, .ref q_unlike, .int v_rows, .int v_proper])), (q_line, .inl (cI, 16, .inl v_line)), (q_tags, .inl (cI, 16, .inl v_tags)), (q_cells, .inl (cJ, 16, .inr (.inl w_2160))), (q_p1, .inr (6, [.ref q_p1_kinds, .ref q_p1_tags, .ref q_p1_cells, .int v_p1_columns, .int v_p1_rows])), (q_p1_tags, .inl (cI, 16, .inl v_p1_tags)), (q_p1_cells, .inl (cJ, 96, .inr (.inl (va_cpy w_2160 v_p1_cells_2 ((0 : Int32)).toNatClampNeg ((x2_2 * (16 : Int32))).toNatClampNeg (v_rows).toNatClampNeg))))] := hD
        refine lv_iinc (v := (x2_2 + 1)) (lv' := [(2, .int (x2_2 + 1)), (0, .ref h0), (1, .ref q_p1), (3, .int (x2_2 * (16 : Int32)))]) hx hb dX4_carryOut_71 hl (k := 2) rfl (by rfl) (by decide) rfl (fun ls hl => ?_)
        refine lv_goto (tgt := 2) hx hb dX4_carryOut_74 (by decide) ?_
        exact ih (x2_2 + 1) w_2160 (va_cpy w_2160 v_p1_cells_2 ((0 : Int32)).toNatClampNeg ((x2_2 * (16 : Int32))).toNatClampNeg (v_rows).toNatClampNeg) w H _ ls h hP hD hS (lv_sub hl [1, 2, 0] rfl) K
  obtain ⟨w_2162, hw_2162, h⟩ := ob h
  refine LP_2162 fu (0 : Int32) v_cells v_p1_cells w_2162 s.heap _ ls hw_2162 hP hD hS (lv_sub hl [1, 2, 0] rfl) (fun H locs ls hP hD hS hl => ?_)
  refine lv_iconst (v := 0) hx hb dX4_carryOut_77 (by decide) ?_
  refine lv_istore_n (lv' := [(2, .int (0 : Int32)), (0, .ref h0), (1, .ref q_p1)]) hx hb dX4_carryOut_78 rfl hl (by decide) rfl (fun ls hl => ?_)
  refine lv_iconst (v := 0) hx hb dX4_carryOut_79 (by decide) ?_
  refine lv_istore_n (lv' := [(3, .int (0 : Int32)), (2, .int (0 : Int32)), (0, .ref h0), (1, .ref q_p1)]) hx hb dX4_carryOut_80 rfl hl (by decide) rfl (fun ls hl => ?_)
  have LP_2169 : ∀ (n : Nat) (x2_81 : Int32) (x3_81 : Int32) (v_tags_81 : (Nat → Int32)) (w : (Int32 × (Nat → Int32))) (H : Heap) (locs : List Loc) (ls : Array Slot), L_X4_carryOut_81 v_rows v_line v_p1_tags n x2_81 x3_81 v_tags_81 = some w → va_P (dC, dI) vwCl [(h0, .inr (2, [.ref q_line, .ref q_before, .ref q_keys, .ref q_tags, .ref q_cells, .ref q_unlike, .int v_rows, .int v_proper])), (q_line, .inl (cI, 16, .inl v_line)), (q_tags, .inl (cI, 16, .inl v_tags_81)), (q_cells, .inl (cJ, 16, .inr (.inl w_2162.1))), (q_p1, .inr (6, [.ref q_p1_kinds, .ref q_p1_tags, .ref q_p1_cells, .int v_p1_columns, .int v_p1_rows])), (q_p1_tags, .inl (cI, 16, .inl v_p1_tags)), (q_p1_cells, .inl (cJ, 96, .inr (.inl w_2162.2)))] H → va_D A [(h0, .inr (2, [.ref q_line, .ref q_before, .ref q_keys, .ref q_tags, .ref q_cells, .ref q_unlike, .int v_rows, .int v_proper])), (q_line, .inl (cI, 16, .inl v_line)), (q_tags, .inl (cI, 16, .inl v_tags_81)), (q_cells, .inl (cJ, 16, .inr (.inl w_2162.1))), (q_p1, .inr (6, [.ref q_p1_kinds, .ref q_p1_tags, .ref q_p1_cells, .int v_p1_columns, .int v_p1_rows])), (q_p1_tags, .inl (cI, 16, .inl v_p1_tags)), (q_p1_cells, .inl (cJ, 96, .inr (.inl w_2162.2)))] → va_S A s.heap H locs → lv_has ls 5 [(0, .ref h0), (1, .ref q_p1), (2, .int x2_81), (3, .int x3_81)] → (∀ (H : Heap) (locs : List Loc) (ls : Array Slot), va_P (dC, dI) vwCl [(h0, .inr (2, [.ref q_line, .ref q_before, .ref q_keys, .ref q_tags, .ref q_cells, .ref q_unlike, .int v_rows, .int v_proper])), (q_line, .inl (cI, 16, .inl v_line)), (q_tags, .inl (cI, 16, .inl w.2)), (q_cells, .inl (cJ, 16, .inr (.inl w_2162.1))), (q_p1, .inr (6, [.ref q_p1_kinds, .ref q_p1_tags, .ref q_p1_cells, .int v_p1_columns, .int v_p1_rows])), (q_p1_tags, .inl (cI, 16, .inl v_p1_tags)), (q_p1_cells, .inl (cJ, 96, .inr (.inl w_2162.2)))] H → va_D A [(h0, .inr (2, [.ref q_line, .ref q_before, .ref q_keys, .ref q_tags, .ref q_cells, .ref q_unlike, .int v_rows, .int v_proper])), (q_line, .inl (cI, 16, .inl v_line)), (q_tags, .inl (cI, 16, .inl w.2)), (q_cells, .inl (cJ, 16, .inr (.inl w_2162.1))), (q_p1, .inr (6, [.ref q_p1_kinds, .ref q_p1_tags, .ref q_p1_cells, .int v_p1_columns, .int v_p1_rows])), (q_p1_tags, .inl (cI, 16, .inl v_p1_tags)), (q_p1_cells, .inl (cJ, 96, .inr (.inl w_2162.2)))] → va_S A s.heap H locs → lv_has ls 5 [(0, .ref h0), (1, .ref q_p1), (2, .int w.1)] → W p l e rm_X4_carryOut s m args below meth c H locs 0 0 QQ (F0 m 125 ls [])) → W p l e rm_X4_carryOut s m args below meth c H locs 0 0 QQ (F0 m 81 ls []) := by
    intro n
    induction n with
    | zero => intro x2_81 x3_81 v_tags_81 w H locs ls h; exact absurd (show none = some w from h) nofun
    | succ n ih =>
      intro x2_81 x3_81 v_tags_81 w H locs ls h hP hD hS hl K
      rw [L_X4_carryOut_81] at h
      refine lv_iload_n hx hb dX4_carryOut_81 rfl (lv_at hl 3 rfl) ?_
      refine lv_aload_n hx hb dX4_carryOut_82 rfl (lv_at hl 0 rfl) ?_
      refine va_get (D := (dC, dI)) (ci := 2) (v := .int v_rows) (C := RX4) (T := TX4) (N := 8) hx hb hts hi_X4 hown hK hP 0 rfl rfl 6 (by decide) (hts _ (List.mem_of_getElem? (i := 2) rfl)) (fun _ h9 => h9) rfl dX4_carryOut_83 ?_
      refine lv_icmp_ge (tgt := 125) hx hb dX4_carryOut_86 (by decide) (fun c_2163 => ?_) (fun c_2163 => ?_)
      · replace h := op c_2163 h
        have ho := Option.some.inj h
        subst ho
        exact K H _ ls hP hD hS (lv_sub hl [0, 1, 2] rfl)
      · replace h := on c_2163 h
        refine lv_aload_n hx hb dX4_carryOut_89 rfl (lv_at hl 0 rfl) ?_
        refine va_get (D := (dC, dI)) (ci := 2) (v := .ref q_tags) (C := RX4) (T := TX4) (N := 8) hx hb hts hi_X4 hown hK hP 0 rfl rfl 3 (by decide) (hts _ (List.mem_of_getElem? (i := 10) rfl)) (fun _ h9 => h9) rfl dX4_carryOut_90 ?_
        refine lv_iload_n hx hb dX4_carryOut_93 rfl (lv_at hl 3 rfl) ?_
        refine lv_aload_n hx hb dX4_carryOut_94 rfl (lv_at hl 1 rfl) ?_
        refine va_get (D := (dC, dI)) (ci := 6) (v := .ref q_p1_tags) (C := RX8) (T := TX8) (N := 5) hx hb hts hi_X8 hown hK hP 4 rfl rfl 1 (by decide) (hts _ (List.mem_of_getElem? (i := 11) rfl)) (fun _ h9 => h9) rfl dX4_carryOut_95 ?_
        refine lv_aload_n hx hb dX4_carryOut_98 rfl (lv_at hl 0 rfl) ?_
        refine va_get (D := (dC, dI)) (ci := 2) (v := .ref q_line) (C := RX4) (T := TX4) (N := 8) hx hb hts hi_X4 hown hK hP 0 rfl rfl 0 (by decide) (hts _ (List.mem_of_getElem? (i := 5) rfl)) (fun _ h9 => h9) rfl dX4_carryOut_99 ?_
        refine lv_iload_n hx hb dX4_carryOut_102 rfl (lv_at hl 3 rfl) ?_
        obtain ⟨hi_2164, h⟩ := og h
        refine va_iald hx hb hK hP 1 0 rfl rfl hi_2164 dX4_carryOut_103 ?_
        obtain ⟨hi_2165, h⟩ := og h
        refine va_iald hx hb hK hP 5 0 rfl rfl hi_2165 dX4_carryOut_104 ?_
        obtain ⟨hi_2166, h⟩ := og h
        refine va_iast hx hb hK hP hD hS 2 0 rfl rfl hi_2166 dX4_carryOut_105 (fun H locs hP hD hS => ?_)
        replace hP : va_P (dC, dI) vwCl [(h0, .inr (2, [.ref q_line, .ref q_before, .ref q_keys, .ref q_tags, .ref q_cells, .ref q_unlike, .int v_rows, .int v_proper])), (q_line, .inl (cI, 16, .inl v_line)), (q_tags, .inl (cI, 16, .inl (upd v_tags_81 (x3_81).toNatClampNeg (v_p1_tags ((v_line (x3_81).toNatClampNeg)).toNatClampNeg)))), (q_cells, .inl (cJ, 16, .inr (.inl w_2162.1))), (q_p1, .inr (6, [.ref q_p1_kinds, .ref q_p1_tags, .ref q_p1_cells, .int v_p1_columns, .int v_p1_rows])), (q_p1_tags, .inl (cI, 16, .inl v_p1_tags)), (q_p1_cells, .inl (cJ, 96, .inr (.inl w_2162.2)))] H := hP
        replace hD : va_D A [(h0, .inr (2, [.ref q_line, .ref q_before, .ref q_keys, .ref q_tags, .ref q_cells, .ref q_unlike, .int v_rows, .int v_proper])), (q_line, .inl (cI, 16, .inl v_line)), (q_tags, .inl (cI, 16, .inl (upd v_tags_81 (x3_81).toNatClampNeg (v_p1_tags ((v_line (x3_81).toNatClampNeg)).toNatClampNeg)))), (q_cells, .inl (cJ, 16, .inr (.inl w_2162.1))), (q_p1, .inr (6, [.ref q_p1_kinds, .ref q_p1_tags, .ref q_p1_cells, .int v_p1_columns, .int v_p1_rows])), (q_p1_tags, .inl (cI, 16, .inl v_p1_tags)), (q_p1_cells, .inl (cJ, 96, .inr (.inl w_2162.2)))] := hD
        refine lv_aload_n hx hb dX4_carryOut_106 rfl (lv_at hl 0 rfl) ?_
        refine va_get (D := (dC, dI)) (ci := 2) (v := .ref q_line) (C := RX4) (T := TX4) (N := 8) hx hb hts hi_X4 hown hK hP 0 rfl rfl 0 (by decide) (hts _ (List.mem_of_getElem? (i := 5) rfl)) (fun _ h9 => h9) rfl dX4_carryOut_107 ?_
        refine lv_iload_n hx hb dX4_carryOut_110 rfl (lv_at hl 3 rfl) ?_
        obtain ⟨hi_2167, h⟩ := og h
        refine va_iald hx hb hK hP 1 0 rfl rfl hi_2167 dX4_carryOut_111 ?_
        refine lv_iload_n hx hb dX4_carryOut_112 rfl (lv_at hl 3 rfl) ?_
        refine lv_icmp_eq (tgt := 119) hx hb dX4_carryOut_113 (by decide) (fun c_2168 => ?_) (fun c_2168 => ?_)
        · replace h := op c_2168 h
          refine lv_iinc (v := (x3_81 + 1)) (lv' := [(3, .int (x3_81 + 1)), (0, .ref h0), (1, .ref q_p1), (2, .int x2_81)]) hx hb dX4_carryOut_119 hl (k := 3) rfl (by rfl) (by decide) rfl (fun ls hl => ?_)
          refine lv_goto (tgt := 81) hx hb dX4_carryOut_122 (by decide) ?_
          exact ih x2_81 (x3_81 + 1) (upd v_tags_81 (x3_81).toNatClampNeg (v_p1_tags ((v_line (x3_81).toNatClampNeg)).toNatClampNeg)) w H _ ls h hP hD hS (lv_sub hl [1, 2, 3, 0] rfl) K
        · replace h := on c_2168 h
          refine lv_iinc (v := (x2_81 + 1)) (lv' := [(2, .int (x2_81 + 1)), (0, .ref h0), (1, .ref q_p1), (3, .int x3_81)]) hx hb dX4_carryOut_116 hl (k := 2) rfl (by rfl) (by decide) rfl (fun ls hl => ?_)
          refine lv_iinc (v := (x3_81 + 1)) (lv' := [(3, .int (x3_81 + 1)), (2, .int (x2_81 + 1)), (0, .ref h0), (1, .ref q_p1)]) hx hb dX4_carryOut_119 hl (k := 3) rfl (by rfl) (by decide) rfl (fun ls hl => ?_)
          refine lv_goto (tgt := 81) hx hb dX4_carryOut_122 (by decide) ?_
          exact ih (x2_81 + 1) (x3_81 + 1) (upd v_tags_81 (x3_81).toNatClampNeg (v_p1_tags ((v_line (x3_81).toNatClampNeg)).toNatClampNeg)) w H _ ls h hP hD hS (lv_sub hl [2, 3, 1, 0] rfl) K
  obtain ⟨w_2169, hw_2169, h⟩ := ob h
  refine LP_2169 fu (0 : Int32) (0 : Int32) v_tags w_2169 H _ ls hw_2169 hP hD hS (lv_sub hl [2, 3, 1, 0] rfl) (fun H locs ls hP hD hS hl => ?_)
  refine lv_aload_n hx hb dX4_carryOut_125 rfl (lv_at hl 0 rfl) ?_
  refine va_get (D := (dC, dI)) (ci := 2) (v := .ref q_tags) (C := RX4) (T := TX4) (N := 8) hx hb hts hi_X4 hown hK hP 0 rfl rfl 3 (by decide) (hts _ (List.mem_of_getElem? (i := 10) rfl)) (fun _ h9 => h9) rfl dX4_carryOut_126 ?_
  refine lv_iconst (v := 0) hx hb dX4_carryOut_129 (by decide) ?_
  refine lv_aload_n hx hb dX4_carryOut_130 rfl (lv_at hl 1 rfl) ?_
  refine va_get (D := (dC, dI)) (ci := 6) (v := .ref q_p1_tags) (C := RX8) (T := TX8) (N := 5) hx hb hts hi_X8 hown hK hP 4 rfl rfl 1 (by decide) (hts _ (List.mem_of_getElem? (i := 11) rfl)) (fun _ h9 => h9) rfl dX4_carryOut_131 ?_
  refine lv_iconst (v := 0) hx hb dX4_carryOut_134 (by decide) ?_
  refine lv_aload_n hx hb dX4_carryOut_135 rfl (lv_at hl 0 rfl) ?_
  refine va_get (D := (dC, dI)) (ci := 2) (v := .int v_rows) (C := RX4) (T := TX4) (N := 8) hx hb hts hi_X4 hown hK hP 0 rfl rfl 6 (by decide) (hts _ (List.mem_of_getElem? (i := 2) rfl)) (fun _ h9 => h9) rfl dX4_carryOut_136 ?_
  obtain ⟨hi_2170, h⟩ := og h
  refine va_copyi (ty := .int) hx hb (hml.trans hl.1.symm) hown (hts _ (List.mem_of_getElem? (i := 6) rfl)) (hts _ (List.mem_of_getElem? (i := 7) rfl)) (hts _ (List.mem_of_getElem? (i := 8) rfl)) (hts _ (List.mem_of_getElem? (i := 9) rfl)) hK hP hD hS 2 5 0 0 rfl rfl rfl rfl rfl (fun q => hi_2170 (Or.inl q)) (fun q => hi_2170 (Or.inr (Or.inl q))) (fun q => hi_2170 (Or.inr (Or.inr (Or.inl q)))) (Nat.le_of_not_lt (fun q => hi_2170 (Or.inr (Or.inr (Or.inr (Or.inl q)))))) (Nat.le_of_not_lt (fun q => hi_2170 (Or.inr (Or.inr (Or.inr (Or.inr q)))))) (fun _ _ => rfl) (Nat.le_of_ble_eq_true rfl) (Nat.le_of_ble_eq_true rfl) dX4_carryOut_139 (fun H locs hP hD hS => ?_)
  replace hP : va_P (dC, dI) vwCl [(h0, .inr (2, [.ref q_line, .ref q_before, .ref q_keys, .ref q_tags, .ref q_cells, .ref q_unlike, .int v_rows, .int v_proper])), (q_line, .inl (cI, 16, .inl v_line)), (q_tags, .inl (cI, 16, .inl w_2169.2)), (q_cells, .inl (cJ, 16, .inr (.inl w_2162.1))), (q_p1, .inr (6, [.ref q_p1_kinds, .ref q_p1_tags, .ref q_p1_cells, .int v_p1_columns, .int v_p1_rows])), (q_p1_tags, .inl (cI, 16, .inl (va_cpy w_2169.2 v_p1_tags ((0 : Int32)).toNatClampNeg ((0 : Int32)).toNatClampNeg (v_rows).toNatClampNeg))), (q_p1_cells, .inl (cJ, 96, .inr (.inl w_2162.2)))] H := hP
  replace hD : va_D A [(h0, .inr (2, [.ref q_line, .ref q_before, .ref q_keys, .ref q_tags, .ref q_cells, .ref q_unlike, .int v_rows, .int v_proper])), (q_line, .inl (cI, 16, .inl v_line)), (q_tags, .inl (cI, 16, .inl w_2169.2)), (q_cells, .inl (cJ, 16, .inr (.inl w_2162.1))), (q_p1, .inr (6, [.ref q_p1_kinds, .ref q_p1_tags, .ref q_p1_cells, .int v_p1_columns, .int v_p1_rows])), (q_p1_tags, .inl (cI, 16, .inl (va_cpy w_2169.2 v_p1_tags ((0 : Int32)).toNatClampNeg ((0 : Int32)).toNatClampNeg (v_rows).toNatClampNeg))), (q_p1_cells, .inl (cJ, 96, .inr (.inl w_2162.2)))] := hD
  refine lv_iload_n hx hb dX4_carryOut_142 rfl (lv_at hl 2 rfl) ?_
  rw [hQQ]
  have ho := Option.some.inj h
  subst ho
  exact W.iret hx hb hr (fun t ht hW => ⟨⟨_, (), rfl, rfl, by rw [ht]; exact hP, va_K.moved hW.alike hK, hD⟩, hS.F ht⟩) hS.2.2 dX4_carryOut_143
