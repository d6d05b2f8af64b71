def f_X6_of (v_ranks : Nat → Int32) (x1 : Int32) (x2 : Int32) : Option Int32 :=
  (if ((x1 * (16 : Int32)) + x2) < 0 ∨ 96 ≤ (((x1 * (16 : Int32)) + x2)).toNatClampNeg then none else (some (v_ranks (((x1 * (16 : Int32)) + x2)).toNatClampNeg)))
abbrev rm_X6_of : Room := { frames := 0, cells := 0, slots := 0, locals := 0 }
set_option maxHeartbeats 4000000 in
set_option maxRecDepth 100000 in
theorem c_X6_of (l : Launch) (dC : Nat → ClassId) (dI : Nat → Nat → Nat) (cB cC cI cJ cZ cT : ClassId) (h0 q_distinct q_ranks q_weights q_isFirst : Nat) (v_ranks : Nat → Int32) (x1 : Int32) (x2 : Int32) (o : Int32) (hf : f_X6_of v_ranks x1 x2 = some o) : Met l yX6_of wsX6_of rm_X6_of (va_Pc [.ref h0, .int x1, .int x2] (fun U => va_P (dC, dI) vwCl [(h0, .inr (4, [.ref q_distinct, .ref q_ranks, .ref q_weights, .ref q_isFirst])), (q_ranks, .inl (cI, 96, .inl v_ranks))] U.heap ∧ va_K (dC, dI) vwCl (tyA cB cC cI cJ cZ cT) U)) (vp_Si (fun r => o = r)) 0 0 (fun _ => False) := by
  refine Met.ofW (cc := cX6_of) (maxL := 3) (ret := (some .int)) (by decide +kernel) rfl ?_
  intro p e s m args below meth c s₁ B hml hv
  obtain ⟨hav, hP, hK⟩ := hv
  have hx := B.exec
  have hb := B.bytes
  have hr := B.returns
  have hts := atoms_spec (ws := wsX6_of) B.pre
  have hown : s.vm.findClass RX6 = some m.cls := findClass_of_methodNamed B.named
  have hlocks := B.notSynchronized
  refine wstart (rm := rm_X6_of) hav (Nat.le_of_ble_eq_true rfl) (fun QQ ls hQQ hl => ?_)
  have hl : lv_has ls 3 [(0, .ref h0), (1, .int x1), (2, .int x2)] := hl
  have hi_X6 : ∀ w ∈ u_ws RX6 TX6 4, w ∈ wsX6_of := by decide +kernel
  have h := hf
  unfold f_X6_of at h
  refine lv_aload_n hx hb dX6_of_0 rfl (lv_at hl 0 rfl) ?_
  refine va_get (D := (dC, dI)) (ci := 4) (v := .ref q_ranks) (C := RX6) (T := TX6) (N := 4) hx hb hts hi_X6 hown hK hP 0 rfl rfl 1 (by decide) (hts _ (List.mem_of_getElem? (i := 1) rfl)) (fun _ h9 => h9) rfl dX6_of_1 ?_
  refine lv_iload_n hx hb dX6_of_4 rfl (lv_at hl 1 rfl) ?_
  refine lv_bipush (v := 16) hx hb dX6_of_5 (by decide) ?_
  refine lv_imul hx hb dX6_of_7 ?_
  refine lv_iload_n hx hb dX6_of_8 rfl (lv_at hl 2 rfl) ?_
  refine lv_iadd hx hb dX6_of_9 ?_
  obtain ⟨hi_1955, h⟩ := og h
  refine va_iald hx hb hK hP 1 0 rfl rfl hi_1955 dX6_of_10 ?_
  rw [hQQ]
  exact W.iret hx hb hr (fun t ht hW => ⟨_, rfl, (Option.some.inj h).symm, ht⟩) (fun q hq => absurd hq List.not_mem_nil) dX6_of_11
def L_X6_isNew_2 (v_weights : (Nat → Int64)) (x1 : Int32) : Nat → Int32 → Option (Unit ⊕ Bool)
  | 0, _ => none
  | n+1, x2_2 => (if x1 ≤ x2_2 then (some (.inl ())) else (if x2_2 < 0 ∨ 16 ≤ (x2_2).toNatClampNeg then none else (if x1 < 0 ∨ 16 ≤ (x1).toNatClampNeg then none else (if (lg_cmp (v_weights (x2_2).toNatClampNeg) (v_weights (x1).toNatClampNeg)) = 0 then (some (.inr false)) else (L_X6_isNew_2 v_weights x1 n (x2_2 + 1))))))
def f_X6_isNew (v_weights : Nat → Int64) (x1 : Int32) : Option Bool :=
  ((L_X6_isNew_2 v_weights x1 fu (0 : Int32)).bind (sm (fun u_1960 => (some true))))
abbrev rm_X6_isNew : Room := { frames := 0, cells := 0, slots := 0, locals := 0 }
set_option maxHeartbeats 4000000 in
set_option maxRecDepth 100000 in
theorem c_X6_isNew (l : Launch) (dC : Nat → ClassId) (dI : Nat → Nat → Nat) (cB cC cI cJ cZ cT : ClassId) (h0 q_distinct q_ranks q_weights q_isFirst : Nat) (v_weights : Nat → Int64) (x1 : Int32) (o : Bool) (hf : f_X6_isNew v_weights x1 = some o) : Met l yX6_isNew wsX6_isNew rm_X6_isNew (va_Pc [.ref h0, .int x1] (fun U => va_P (dC, dI) vwCl [(h0, .inr (4, [.ref q_distinct, .ref q_ranks, .ref q_weights, .ref q_isFirst])), (q_weights, .inl (cJ, 16, .inr (.inl v_weights)))] U.heap ∧ va_K (dC, dI) vwCl (tyA cB cC cI cJ cZ cT) U)) (vp_Si (fun r => b2i o = r)) 0 0 (fun _ => False) := by
  refine Met.ofW (cc := cX6_isNew) (maxL := 3) (ret := (some .boolean)) (by decide +kernel) rfl ?_
  intro p e s m args below meth c s₁ B hml hv
  obtain ⟨hav, hP, hK⟩ := hv
  have hx := B.exec
  have hb := B.bytes
  have hr := B.returns
  have hts := atoms_spec (ws := wsX6_isNew) B.pre
  have hown : s.vm.findClass RX6 = some m.cls := findClass_of_methodNamed B.named
  have hlocks := B.notSynchronized
  refine wstart (rm := rm_X6_isNew) hav (Nat.le_of_ble_eq_true rfl) (fun QQ ls hQQ hl => ?_)
  have hl : lv_has ls 3 [(0, .ref h0), (1, .int x1)] := hl
  have hi_X6 : ∀ w ∈ u_ws RX6 TX6 4, w ∈ wsX6_isNew := by decide +kernel
  have h := hf
  unfold f_X6_isNew at h
  refine lv_iconst (v := 0) hx hb dX6_isNew_0 (by decide) ?_
  refine lv_istore_n (lv' := [(2, .int (0 : Int32)), (0, .ref h0), (1, .int x1)]) hx hb dX6_isNew_1 rfl hl (by decide) rfl (fun ls hl => ?_)
  have LP_1960 : ∀ (n : Nat) (x2_2 : Int32) (w : (Unit ⊕ Bool)) (ls : Array Slot), L_X6_isNew_2 v_weights x1 n x2_2 = some w → lv_has ls 3 [(0, .ref h0), (1, .int x1), (2, .int x2_2)] → (∀ u : Unit, w = .inl u → ∀ (ls : Array Slot), lv_has ls 3 [] → W p l e rm_X6_isNew s m args below meth c s.heap [] 0 0 QQ (F0 m 31 ls [])) → (∀ r : Bool, w = .inr r → some r = some o) → W p l e rm_X6_isNew s m args below meth c s.heap [] 0 0 QQ (F0 m 2 ls []) := by
    intro n
    induction n with
    | zero => intro x2_2 w ls h; exact absurd (show none = some w from h) nofun
    | succ n ih =>
      intro x2_2 w ls h hl K KR
      rw [L_X6_isNew_2] at h
      refine lv_iload_n hx hb dX6_isNew_2 rfl (lv_at hl 2 rfl) ?_
      refine lv_iload_n hx hb dX6_isNew_3 rfl (lv_at hl 1 rfl) ?_
      refine lv_icmp_ge (tgt := 31) hx hb dX6_isNew_4 (by decide) (fun c_1956 => ?_) (fun c_1956 => ?_)
      · replace h := op c_1956 h
        have ho := Option.some.inj h
        subst ho
        exact K _ rfl ls (lv_sub hl [] rfl)
      · replace h := on c_1956 h
        refine lv_aload_n hx hb dX6_isNew_7 rfl (lv_at hl 0 rfl) ?_
        refine va_get (D := (dC, dI)) (ci := 4) (v := .ref q_weights) (C := RX6) (T := TX6) (N := 4) hx hb hts hi_X6 hown hK hP 0 rfl rfl 2 (by decide) (hts _ (List.mem_of_getElem? (i := 1) rfl)) (fun _ h9 => h9) rfl dX6_isNew_8 ?_
        refine lv_iload_n hx hb dX6_isNew_11 rfl (lv_at hl 2 rfl) ?_
        obtain ⟨hi_1957, h⟩ := og h
        refine va_lald hx hb hK hP 1 1 rfl rfl hi_1957 dX6_isNew_12 ?_
        refine lv_aload_n hx hb dX6_isNew_13 rfl (lv_at hl 0 rfl) ?_
        refine va_get (D := (dC, dI)) (ci := 4) (v := .ref q_weights) (C := RX6) (T := TX6) (N := 4) hx hb hts hi_X6 hown hK hP 0 rfl rfl 2 (by decide) (hts _ (List.mem_of_getElem? (i := 1) rfl)) (fun _ h9 => h9) rfl dX6_isNew_14 ?_
        refine lv_iload_n hx hb dX6_isNew_17 rfl (lv_at hl 1 rfl) ?_
        obtain ⟨hi_1958, h⟩ := og h
        refine va_lald hx hb hK hP 1 1 rfl rfl hi_1958 dX6_isNew_18 ?_
        refine W.lcmp hx hb dX6_isNew_19 ?_
        refine lv_if_ne (tgt := 25) hx hb dX6_isNew_20 (by decide) (fun c_1959 => ?_) (fun c_1959 => ?_)
        · replace h := on c_1959 h
          refine lv_iinc (v := (x2_2 + 1)) (lv' := [(2, .int (x2_2 + 1)), (0, .ref h0), (1, .int x1)]) hx hb dX6_isNew_25 hl (k := 2) rfl (by rfl) (by decide) rfl (fun ls hl => ?_)
          refine lv_goto (tgt := 2) hx hb dX6_isNew_28 (by decide) ?_
          exact ih (x2_2 + 1) w ls h (lv_sub hl [1, 2, 0] rfl) K KR
        · replace h := op c_1959 h
          refine lv_iconst (v := 0) hx hb dX6_isNew_23 (by decide) ?_
          replace h := KR _ (Option.some.inj h).symm
          rw [hQQ]
          exact W.zret hx hb hr rfl (fun t ht hW => ⟨_, rfl, (congrArg b2i (Option.some.inj h).symm), ht⟩) (fun q hq => absurd hq List.not_mem_nil) dX6_isNew_24
  obtain ⟨w_1960, hw_1960, h⟩ := ob h
  refine LP_1960 fu (0 : Int32) w_1960 ls hw_1960 (lv_sub hl [1, 2, 0] rfl) (fun u_1960 e_1960 ls hl => ?_) (fun r_1960 e_1960 => by subst e_1960; exact h)
  subst e_1960
  replace h := sm_l h
  refine lv_iconst (v := 1) hx hb dX6_isNew_31 (by decide) ?_
  rw [hQQ]
  exact W.zret hx hb hr rfl (fun t ht hW => ⟨_, rfl, (congrArg b2i (Option.some.inj h).symm), ht⟩) (fun q hq => absurd hq List.not_mem_nil) dX6_isNew_32
def L_X6_lesserOnes_5 (v_weights : (Nat → Int64)) (v_isFirst : (Nat → Int32)) (x1 : Int32) (x2 : Int32) : Nat → Int32 → Int32 → Option Int32
  | 0, _, _ => none
  | n+1, x3_5, x4_5 => (if x2 ≤ x4_5 then (some x3_5) else (if x4_5 < 0 ∨ 16 ≤ (x4_5).toNatClampNeg then none else (if (v_isFirst (x4_5).toNatClampNeg) = 0 then (L_X6_lesserOnes_5 v_weights v_isFirst x1 x2 n x3_5 (x4_5 + 1)) else (if x4_5 < 0 ∨ 16 ≤ (x4_5).toNatClampNeg then none else (if x1 < 0 ∨ 16 ≤ (x1).toNatClampNeg then none else (if 0 ≤ (lg_cmp (v_weights (x4_5).toNatClampNeg) (v_weights (x1).toNatClampNeg)) then (L_X6_lesserOnes_5 v_weights v_isFirst x1 x2 n x3_5 (x4_5 + 1)) else (L_X6_lesserOnes_5 v_weights v_isFirst x1 x2 n (x3_5 + 1) (x4_5 + 1))))))))
def f_X6_lesserOnes (v_weights : Nat → Int64) (v_isFirst : Nat → Int32) (x1 : Int32) (x2 : Int32) : Option Int32 :=
  ((L_X6_lesserOnes_5 v_weights v_isFirst x1 x2 fu (0 : Int32) (0 : Int32)).bind (fun w_1967 => (some w_1967)))
abbrev rm_X6_lesserOnes : Room := { frames := 0, cells := 0, slots := 0, locals := 0 }
set_option maxHeartbeats 4000000 in
set_option maxRecDepth 100000 in
theorem c_X6_lesserOnes (l : Launch) (dC : Nat → ClassId) (dI : Nat → Nat → Nat) (cB cC cI cJ cZ cT : ClassId) (h0 q_distinct q_ranks q_weights q_isFirst : Nat) (v_weights : Nat → Int64) (v_isFirst : Nat → Int32) (x1 : Int32) (x2 : Int32) (o : Int32) (hf : f_X6_lesserOnes v_weights v_isFirst x1 x2 = some o) : Met l yX6_lesserOnes wsX6_lesserOnes rm_X6_lesserOnes (va_Pc [.ref h0, .int x1, .int x2] (fun U => va_P (dC, dI) vwCl [(h0, .inr (4, [.ref q_distinct, .ref q_ranks, .ref q_weights, .ref q_isFirst])), (q_weights, .inl (cJ, 16, .inr (.inl v_weights))), (q_isFirst, .inl (cZ, 16, .inl v_isFirst))] U.heap ∧ va_K (dC, dI) vwCl (tyA cB cC cI cJ cZ cT) U)) (vp_Si (fun r => o = r)) 0 0 (fun _ => False) := by
  refine Met.ofW (cc := cX6_lesserOnes) (maxL := 5) (ret := (some .int)) (by decide +kernel) rfl ?_
  intro p e s m args below meth c s₁ B hml hv
  obtain ⟨hav, hP, hK⟩ := hv
  have hx := B.exec
  have hb := B.bytes
  have hr := B.returns
  have hts := atoms_spec (ws := wsX6_lesserOnes) B.pre
  have hown : s.vm.findClass RX6 = some m.cls := findClass_of_methodNamed B.named
  have hlocks := B.notSynchronized
  refine wstart (rm := rm_X6_lesserOnes) hav (Nat.le_of_ble_eq_true rfl) (fun QQ ls hQQ hl => ?_)
  have hl : lv_has ls 5 [(0, .ref h0), (1, .int x1), (2, .int x2)] := hl
  have hi_X6 : ∀ w ∈ u_ws RX6 TX6 4, w ∈ wsX6_lesserOnes := by decide +kernel
  have h := hf
  unfold f_X6_lesserOnes at h
  refine lv_iconst (v := 0) hx hb dX6_lesserOnes_0 (by decide) ?_
  refine lv_istore_n (lv' := [(3, .int (0 : Int32)), (0, .ref h0), (1, .int x1), (2, .int x2)]) hx hb dX6_lesserOnes_1 rfl hl (by decide) rfl (fun ls hl => ?_)
  refine lv_iconst (v := 0) hx hb dX6_lesserOnes_2 (by decide) ?_
  refine lv_istore (lv' := [(4, .int (0 : Int32)), (3, .int (0 : Int32)), (0, .ref h0), (1, .int x1), (2, .int x2)]) hx hb dX6_lesserOnes_3 hl (by decide) rfl (fun ls hl => ?_)
  have LP_1967 : ∀ (n : Nat) (x3_5 : Int32) (x4_5 : Int32) (w : Int32) (ls : Array Slot), L_X6_lesserOnes_5 v_weights v_isFirst x1 x2 n x3_5 x4_5 = some w → lv_has ls 5 [(0, .ref h0), (1, .int x1), (2, .int x2), (3, .int x3_5), (4, .int x4_5)] → (∀ (ls : Array Slot), lv_has ls 5 [(3, .int w)] → W p l e rm_X6_lesserOnes s m args below meth c s.heap [] 0 0 QQ (F0 m 47 ls [])) → W p l e rm_X6_lesserOnes s m args below meth c s.heap [] 0 0 QQ (F0 m 5 ls []) := by
    intro n
    induction n with
    | zero => intro x3_5 x4_5 w ls h; exact absurd (show none = some w from h) nofun
    | succ n ih =>
      intro x3_5 x4_5 w ls h hl K
      rw [L_X6_lesserOnes_5] at h
      refine lv_iload hx hb dX6_lesserOnes_5 (lv_at hl 4 rfl) ?_
      refine lv_iload_n hx hb dX6_lesserOnes_7 rfl (lv_at hl 2 rfl) ?_
      refine lv_icmp_ge (tgt := 47) hx hb dX6_lesserOnes_8 (by decide) (fun c_1961 => ?_) (fun c_1961 => ?_)
      · replace h := op c_1961 h
        have ho := Option.some.inj h
        subst ho
        exact K ls (lv_sub hl [3] rfl)
      · replace h := on c_1961 h
        refine lv_aload_n hx hb dX6_lesserOnes_11 rfl (lv_at hl 0 rfl) ?_
        refine va_get (D := (dC, dI)) (ci := 4) (v := .ref q_isFirst) (C := RX6) (T := TX6) (N := 4) hx hb hts hi_X6 hown hK hP 0 rfl rfl 3 (by decide) (hts _ (List.mem_of_getElem? (i := 1) rfl)) (fun _ h9 => h9) rfl dX6_lesserOnes_12 ?_
        refine lv_iload hx hb dX6_lesserOnes_15 (lv_at hl 4 rfl) ?_
        obtain ⟨hi_1962, h⟩ := og h
        refine va_zald hx hb hK hP 2 3 rfl rfl hi_1962 dX6_lesserOnes_17 ?_
        refine lv_if_eq (tgt := 41) hx hb dX6_lesserOnes_18 (by decide) (fun c_1963 => ?_) (fun c_1963 => ?_)
        · replace h := op c_1963 h
          refine lv_iinc (v := (x4_5 + 1)) (lv' := [(4, .int (x4_5 + 1)), (0, .ref h0), (1, .int x1), (2, .int x2), (3, .int x3_5)]) hx hb dX6_lesserOnes_41 hl (k := 4) rfl (by rfl) (by decide) rfl (fun ls hl => ?_)
          refine lv_goto (tgt := 5) hx hb dX6_lesserOnes_44 (by decide) ?_
          exact ih x3_5 (x4_5 + 1) w ls h (lv_sub hl [1, 2, 3, 4, 0] rfl) K
        · replace h := on c_1963 h
          refine lv_aload_n hx hb dX6_lesserOnes_21 rfl (lv_at hl 0 rfl) ?_
          refine va_get (D := (dC, dI)) (ci := 4) (v := .ref q_weights) (C := RX6) (T := TX6) (N := 4) hx hb hts hi_X6 hown hK hP 0 rfl rfl 2 (by decide) (hts _ (List.mem_of_getElem? (i := 2) rfl)) (fun _ h9 => h9) rfl dX6_lesserOnes_22 ?_
          refine lv_iload hx hb dX6_lesserOnes_25 (lv_at hl 4 rfl) ?_
          obtain ⟨hi_1964, h⟩ := og h
          refine va_lald hx hb hK hP 1 1 rfl rfl hi_1964 dX6_lesserOnes_27 ?_
          refine lv_aload_n hx hb dX6_lesserOnes_28 rfl (lv_at hl 0 rfl) ?_
          refine va_get (D := (dC, dI)) (ci := 4) (v := .ref q_weights) (C := RX6) (T := TX6) (N := 4) hx hb hts hi_X6 hown hK hP 0 rfl rfl 2 (by decide) (hts _ (List.mem_of_getElem? (i := 2) rfl)) (fun _ h9 => h9) rfl dX6_lesserOnes_29 ?_
          refine lv_iload_n hx hb dX6_lesserOnes_32 rfl (lv_at hl 1 rfl) ?_
          obtain ⟨hi_1965, h⟩ := og h
          refine va_lald hx hb hK hP 1 1 rfl rfl hi_1965 dX6_lesserOnes_33 ?_
          refine W.lcmp hx hb dX6_lesserOnes_34 ?_
          refine lv_if_ge (tgt := 41) hx hb dX6_lesserOnes_35 (by decide) (fun c_1966 => ?_) (fun c_1966 => ?_)
          · replace h := op c_1966 h
            refine lv_iinc (v := (x4_5 + 1)) (lv' := [(4, .int (x4_5 + 1)), (0, .ref h0), (1, .int x1), (2, .int x2), (3, .int x3_5)]) hx hb dX6_lesserOnes_41 hl (k := 4) rfl (by rfl) (by decide) rfl (fun ls hl => ?_)
            refine lv_goto (tgt := 5) hx hb dX6_lesserOnes_44 (by decide) ?_
            exact ih x3_5 (x4_5 + 1) w ls h (lv_sub hl [1, 2, 3, 4, 0] rfl) K
          · replace h := on c_1966 h
            refine lv_iinc (v := (x3_5 + 1)) (lv' := [(3, .int (x3_5 + 1)), (0, .ref h0), (1, .int x1), (2, .int x2), (4, .int x4_5)]) hx hb dX6_lesserOnes_38 hl (k := 3) rfl (by rfl) (by decide) rfl (fun ls hl => ?_)
            refine lv_iinc (v := (x4_5 + 1)) (lv' := [(4, .int (x4_5 + 1)), (3, .int (x3_5 + 1)), (0, .ref h0), (1, .int x1), (2, .int x2)]) hx hb dX6_lesserOnes_41 hl (k := 4) rfl (by rfl) (by decide) rfl (fun ls hl => ?_)
            refine lv_goto (tgt := 5) hx hb dX6_lesserOnes_44 (by decide) ?_
            exact ih (x3_5 + 1) (x4_5 + 1) w ls h (lv_sub hl [2, 3, 4, 1, 0] rfl) K
  obtain ⟨w_1967, hw_1967, h⟩ := ob h
  refine LP_1967 fu (0 : Int32) (0 : Int32) w_1967 ls hw_1967 (lv_sub hl [2, 3, 4, 1, 0] rfl) (fun ls hl => ?_)
  refine lv_iload_n hx hb dX6_lesserOnes_47 rfl (lv_at hl 0 rfl) ?_
  rw [hQQ]
  exact W.iret hx hb hr (fun t ht hW => ⟨_, rfl, (Option.some.inj h).symm, ht⟩) (fun q hq => absurd hq List.not_mem_nil) dX6_lesserOnes_48
def L_X6_readColumn_2 (v_p1_rows : Int32) (v_p1_kinds : (Nat → Int32)) (v_p1_cells : (Nat → Int64)) (x2 : Int32) : Nat → Int32 → (Nat → Int64) → Option (Nat → Int64)
  | 0, _, _ => none
  | n+1, x3_2, v_weights_2 => (if v_p1_rows ≤ x3_2 then (some v_weights_2) else (if x2 < 0 ∨ 6 ≤ (x2).toNatClampNeg then none else ((f_X8_cell v_p1_cells x2 x3_2).bind (fun o_1970 => ((f_X3_weight (v_p1_kinds (x2).toNatClampNeg) o_1970).bind (fun o_1972 => (if x3_2 < 0 ∨ 16 ≤ (x3_2).toNatClampNeg then none else (L_X6_readColumn_2 v_p1_rows v_p1_kinds v_p1_cells x2 n (x3_2 + 1) (vp_updL v_weights_2 (x3_2).toNatClampNeg o_1972)))))))))
def L_X6_readColumn_46 (v_p1_rows : Int32) (x2 : Int32) (w_1975 : (Nat → Int64)) : Nat → Int32 → (Nat → Int32) → (Nat → Int32) → Option ((Nat → Int32) × (Nat → Int32))
  | 0, _, _, _ => none
  | n+1, x3_46, v_distinct_46, v_isFirst_46 => (if v_p1_rows ≤ x3_46 then (some (v_distinct_46, v_isFirst_46)) else ((f_X6_isNew w_1975 x3_46).bind (fun o_1978 => (if x3_46 < 0 ∨ 16 ≤ (x3_46).toNatClampNeg then none else (if x3_46 < 0 ∨ 16 ≤ (x3_46).toNatClampNeg then none else (if ((upd v_isFirst_46 (x3_46).toNatClampNeg (vp_nar .boolean (b2i o_1978))) (x3_46).toNatClampNeg) = 0 then (L_X6_readColumn_46 v_p1_rows x2 w_1975 n (x3_46 + 1) v_distinct_46 (upd v_isFirst_46 (x3_46).toNatClampNeg (vp_nar .boolean (b2i o_1978)))) else (if x2 < 0 ∨ 6 ≤ (x2).toNatClampNeg then none else (if x2 < 0 ∨ 6 ≤ (x2).toNatClampNeg then none else (L_X6_readColumn_46 v_p1_rows x2 w_1975 n (x3_46 + 1) (upd v_distinct_46 (x2).toNatClampNeg ((v_distinct_46 (x2).toNatClampNeg) + (1 : Int32))) (upd v_isFirst_46 (x3_46).toNatClampNeg (vp_nar .boolean (b2i o_1978))))))))))))
def L_X6_readColumn_92 (v_p1_rows : Int32) (x2 : Int32) (w_1975 : (Nat → Int64)) (w_1985 : ((Nat → Int32) × (Nat → Int32))) : Nat → Int32 → (Nat → Int32) → Option (Nat → Int32)
  | 0, _, _ => none
  | n+1, x3_92, v_ranks_92 => (if v_p1_rows ≤ x3_92 then (some v_ranks_92) else ((f_X6_lesserOnes w_1975 w_1985.2 x3_92 v_p1_rows).bind (fun o_1987 => (if ((x2 * (16 : Int32)) + x3_92) < 0 ∨ 96 ≤ (((x2 * (16 : Int32)) + x3_92)).toNatClampNeg then none else (L_X6_readColumn_92 v_p1_rows x2 w_1975 w_1985 n (x3_92 + 1) (upd v_ranks_92 (((x2 * (16 : Int32)) + x3_92)).toNatClampNeg o_1987))))))
def f_X6_readColumn (v_distinct : Nat → Int32) (v_ranks : Nat → Int32) (v_weights : Nat → Int64) (v_isFirst : Nat → Int32) (v_p1_rows : Int32) (v_p1_kinds : Nat → Int32) (v_p1_cells : Nat → Int64) (x2 : Int32) : Option ((Nat → Int32) × (Nat → Int32) × (Nat → Int64) × (Nat → Int32)) :=
  ((L_X6_readColumn_2 v_p1_rows v_p1_kinds v_p1_cells x2 fu (0 : Int32) v_weights).bind (fun w_1975 => (if x2 < 0 ∨ 6 ≤ (x2).toNatClampNeg then none else ((L_X6_readColumn_46 v_p1_rows x2 w_1975 fu (0 : Int32) (upd v_distinct (x2).toNatClampNeg (0 : Int32)) v_isFirst).bind (fun w_1985 => ((L_X6_readColumn_92 v_p1_rows x2 w_1975 w_1985 fu (0 : Int32) v_ranks).bind (fun w_1990 => (some (w_1985.1, w_1990, w_1975, w_1985.2)))))))))
abbrev rm_X6_readColumn : Room := { frames := 2, cells := 0, slots := 0, locals := 42 }
set_option maxHeartbeats 4000000 in
set_option maxRecDepth 100000 in
theorem c_X6_readColumn (l : Launch) (dC : Nat → ClassId) (dI : Nat → Nat → Nat) (cB cC cI cJ cZ cT : ClassId) (h0 q_distinct q_ranks q_weights q_isFirst q_p1 q_p1_kinds q_p1_tags q_p1_cells : Nat) (sz : Nat) (v_distinct : Nat → Int32) (v_ranks : Nat → Int32) (v_weights : Nat → Int64) (v_isFirst : Nat → Int32) (v_p1_columns : Int32) (v_p1_rows : Int32) (v_p1_kinds : Nat → Int32) (v_p1_cells : Nat → Int64) (x2 : Int32) (o : ((Nat → Int32) × (Nat → Int32) × (Nat → Int64) × (Nat → Int32))) (hf : f_X6_readColumn v_distinct v_ranks v_weights v_isFirst v_p1_rows v_p1_kinds v_p1_cells x2 = some o) : Met l yX6_readColumn wsX6_readColumn rm_X6_readColumn (va_Pc [.ref h0, .ref q_p1, .int x2] (fun U => U.heap.size = sz ∧ va_P (dC, dI) vwCl [(h0, .inr (4, [.ref q_distinct, .ref q_ranks, .ref q_weights, .ref q_isFirst])), (q_distinct, .inl (cI, 6, .inl v_distinct)), (q_ranks, .inl (cI, 96, .inl v_ranks)), (q_weights, .inl (cJ, 16, .inr (.inl v_weights))), (q_isFirst, .inl (cZ, 16, .inl v_isFirst)), (q_p1, .inr (6, [.ref q_p1_kinds, .ref q_p1_tags, .ref q_p1_cells, .int v_p1_columns, .int v_p1_rows])), (q_p1_kinds, .inl (cI, 6, .inl v_p1_kinds)), (q_p1_cells, .inl (cJ, 96, .inr (.inl v_p1_cells)))] U.heap ∧ va_K (dC, dI) vwCl (tyA cB cC cI cJ cZ cT) U ∧ va_D (fun _ => True) [(h0, .inr (4, [.ref q_distinct, .ref q_ranks, .ref q_weights, .ref q_isFirst])), (q_distinct, .inl (cI, 6, .inl v_distinct)), (q_ranks, .inl (cI, 96, .inl v_ranks)), (q_weights, .inl (cJ, 16, .inr (.inl v_weights))), (q_isFirst, .inl (cZ, 16, .inl v_isFirst)), (q_p1, .inr (6, [.ref q_p1_kinds, .ref q_p1_tags, .ref q_p1_cells, .int v_p1_columns, .int v_p1_rows])), (q_p1_kinds, .inl (cI, 6, .inl v_p1_kinds)), (q_p1_cells, .inl (cJ, 96, .inr (.inl v_p1_cells)))])) (va_Qv (fun _ : Unit => True) (fun _ t => va_P (dC, dI) vwCl [(h0, .inr (4, [.ref q_distinct, .ref q_ranks, .ref q_weights, .ref q_isFirst])), (q_distinct, .inl (cI, 6, .inl o.1)), (q_ranks, .inl (cI, 96, .inl o.2.1)), (q_weights, .inl (cJ, 16, .inr (.inl o.2.2.1))), (q_isFirst, .inl (cZ, 16, .inl o.2.2.2)), (q_p1, .inr (6, [.ref q_p1_kinds, .ref q_p1_tags, .ref q_p1_cells, .int v_p1_columns, .int v_p1_rows])), (q_p1_kinds, .inl (cI, 6, .inl v_p1_kinds)), (q_p1_cells, .inl (cJ, 96, .inr (.inl v_p1_cells)))] t.heap ∧ va_K (dC, dI) vwCl (tyA cB cC cI cJ cZ cT) t ∧ va_D (va_A [(h0, .inr (4, [.ref q_distinct, .ref q_ranks, .ref q_weights, .ref q_isFirst])), (q_distinct, .inl (cI, 6, .inl v_distinct)), (q_ranks, .inl (cI, 96, .inl v_ranks)), (q_weights, .inl (cJ, 16, .inr (.inl v_weights))), (q_isFirst, .inl (cZ, 16, .inl v_isFirst)), (q_p1, .inr (6, [.ref q_p1_kinds, .ref q_p1_tags, .ref q_p1_cells, .int v_p1_columns, .int v_p1_rows])), (q_p1_kinds, .inl (cI, 6, .inl v_p1_kinds)), (q_p1_cells, .inl (cJ, 96, .inr (.inl v_p1_cells)))] sz) [(h0, .inr (4, [.ref q_distinct, .ref q_ranks, .ref q_weights, .ref q_isFirst])), (q_distinct, .inl (cI, 6, .inl o.1)), (q_ranks, .inl (cI, 96, .inl o.2.1)), (q_weights, .inl (cJ, 16, .inr (.inl o.2.2.1))), (q_isFirst, .inl (cZ, 16, .inl o.2.2.2)), (q_p1, .inr (6, [.ref q_p1_kinds, .ref q_p1_tags, .ref q_p1_cells, .int v_p1_columns, .int v_p1_rows])), (q_p1_kinds, .inl (cI, 6, .inl v_p1_kinds)), (q_p1_cells, .inl (cJ, 96, .inr (.inl v_p1_cells)))]) (va_A [(h0, .inr (4, [.ref q_distinct, .ref q_ranks, .ref q_weights, .ref q_isFirst])), (q_distinct, .inl (cI, 6, .inl v_distinct)), (q_ranks, .inl (cI, 96, .inl v_ranks)), (q_weights, .inl (cJ, 16, .inr (.inl v_weights))), (q_isFirst, .inl (cZ, 16, .inl v_isFirst)), (q_p1, .inr (6, [.ref q_p1_kinds, .ref q_p1_tags, .ref q_p1_cells, .int v_p1_columns, .int v_p1_rows])), (q_p1_kinds, .inl (cI, 6, .inl v_p1_kinds)), (q_p1_cells, .inl (cJ, 96, .inr (.inl v_p1_cells)))] sz)) 0 0 (va_A [(h0, .inr (4, [.ref q_distinct, .ref q_ranks, .ref q_weights, .ref q_isFirst])), (q_distinct, .inl (cI, 6, .inl v_distinct)), (q_ranks, .inl (cI, 96, .inl v_ranks)), (q_weights, .inl (cJ, 16, .inr (.inl v_weights))), (q_isFirst, .inl (cZ, 16, .inl v_isFirst)), (q_p1, .inr (6, [.ref q_p1_kinds, .ref q_p1_tags, .ref q_p1_cells, .int v_p1_columns, .int v_p1_rows])), (q_p1_kinds, .inl (cI, 6, .inl v_p1_kinds)), (q_p1_cells, .inl (cJ, 96, .inr (.inl v_p1_cells)))] sz) := by
  refine Met.ofW (cc := cX6_readColumn) (maxL := 4) (ret := none) (by decide +kernel) rfl ?_
  intro p e s m args below meth c s₁ B hml hv
  obtain ⟨hav, hsz, hP, hK, hD0⟩ := hv
  have hx := B.exec
  have hb := B.bytes
  have hr := B.returns
  have hts := atoms_spec (ws := wsX6_readColumn) B.pre
  have hown : s.vm.findClass RX6 = some m.cls := findClass_of_methodNamed B.named
  have hlocks := B.notSynchronized
  subst hsz
  have hD := hD0.self (sz := s.heap.size)
  generalize hAe : va_A [(h0, .inr (4, [.ref q_distinct, .ref q_ranks, .ref q_weights, .ref q_isFirst])), (q_distinct, .inl (cI, 6, .inl v_distinct)), (q_ranks, .inl (cI, 96, .inl v_ranks)), (q_weights, .inl (cJ, 16, .inr (.inl v_weights))), (q_isFirst, .inl (cZ, 16, .inl v_isFirst)), (q_p1, .inr (6, [.ref q_p1_kinds, .ref q_p1_tags, .ref q_p1_cells, .int v_p1_columns, .int v_p1_rows])), (q_p1_kinds, .inl (cI, 6, .inl v_p1_kinds)), (q_p1_cells, .inl (cJ, 96, .inr (.inl v_p1_cells)))] s.heap.size = A at hD ⊢
  have hA : ∀ q : Nat, s.heap.size ≤ q → A q := fun q h => by rw [← hAe]; exact Or.inr h
  have hS : va_S A s.heap s.heap [] := va_S.rf
  refine wstart (rm := rm_X6_readColumn) hav (Nat.le_of_ble_eq_true rfl) (fun QQ ls hQQ hl => ?_)
  have hl : lv_has ls 4 [(0, .ref h0), (1, .ref q_p1), (2, .int x2)] := hl
  have hi_X6 : ∀ w ∈ u_ws RX6 TX6 4, w ∈ wsX6_readColumn := by decide +kernel
  have hi_X8 : ∀ w ∈ u_ws RX8 TX8 5, w ∈ wsX6_readColumn := by decide +kernel
  have h := hf
  unfold f_X6_readColumn at h
  refine lv_iconst (v := 0) hx hb dX6_readColumn_0 (by decide) ?_
  refine lv_istore_n (lv' := [(3, .int (0 : Int32)), (0, .ref h0), (1, .ref q_p1), (2, .int x2)]) hx hb dX6_readColumn_1 rfl hl (by decide) rfl (fun ls hl => ?_)
  have LP_1975 : ∀ (n : Nat) (x3_2 : Int32) (v_weights_2 : (Nat → Int64)) (w : (Nat → Int64)) (H : Heap) (locs : List Loc) (ls : Array Slot), L_X6_readColumn_2 v_p1_rows v_p1_kinds v_p1_cells x2 n x3_2 v_weights_2 = some w → va_P (dC, dI) vwCl [(h0, .inr (4, [.ref q_distinct, .ref q_ranks, .ref q_weights, .ref q_isFirst])), (q_distinct, .inl (cI, 6, .inl v_distinct)), (q_ranks, .inl (cI, 96, .inl v_ranks)), (q_weights, .inl (cJ, 16, .inr (.inl v_weights_2))), (q_isFirst, .inl (cZ, 16, .inl v_isFirst)), (q_p1, .inr (6, [.ref q_p1_kinds, .ref q_p1_tags, .ref q_p1_cells, .int v_p1_columns, .int v_p1_rows])), (q_p1_kinds, .inl (cI, 6, .inl v_p1_kinds)), (q_p1_cells, .inl (cJ, 96, .inr (.inl v_p1_cells)))] H → va_D A [(h0, .inr (4, [.ref q_distinct, .ref q_ranks, .ref q_weights, .ref q_isFirst])), (q_distinct, .inl (cI, 6, .inl v_distinct)), (q_ranks, .inl (cI, 96, .inl v_ranks)), (q_weights, .inl (cJ, 16, .inr (.inl v_weights_2))), (q_isFirst, .inl (cZ, 16, .inl v_isFirst)), (q_p1, .inr (6, [.ref q_p1_kinds, .ref q_p1_tags, .ref q_p1_cells, .int v_p1_columns, .int v_p1_rows])), (q_p1_kinds, .inl (cI, 6, .inl v_p1_kinds)), (q_p1_cells, .inl (cJ, 96, .inr (.inl v_p1_cells)))] → va_S A s.heap H locs → lv_has ls 4 [(0, .ref h0), (1, .ref q_p1), (2, .int x2), (3, .int x3_2)] → (∀ (H : Heap) (locs : List Loc) (ls : Array Slot), va_P (dC, dI) vwCl [(h0, .inr (4, [.ref q_distinct, .ref q_ranks, .ref q_weights, .ref q_isFirst])), (q_distinct, .inl (cI, 6, .inl v_distinct)), (q_ranks, .inl (cI, 96, .inl v_ranks)), (q_weights, .inl (cJ, 16, .inr (.inl w))), (q_isFirst, .inl (cZ, 16, .inl v_isFirst)), (q_p1, .inr (6, [.ref q_p1_kinds, .ref q_p1_tags, .ref q_p1_cells, .int v_p1_columns, .int v_p1_rows])), (q_p1_kinds, .inl (cI, 6, .inl v_p1_kinds)), (q_p1_cells, .inl (cJ, 96, .inr (.inl v_p1_cells)))] H → va_D A [(h0, .inr (4, [.ref q_distinct, .ref q_ranks, .ref q_weights, .ref q_isFirst])), (q_distinct, .inl (cI, 6, .inl v_distinct)), (q_ranks, .inl (cI, 96, .inl v_ranks)), (q_weights, .inl (cJ, 16, .inr (.inl w))), (q_isFirst, .inl (cZ, 16, .inl v_isFirst)), (q_p1, .inr (6, [.ref q_p1_kinds, .ref q_p1_tags, .ref q_p1_cells, .int v_p1_columns, .int v_p1_rows])), (q_p1_kinds, .inl (cI, 6, .inl v_p1_kinds)), (q_p1_cells, .inl (cJ, 96, .inr (.inl v_p1_cells)))] → va_S A s.heap H locs → lv_has ls 4 [(0, .ref h0), (1, .ref q_p1), (2, .int x2)] → W p l e rm_X6_readColumn s m args below meth c H locs 0 0 QQ (F0 m 37 ls [])) → W p l e rm_X6_readColumn s m args below meth c H locs 0 0 QQ (F0 m 2 ls []) := by
    intro n
    induction n with
    | zero => intro x3_2 v_weights_2 w H locs ls h; exact absurd (show none = some w from h) nofun
    | succ n ih =>
      intro x3_2 v_weights_2 w H locs ls h hP hD hS hl K
      rw [L_X6_readColumn_2] at h
      refine lv_iload_n hx hb dX6_readColumn_2 rfl (lv_at hl 3 rfl) ?_
      refine lv_aload_n hx hb dX6_readColumn_3 rfl (lv_at hl 1 rfl) ?_
      refine va_get (D := (dC, dI)) (ci := 6) (v := .int v_p1_rows) (C := RX8) (T := TX8) (N := 5) hx hb hts hi_X8 hown hK hP 5 rfl rfl 4 (by decide) (hts _ (List.mem_of_getElem? (i := 1) rfl)) (fun _ h9 => h9) rfl dX6_readColumn_4 ?_
      refine lv_icmp_ge (tgt := 37) hx hb dX6_readColumn_7 (by decide) (fun c_1968 => ?_) (fun c_1968 => ?_)
      · replace h := op c_1968 h
        have ho := Option.some.inj h
        subst ho
        exact K H _ ls hP hD hS (lv_sub hl [0, 1, 2] rfl)
      · replace h := on c_1968 h
        refine lv_aload_n hx hb dX6_readColumn_10 rfl (lv_at hl 0 rfl) ?_
        refine va_get (D := (dC, dI)) (ci := 4) (v := .ref q_weights) (C := RX6) (T := TX6) (N := 4) hx hb hts hi_X6 hown hK hP 0 rfl rfl 2 (by decide) (hts _ (List.mem_of_getElem? (i := 2) rfl)) (fun _ h9 => h9) rfl dX6_readColumn_11 ?_
        refine lv_iload_n hx hb dX6_readColumn_14 rfl (lv_at hl 3 rfl) ?_
        refine lv_aload_n hx hb dX6_readColumn_15 rfl (lv_at hl 1 rfl) ?_
        refine va_get (D := (dC, dI)) (ci := 6) (v := .ref q_p1_kinds) (C := RX8) (T := TX8) (N := 5) hx hb hts hi_X8 hown hK hP 5 rfl rfl 0 (by decide) (hts _ (List.mem_of_getElem? (i := 3) rfl)) (fun _ h9 => h9) rfl dX6_readColumn_16 ?_
        refine lv_iload_n hx hb dX6_readColumn_19 rfl (lv_at hl 2 rfl) ?_
        obtain ⟨hi_1969, h⟩ := og h
        refine va_iald hx hb hK hP 6 0 rfl rfl hi_1969 dX6_readColumn_20 ?_
        refine lv_aload_n hx hb dX6_readColumn_21 rfl (lv_at hl 1 rfl) ?_
        refine lv_iload_n hx hb dX6_readColumn_22 rfl (lv_at hl 2 rfl) ?_
        refine lv_iload_n hx hb dX6_readColumn_23 rfl (lv_at hl 3 rfl) ?_
        obtain ⟨o_1970, hr_1970, h⟩ := ob h
        refine vp_callSl (va_Run.run (va_runV (As := [.int x2, .int x3_2]) (rest := [.int (v_p1_kinds (x2).toNatClampNeg), .int x3_2, .ref q_weights]) ⟨hx, hb, hml, hown, hts⟩ (c_X8_cell l dC dI cB cC cI cJ cZ cT q_p1 q_p1_kinds q_p1_tags q_p1_cells v_p1_columns v_p1_rows v_p1_cells x2 x3_2 o_1970 hr_1970) (cwV 2 hts gX6_readColumn_X8_cell rfl rfl rfl (by decide +kernel) ⟨Nat.le_of_ble_eq_true rfl, Nat.le_of_ble_eq_true rfl⟩) ⟨blR, va_recv hK hP (ci := 6) (q0 := 5) rfl rfl, fun U hU hW => ⟨rfl, by rw [hU]; exact hP.sub [5, 7] rfl, va_K.moved hW.alike hK⟩⟩ rfl rfl hl.1 rfl (lv_room (Nat.le_of_ble_eq_true rfl)) dX6_readColumn_24 ⟨Nat.le_of_ble_eq_true rfl, Nat.le_of_ble_eq_true rfl⟩)) (fun r_1970 e_1970 => ?_)
        subst e_1970
        obtain ⟨o_1972, hr_1972, h⟩ := ob h
        refine vp_callSl (va_Run.run (va_runS (As := [.int (v_p1_kinds (x2).toNatClampNeg), .long o_1970]) (rest := [.int x3_2, .ref q_weights]) ⟨hx, hb, hml, hown, hts⟩ (c_X3_weight l dC dI cB cC cI cJ cZ cT (v_p1_kinds (x2).toNatClampNeg) o_1970 o_1972 hr_1972) (va_cwS 2 hts gX6_readColumn_X3_weight rfl rfl rfl (by decide +kernel) ⟨Nat.le_of_ble_eq_true rfl, Nat.le_of_ble_eq_true rfl⟩) ⟨blT, fun U hU hW => ⟨rfl, trivial⟩⟩ rfl rfl hl.1 rfl (lv_room (Nat.le_of_ble_eq_true rfl)) dX6_readColumn_27 ⟨Nat.le_of_ble_eq_true rfl, Nat.le_of_ble_eq_true rfl⟩)) (fun r_1972 e_1972 => ?_)
        subst e_1972
        obtain ⟨hi_1974, h⟩ := og h
        refine va_last hx hb hK hP hD hS 3 1 rfl rfl hi_1974 dX6_readColumn_30 (fun H locs hP hD hS => ?_)
        replace hP : va_P (dC, dI) vwCl [(h0, .inr (4, [.ref q_distinct, .ref q_ranks, .ref q_weights, .ref q_isFirst])), (q_distinct, .inl (cI, 6, .inl v_distinct)), (q_ranks, .inl (cI, 96, .inl v_ranks)), (q_weights, .inl (cJ, 16, .inr (.inl (vp_updL v_weights_2 (x3_2).toNatClampNeg o_1972)))), (q_isFirst, .inl (cZ, 16, .inl v_isFirst)), (q_p1, .inr (6, [.ref q_p1_kinds, .ref q_p1_tags, .ref q_p1_cells, .int v_p1_columns, .int v_p1_rows])), (q_p1_kinds, .inl (cI, 6, .inl v_p1_kinds)), (q_p1_cells, .inl (cJ, 96, .inr (.inl v_p1_cells)))] H := hP
        replace hD : va_D A [(h0, .inr (4, [.ref q_distinct, .ref q_ranks, .ref q_weights, .ref q_isFirst])), (q_distinct, .inl (cI, 6, .inl v_distinct)), (q_ranks, .inl (cI, 96, .inl v_ranks)), (q_weights, .inl (cJ, 16, .inr (.inl (vp_updL v_weights_2 (x3_2).toNatClampNeg o_1972)))), (q_isFirst, .inl (cZ, 16, .inl v_isFirst)), (q_p1, .inr (6, [.ref q_p1_kinds, .ref q_p1_tags, .ref q_p1_cells, .int v_p1_columns, .int v_p1_rows])), (q_p1_kinds, .inl (cI, 6, .inl v_p1_kinds)), (q_p1_cells, .inl (cJ, 96, .inr (.inl v_p1_cells)))] := hD
        refine lv_iinc (v := (x3_2 + 1)) (lv' := [(3, .int (x3_2 + 1)), (0, .ref h0), (1, .ref q_p1), (2, .int x2)]) hx hb dX6_readColumn_31 hl (k := 3) rfl (by rfl) (by decide) rfl (fun ls hl => ?_)
        refine lv_goto (tgt := 2) hx hb dX6_readColumn_34 (by decide) ?_
        exact ih (x3_2 + 1) (vp_updL v_weights_2 (x3_2).toNatClampNeg o_1972) w H _ ls h hP hD hS (lv_sub hl [1, 2, 3, 0] rfl) K
  obtain ⟨w_1975, hw_1975, h⟩ := ob h
  refine LP_1975 fu (0 : Int32) v_weights w_1975 s.heap _ ls hw_1975 hP hD hS (lv_sub hl [1, 2, 3, 0] rfl) (fun H locs ls hP hD hS hl => ?_)
  refine lv_aload_n hx hb dX6_readColumn_37 rfl (lv_at hl 0 rfl) ?_
  refine va_get (D := (dC, dI)) (ci := 4) (v := .ref q_distinct) (C := RX6) (T := TX6) (N := 4) hx hb hts hi_X6 hown hK hP 0 rfl rfl 0 (by decide) (hts _ (List.mem_of_getElem? (i := 4) rfl)) (fun _ h9 => h9) rfl dX6_readColumn_38 ?_
  refine lv_iload_n hx hb dX6_readColumn_41 rfl (lv_at hl 2 rfl) ?_
  refine lv_iconst (v := 0) hx hb dX6_readColumn_42 (by decide) ?_
  obtain ⟨hi_1976, h⟩ := og h
  refine va_iast hx hb hK hP hD hS 1 0 rfl rfl hi_1976 dX6_readColumn_43 (fun H locs hP hD hS => ?_)
  replace hP : va_P (dC, dI) vwCl [(h0, .inr (4, [.ref q_distinct, .ref q_ranks, .ref q_weights, .ref q_isFirst])), (q_distinct, .inl (cI, 6, .inl (upd v_distinct (x2).toNatClampNeg (0 : Int32)))), (q_ranks, .inl (cI, 96, .inl v_ranks)), (q_weights, .inl (cJ, 16, .inr (.inl w_1975))), (q_isFirst, .inl (cZ, 16, .inl v_isFirst)), (q_p1, .inr (6, [.ref q_p1_kinds, .ref q_p1_tags, .ref q_p1_cells, .int v_p1_columns, .int v_p1_rows])), (q_p1_kinds, .inl (cI, 6, .inl v_p1_kinds)), (q_p1_cells, .inl (cJ, 96, .inr (.inl v_p1_cells)))] H := hP
  replace hD : va_D A [(h0, .inr (4, [.ref q_distinct, .ref q_ranks, .ref q_weights, .ref q_isFirst])), (q_distinct, .inl (cI, 6, .inl (upd v_distinct (x2).toNatClampNeg (0 : Int32)))), (q_ranks, .inl (cI, 96, .inl v_ranks)), (q_weights, .inl (cJ, 16, .inr (.inl w_1975))), (q_isFirst, .inl (cZ, 16, .inl v_isFirst)), (q_p1, .inr (6, [.ref q_p1_kinds, .ref q_p1_tags, .ref q_p1_cells, .int v_p1_columns, .int v_p1_rows])), (q_p1_kinds, .inl (cI, 6, .inl v_p1_kinds)), (q_p1_cells, .inl (cJ, 96, .inr (.inl v_p1_cells)))] := hD
  refine lv_iconst (v := 0) hx hb dX6_readColumn_44 (by decide) ?_
  refine lv_istore_n (lv' := [(3, .int (0 : Int32)), (0, .ref h0), (1, .ref q_p1), (2, .int x2)]) hx hb dX6_readColumn_45 rfl hl (by decide) rfl (fun ls hl => ?_)
  have LP_1985 : ∀ (n : Nat) (x3_46 : Int32) (v_distinct_46 : (Nat → Int32)) (v_isFirst_46 : (Nat → Int32)) (w : ((Nat → Int32) × (Nat → Int32))) (H : Heap) (locs : List Loc) (ls : Array Slot), L_X6_readColumn_46 v_p1_rows x2 w_1975 n x3_46 v_distinct_46 v_isFirst_46 = some w → va_P (dC, dI) vwCl [(h0, .inr (4, [.ref q_distinct, .ref q_ranks, .ref q_weights, .ref q_isFirst])), (q_distinct, .inl (cI, 6, .inl v_distinct_46)), (q_ranks, .inl (cI, 96, .inl v_ranks)), (q_weights, .inl (cJ, 16, .inr (.inl w_1975))), (q_isFirst, .inl (cZ, 16, .inl v_isFirst_46)), (q_p1, .inr (6, [.ref q_p1_kinds, .ref q_p1_tags, .ref q_p1_cells, .int v_p1_columns, .int v_p1_rows])), (q_p1_kinds, .inl (cI, 6, .inl v_p1_kinds)), (q_p1_cells, .inl (cJ, 96, .inr (.inl v_p1_cells)))] H → va_D A [(h0, .inr (4, [.ref q_distinct, .ref q_ranks, .ref q_weights, .ref q_isFirst])), (q_distinct, .inl (cI, 6, .inl v_distinct_46)), (q_ranks, .inl (cI, 96, .inl v_ranks)), (q_weights, .inl (cJ, 16, .inr (.inl w_1975))), (q_isFirst, .inl (cZ, 16, .inl v_isFirst_46)), (q_p1, .inr (6, [.ref q_p1_kinds, .ref q_p1_tags, .ref q_p1_cells, .int v_p1_columns, .int v_p1_rows])), (q_p1_kinds, .inl (cI, 6, .inl v_p1_kinds)), (q_p1_cells, .inl (cJ, 96, .inr (.inl v_p1_cells)))] → va_S A s.heap H locs → lv_has ls 4 [(0, .ref h0), (1, .ref q_p1), (2, .int x2), (3, .int x3_46)] → (∀ (H : Heap) (locs : List Loc) (ls : Array Slot), va_P (dC, dI) vwCl [(h0, .inr (4, [.ref q_distinct, .ref q_ranks, .ref q_weights, .ref q_isFirst])), (q_distinct, .inl (cI, 6, .inl w.1)), (q_ranks, .inl (cI, 96, .inl v_ranks)), (q_weights, .inl (cJ, 16, .inr (.inl w_1975))), (q_isFirst, .inl (cZ, 16, .inl w.2)), (q_p1, .inr (6, [.ref q_p1_kinds, .ref q_p1_tags, .ref q_p1_cells, .int v_p1_columns, .int v_p1_rows])), (q_p1_kinds, .inl (cI, 6, .inl v_p1_kinds)), (q_p1_cells, .inl (cJ, 96, .inr (.inl v_p1_cells)))] H → va_D A [(h0, .inr (4, [.ref q_distinct, .ref q_ranks, .ref q_weights, .ref q_isFirst])), (q_distinct, .inl (cI, 6, .inl w.1)), (q_ranks, .inl (cI, 96, .inl v_ranks)), (q_weights, .inl (cJ, 16, .inr (.inl w_1975))), (q_isFirst, .inl (cZ, 16, .inl w.2)), (q_p1, .inr (6, [.ref q_p1_kinds, .ref q_p1_tags, .ref q_p1_cells, .int v_p1_columns, .int v_p1_rows])), (q_p1_kinds, .inl (cI, 6, .inl v_p1_kinds)), (q_p1_cells, .inl (cJ, 96, .inr (.inl v_p1_cells)))] → va_S A s.heap H locs → lv_has ls 4 [(0, .ref h0), (1, .ref q_p1), (2, .int x2)] → W p l e rm_X6_readColumn s m args below meth c H locs 0 0 QQ (F0 m 90 ls [])) → W p l e rm_X6_readColumn s m args below meth c H locs 0 0 QQ (F0 m 46 ls []) := by
    intro n
    induction n with
    | zero => intro x3_46 v_distinct_46 v_isFirst_46 w H locs ls h; exact absurd (show none = some w from h) nofun
    | succ n ih =>
      intro x3_46 v_distinct_46 v_isFirst_46 w H locs ls h hP hD hS hl K
      rw [L_X6_readColumn_46] at h
      refine lv_iload_n hx hb dX6_readColumn_46 rfl (lv_at hl 3 rfl) ?_
      refine lv_aload_n hx hb dX6_readColumn_47 rfl (lv_at hl 1 rfl) ?_
      refine va_get (D := (dC, dI)) (ci := 6) (v := .int v_p1_rows) (C := RX8) (T := TX8) (N := 5) hx hb hts hi_X8 hown hK hP 5 rfl rfl 4 (by decide) (hts _ (List.mem_of_getElem? (i := 1) rfl)) (fun _ h9 => h9) rfl dX6_readColumn_48 ?_
      refine lv_icmp_ge (tgt := 90) hx hb dX6_readColumn_51 (by decide) (fun c_1977 => ?_) (fun c_1977 => ?_)
      · replace h := op c_1977 h
        have ho := Option.some.inj h
        subst ho
        exact K H _ ls hP hD hS (lv_sub hl [0, 1, 2] rfl)
      · replace h := on c_1977 h
        refine lv_aload_n hx hb dX6_readColumn_54 rfl (lv_at hl 0 rfl) ?_
        refine va_get (D := (dC, dI)) (ci := 4) (v := .ref q_isFirst) (C := RX6) (T := TX6) (N := 4) hx hb hts hi_X6 hown hK hP 0 rfl rfl 3 (by decide) (hts _ (List.mem_of_getElem? (i := 5) rfl)) (fun _ h9 => h9) rfl dX6_readColumn_55 ?_
        refine lv_iload_n hx hb dX6_readColumn_58 rfl (lv_at hl 3 rfl) ?_
        refine lv_aload_n hx hb dX6_readColumn_59 rfl (lv_at hl 0 rfl) ?_
        refine lv_iload_n hx hb dX6_readColumn_60 rfl (lv_at hl 3 rfl) ?_
        obtain ⟨o_1978, hr_1978, h⟩ := ob h
        refine vp_callSi (va_Run.run (va_runV (As := [.int x3_46]) (rest := [.int x3_46, .ref q_isFirst]) ⟨hx, hb, hml, hown, hts⟩ (c_X6_isNew l dC dI cB cC cI cJ cZ cT h0 q_distinct q_ranks q_weights q_isFirst w_1975 x3_46 o_1978 hr_1978) (cwV 1 hts gX6_readColumn_X6_isNew rfl rfl rfl (by decide +kernel) ⟨Nat.le_of_ble_eq_true rfl, Nat.le_of_ble_eq_true rfl⟩) ⟨blR, va_recv hK hP (ci := 4) (q0 := 0) rfl rfl, fun U hU hW => ⟨rfl, by rw [hU]; exact hP.sub [0, 3] rfl, va_K.moved hW.alike hK⟩⟩ rfl rfl hl.1 rfl (lv_room (Nat.le_of_ble_eq_true rfl)) dX6_readColumn_61 ⟨Nat.le_of_ble_eq_true rfl, Nat.le_of_ble_eq_true rfl⟩)) (fun r_1978 e_1978 => ?_)
        subst e_1978
        obtain ⟨hi_1980, h⟩ := og h
        refine va_zast hx hb hK hP hD hS 4 3 rfl rfl hi_1980 dX6_readColumn_64 (fun H locs hP hD hS => ?_)
        replace hP : va_P (dC, dI) vwCl [(h0, .inr (4, [.ref q_distinct, .ref q_ranks, .ref q_weights, .ref q_isFirst])), (q_distinct, .inl (cI, 6, .inl v_distinct_46)), (q_ranks, .inl (cI, 96, .inl v_ranks)), (q_weights, .inl (cJ, 16, .inr (.inl w_1975))), (q_isFirst, .inl (cZ, 16, .inl (upd v_isFirst_46 (x3_46).toNatClampNeg (vp_nar .boolean (b2i o_1978))))), (q_p1, .inr (6, [.ref q_p1_kinds, .ref q_p1_tags, .ref q_p1_cells, .int v_p1_columns, .int v_p1_rows])), (q_p1_kinds, .inl (cI, 6, .inl v_p1_kinds)), (q_p1_cells, .inl (cJ, 96, .inr (.inl v_p1_cells)))] H := hP
        replace hD : va_D A [(h0, .inr (4, [.ref q_distinct, .ref q_ranks, .ref q_weights, .ref q_isFirst])), (q_distinct, .inl (cI, 6, .inl v_distinct_46)), (q_ranks, .inl (cI, 96, .inl v_ranks)), (q_weights, .inl (cJ, 16, .inr (.inl w_1975))), (q_isFirst, .inl (cZ, 16, .inl (upd v_isFirst_46 (x3_46).toNatClampNeg (vp_nar .boolean (b2i o_1978))))), (q_p1, .inr (6, [.ref q_p1_kinds, .ref q_p1_tags, .ref q_p1_cells, .int v_p1_columns, .int v_p1_rows])), (q_p1_kinds, .inl (cI, 6, .inl v_p1_kinds)), (q_p1_cells, .inl (cJ, 96, .inr (.inl v_p1_cells)))] := hD
        refine lv_aload_n hx hb dX6_readColumn_65 rfl (lv_at hl 0 rfl) ?_
        refine va_get (D := (dC, dI)) (ci := 4) (v := .ref q_isFirst) (C := RX6) (T := TX6) (N := 4) hx hb hts hi_X6 hown hK hP 0 rfl rfl 3 (by decide) (hts _ (List.mem_of_getElem? (i := 5) rfl)) (fun _ h9 => h9) rfl dX6_readColumn_66 ?_
        refine lv_iload_n hx hb dX6_readColumn_69 rfl (lv_at hl 3 rfl) ?_
        obtain ⟨hi_1981, h⟩ := og h
        refine va_zald hx hb hK hP 4 3 rfl rfl hi_1981 dX6_readColumn_70 ?_
        refine lv_if_eq (tgt := 84) hx hb dX6_readColumn_71 (by decide) (fun c_1982 => ?_) (fun c_1982 => ?_)
        · replace h := op c_1982 h
          refine lv_iinc (v := (x3_46 + 1)) (lv' := [(3, .int (x3_46 + 1)), (0, .ref h0), (1, .ref q_p1), (2, .int x2)]) hx hb dX6_readColumn_84 hl (k := 3) rfl (by rfl) (by decide) rfl (fun ls hl => ?_)
          refine lv_goto (tgt := 46) hx hb dX6_readColumn_87 (by decide) ?_
          exact ih (x3_46 + 1) v_distinct_46 (upd v_isFirst_46 (x3_46).toNatClampNeg (vp_nar .boolean (b2i o_1978))) w H _ ls h hP hD hS (lv_sub hl [1, 2, 3, 0] rfl) K
        · replace h := on c_1982 h
          refine lv_aload_n hx hb dX6_readColumn_74 rfl (lv_at hl 0 rfl) ?_
          refine va_get (D := (dC, dI)) (ci := 4) (v := .ref q_distinct) (C := RX6) (T := TX6) (N := 4) hx hb hts hi_X6 hown hK hP 0 rfl rfl 0 (by decide) (hts _ (List.mem_of_getElem? (i := 4) rfl)) (fun _ h9 => h9) rfl dX6_readColumn_75 ?_
          refine lv_iload_n hx hb dX6_readColumn_78 rfl (lv_at hl 2 rfl) ?_
          refine lv_dup2_11 hx hb dX6_readColumn_79 rfl rfl ?_
          obtain ⟨hi_1983, h⟩ := og h
          refine va_iald hx hb hK hP 1 0 rfl rfl hi_1983 dX6_readColumn_80 ?_
          refine lv_iconst (v := 1) hx hb dX6_readColumn_81 (by decide) ?_
          refine lv_iadd hx hb dX6_readColumn_82 ?_
          obtain ⟨hi_1984, h⟩ := og h
          refine va_iast hx hb hK hP hD hS 1 0 rfl rfl hi_1984 dX6_readColumn_83 (fun H locs hP hD hS => ?_)
          replace hP : va_P (dC, dI) vwCl [(h0, .inr (4, [.ref q_distinct, .ref q_ranks, .ref q_weights, .ref q_isFirst])), (q_distinct, .inl (cI, 6, .inl (upd v_distinct_46 (x2).toNatClampNeg ((v_distinct_46 (x2).toNatClampNeg) + (1 : Int32))))), (q_ranks, .inl (cI, 96, .inl v_ranks)), (q_weights, .inl (cJ, 16, .inr (.inl w_1975))), (q_isFirst, .inl (cZ, 16, .inl (upd v_isFirst_46 (x3_46).toNatClampNeg (vp_nar .boolean (b2i o_1978))))), (q_p1, .inr (6, [.ref q_p1_kinds, .ref q_p1_tags, .ref q_p1_cells, .int v_p1_columns, .int v_p1_rows])), (q_p1_kinds, .inl (cI, 6, .inl v_p1_kinds)), (q_p1_cells, .inl (cJ, 96, .inr (.inl v_p1_cells)))] H := hP
          replace hD : va_D A [(h0, .inr (4, [.ref q_distinct, .ref q_ranks, .ref q_weights, .ref q_isFirst])), (q_distinct, .inl (cI, 6, .inl (upd v_distinct_46 (x2).toNatClampNeg ((v_distinct_46 (x2).toNatClampNeg) + (1 : Int32))))), (q_ranks, .inl (cI, 96, .inl v_ranks)), (q_weights, .inl (cJ, 16, .inr (.inl w_1975))), (q_isFirst, .inl (cZ, 16, .inl (upd v_isFirst_46 (x3_46).toNatClampNeg (vp_nar .boolean (b2i o_1978))))), (q_p1, .inr (6, [.ref q_p1_kinds, .ref q_p1_tags, .ref q_p1_cells, .int v_p1_columns, .int v_p1_rows])), (q_p1_kinds, .inl (cI, 6, .inl v_p1_kinds)), (q_p1_cells, .inl (cJ, 96, .inr (.inl v_p1_cells)))] := hD
          refine lv_iinc (v := (x3_46 + 1)) (lv' := [(3, .int (x3_46 + 1)), (0, .ref h0), (1, .ref q_p1), (2, .int x2)]) hx hb dX6_readColumn_84 hl (k := 3) rfl (by rfl) (by decide) rfl (fun ls hl => ?_)
          refine lv_goto (tgt := 46) hx hb dX6_readColumn_87 (by decide) ?_
          exact ih (x3_46 + 1) (upd v_distinct_46 (x2).toNatClampNeg ((v_distinct_46 (x2).toNatClampNeg) + (1 : Int32))) (upd v_isFirst_46 (x3_46).toNatClampNeg (vp_nar .boolean (b2i o_1978))) w H _ ls h hP hD hS (lv_sub hl [1, 2, 3, 0] rfl) K
  obtain ⟨w_1985, hw_1985, h⟩ := ob h
  refine LP_1985 fu (0 : Int32) (upd v_distinct (x2).toNatClampNeg (0 : Int32)) v_isFirst w_1985 H _ ls hw_1985 hP hD hS (lv_sub hl [1, 2, 3, 0] rfl) (fun H locs ls hP hD hS hl => ?_)
  refine lv_iconst (v := 0) hx hb dX6_readColumn_90 (by decide) ?_
  refine lv_istore_n (lv' := [(3, .int (0 : Int32)), (0, .ref h0), (1, .ref q_p1), (2, .int x2)]) hx hb dX6_readColumn_91 rfl hl (by decide) rfl (fun ls hl => ?_)
  have LP_1990 : ∀ (n : Nat) (x3_92 : Int32) (v_ranks_92 : (Nat → Int32)) (w : (Nat → Int32)) (H : Heap) (locs : List Loc) (ls : Array Slot), L_X6_readColumn_92 v_p1_rows x2 w_1975 w_1985 n x3_92 v_ranks_92 = some w → va_P (dC, dI) vwCl [(h0, .inr (4, [.ref q_distinct, .ref q_ranks, .ref q_weights, .ref q_isFirst])), (q_distinct, .inl (cI, 6, .inl w_1985.1)), (q_ranks, .inl (cI, 96, .inl v_ranks_92)), (q_weights, .inl (cJ, 16, .inr (.inl w_1975))), (q_isFirst, .inl (cZ, 16, .inl w_1985.2)), (q_p1, .inr (6, [.ref q_p1_kinds, .ref q_p1_tags, .ref q_p1_cells, .int v_p1_columns, .int v_p1_rows])), (q_p1_kinds, .inl (cI, 6, .inl v_p1_kinds)), (q_p1_cells, .inl (cJ, 96, .inr (.inl v_p1_cells)))] H → va_D A [(h0, .inr (4, [.ref q_distinct, .ref q_ranks, .ref q_weights, .ref q_isFirst])), (q_distinct, .inl (cI, 6, .inl w_1985.1)), (q_ranks, .inl (cI, 96, .inl v_ranks_92)), (q_weights, .inl (cJ, 16, .inr (.inl w_1975))), (q_isFirst, .inl (cZ, 16, .inl w_1985.2)), (q_p1, .inr (6, [.ref q_p1_kinds, .ref q_p1_tags, .ref q_p1_cells, .int v_p1_columns, .int v_p1_rows])), (q_p1_kinds, .inl (cI, 6, .inl v_p1_kinds)), (q_p1_cells, .inl (cJ, 96, .inr (.inl v_p1_cells)))] → va_S A s.heap H locs → lv_has ls 4 [(0, .ref h0), (1, .ref q_p1), (2, .int x2), (3, .int x3_92)] → (∀ (H : Heap) (locs : List Loc) (ls : Array Slot), va_P (dC, dI) vwCl [(h0, .inr (4, [.ref q_distinct, .ref q_ranks, .ref q_weights, .ref q_isFirst])), (q_distinct, .inl (cI, 6, .inl w_1985.1)), (q_ranks, .inl (cI, 96, .inl w)), (q_weights, .inl (cJ, 16, .inr (.inl w_1975))), (q_isFirst, .inl (cZ, 16, .inl w_1985.2)), (q_p1, .inr (6, [.ref q_p1_kinds, .ref q_p1_tags, .ref q_p1_cells, .int v_p1_columns, .int v_p1_rows])), (q_p1_kinds, .inl (cI, 6, .inl v_p1_kinds)), (q_p1_cells, .inl (cJ, 96, .inr (.inl v_p1_cells)))] H → va_D A [(h0, .inr (4, [.ref q_distinct, .ref q_ranks, .ref q_weights, .ref q_isFirst])), (q_distinct, .inl (cI, 6, .inl w_1985.1)), (q_ranks, .inl (cI, 96, .inl w)), (q_weights, .inl (cJ, 16, .inr (.inl w_1975))), (q_isFirst, .inl (cZ, 16, .inl w_1985.2)), (q_p1, .inr (6, [.ref q_p1_kinds, .ref q_p1_tags, .ref q_p1_cells, .int v_p1_columns, .int v_p1_rows])), (q_p1_kinds, .inl (cI, 6, .inl v_p1_kinds)), (q_p1_cells, .inl (cJ, 96, .inr (.inl v_p1_cells)))] → va_S A s.heap H locs → lv_has ls 4 [] → W p l e rm_X6_readColumn s m args below meth c H locs 0 0 QQ (F0 m 126 ls [])) → W p l e rm_X6_readColumn s m args below meth c H locs 0 0 QQ (F0 m 92 ls []) := by
    intro n
    induction n with
    | zero => intro x3_92 v_ranks_92 w H locs ls h; exact absurd (show none = some w from h) nofun
    | succ n ih =>
      intro x3_92 v_ranks_92 w H locs ls h hP hD hS hl K
      rw [L_X6_readColumn_92] at h
      refine lv_iload_n hx hb dX6_readColumn_92 rfl (lv_at hl 3 rfl) ?_
      refine lv_aload_n hx hb dX6_readColumn_93 rfl (lv_at hl 1 rfl) ?_
      refine va_get (D := (dC, dI)) (ci := 6) (v := .int v_p1_rows) (C := RX8) (T := TX8) (N := 5) hx hb hts hi_X8 hown hK hP 5 rfl rfl 4 (by decide) (hts _ (List.mem_of_getElem? (i := 1) rfl)) (fun _ h9 => h9) rfl dX6_readColumn_94 ?_
      refine lv_icmp_ge (tgt := 126) hx hb dX6_readColumn_97 (by decide) (fun c_1986 => ?_) (fun c_1986 => ?_)
      · replace h := op c_1986 h
        have ho := Option.some.inj h
        subst ho
        exact K H _ ls hP hD hS (lv_sub hl [] rfl)
      · replace h := on c_1986 h
        refine lv_aload_n hx hb dX6_readColumn_100 rfl (lv_at hl 0 rfl) ?_
        refine va_get (D := (dC, dI)) (ci := 4) (v := .ref q_ranks) (C := RX6) (T := TX6) (N := 4) hx hb hts hi_X6 hown hK hP 0 rfl rfl 1 (by decide) (hts _ (List.mem_of_getElem? (i := 6) rfl)) (fun _ h9 => h9) rfl dX6_readColumn_101 ?_
        refine lv_iload_n hx hb dX6_readColumn_104 rfl (lv_at hl 2 rfl) ?_
        refine lv_bipush (v := 16) hx hb dX6_readColumn_105 (by decide) ?_
        refine lv_imul hx hb dX6_readColumn_107 ?_
        refine lv_iload_n hx hb dX6_readColumn_108 rfl (lv_at hl 3 rfl) ?_
        refine lv_iadd hx hb dX6_readColumn_109 ?_
        refine lv_aload_n hx hb dX6_readColumn_110 rfl (lv_at hl 0 rfl) ?_
        refine lv_iload_n hx hb dX6_readColumn_111 rfl (lv_at hl 3 rfl) ?_
        refine lv_aload_n hx hb dX6_readColumn_112 rfl (lv_at hl 1 rfl) ?_
        refine va_get (D := (dC, dI)) (ci := 6) (v := .int v_p1_rows) (C := RX8) (T := TX8) (N := 5) hx hb hts hi_X8 hown hK hP 5 rfl rfl 4 (by decide) (hts _ (List.mem_of_getElem? (i := 1) rfl)) (fun _ h9 => h9) rfl dX6_readColumn_113 ?_
        obtain ⟨o_1987, hr_1987, h⟩ := ob h
        refine vp_callSi (va_Run.run (va_runV (As := [.int x3_92, .int v_p1_rows]) (rest := [.int ((x2 * (16 : Int32)) + x3_92), .ref q_ranks]) ⟨hx, hb, hml, hown, hts⟩ (c_X6_lesserOnes l dC dI cB cC cI cJ cZ cT h0 q_distinct q_ranks q_weights q_isFirst w_1975 w_1985.2 x3_92 v_p1_rows o_1987 hr_1987) (cwV 2 hts gX6_readColumn_X6_lesserOnes rfl rfl rfl (by decide +kernel) ⟨Nat.le_of_ble_eq_true rfl, Nat.le_of_ble_eq_true rfl⟩) ⟨blR, va_recv hK hP (ci := 4) (q0 := 0) rfl rfl, fun U hU hW => ⟨rfl, by rw [hU]; exact hP.sub [0, 3, 4] rfl, va_K.moved hW.alike hK⟩⟩ rfl rfl hl.1 rfl (lv_room (Nat.le_of_ble_eq_true rfl)) dX6_readColumn_116 ⟨Nat.le_of_ble_eq_true rfl, Nat.le_of_ble_eq_true rfl⟩)) (fun r_1987 e_1987 => ?_)
        subst e_1987
        obtain ⟨hi_1989, h⟩ := og h
        refine va_iast hx hb hK hP hD hS 2 0 rfl rfl hi_1989 dX6_readColumn_119 (fun H locs hP hD hS => ?_)
        replace hP : va_P (dC, dI) vwCl [(h0, .inr (4, [.ref q_distinct, .ref q_ranks, .ref q_weights, .ref q_isFirst])), (q_distinct, .inl (cI, 6, .inl w_1985.1)), (q_ranks, .inl (cI, 96, .inl (upd v_ranks_92 (((x2 * (16 : Int32)) + x3_92)).toNatClampNeg o_1987))), (q_weights, .inl (cJ, 16, .inr (.inl w_1975))), (q_isFirst, .inl (cZ, 16, .inl w_1985.2)), (q_p1, .inr (6, [.ref q_p1_kinds, .ref q_p1_tags, .ref q_p1_cells, .int v_p1_columns, .int v_p1_rows])), (q_p1_kinds, .inl (cI, 6, .inl v_p1_kinds)), (q_p1_cells, .inl (cJ, 96, .inr (.inl v_p1_cells)))] H := hP
        replace hD : va_D A [(h0, .inr (4, [.ref q_distinct, .ref q_ranks, .ref q_weights, .ref q_isFirst])), (q_distinct, .inl (cI, 6, .inl w_1985.1)), (q_ranks, .inl (cI, 96, .inl (upd v_ranks_92 (((x2 * (16 : Int32)) + x3_92)).toNatClampNeg o_1987))), (q_weights, .inl (cJ, 16, .inr (.inl w_1975))), (q_isFirst, .inl (cZ, 16, .inl w_1985.2)), (q_p1, .inr (6, [.ref q_p1_kinds, .ref q_p1_tags, .ref q_p1_cells, .int v_p1_columns, .int v_p1_rows])), (q_p1_kinds, .inl (cI, 6, .inl v_p1_kinds)), (q_p1_cells, .inl (cJ, 96, .inr (.inl v_p1_cells)))] := hD
        refine lv_iinc (v := (x3_92 + 1)) (lv' := [(3, .int (x3_92 + 1)), (0, .ref h0), (1, .ref q_p1), (2, .int x2)]) hx hb dX6_readColumn_120 hl (k := 3) rfl (by rfl) (by decide) rfl (fun ls hl => ?_)
        refine lv_goto (tgt := 92) hx hb dX6_readColumn_123 (by decide) ?_
        exact ih (x3_92 + 1) (upd v_ranks_92 (((x2 * (16 : Int32)) + x3_92)).toNatClampNeg o_1987) w H _ ls h hP hD hS (lv_sub hl [1, 2, 3, 0] rfl) K
  obtain ⟨w_1990, hw_1990, h⟩ := ob h
  refine LP_1990 fu (0 : Int32) v_ranks w_1990 H _ ls hw_1990 hP hD hS (lv_sub hl [1, 2, 3, 0] rfl) (fun H locs ls hP hD hS hl => ?_)
  rw [hQQ]
  have ho := Option.some.inj h
  subst ho
  exact W.vret hx hb hr (fun t ht hW => ⟨⟨(), rfl, trivial, by rw [ht]; exact hP, va_K.moved hW.alike hK, hD⟩, hS.F ht⟩) hS.2.2 dX6_readColumn_126
def L_X6_readAll_2 (v_p1_columns : Int32) (v_p1_rows : Int32) (v_p1_kinds : (Nat → Int32)) (v_p1_cells : (Nat → Int64)) : Nat → Int32 → (Nat → Int32) → (Nat → Int32) → (Nat → Int64) → (Nat → Int32) → Option ((Nat → Int32) × (Nat → Int32) × (Nat → Int64) × (Nat → Int32))
  | 0, _, _, _, _, _ => none
  | n+1, x2_2, v_distinct_2, v_ranks_2, v_weights_2, v_isFirst_2 => (if v_p1_columns ≤ x2_2 then (some (v_distinct_2, v_ranks_2, v_weights_2, v_isFirst_2)) else ((f_X8_isProper v_p1_columns v_p1_kinds x2_2).bind (fun o_1992 => (if (b2i o_1992) = 0 then (L_X6_readAll_2 v_p1_columns v_p1_rows v_p1_kinds v_p1_cells n (x2_2 + 1) v_distinct_2 v_ranks_2 v_weights_2 v_isFirst_2) else ((f_X6_readColumn v_distinct_2 v_ranks_2 v_weights_2 v_isFirst_2 v_p1_rows v_p1_kinds v_p1_cells x2_2).bind (fun o_1995 => (L_X6_readAll_2 v_p1_columns v_p1_rows v_p1_kinds v_p1_cells n (x2_2 + 1) o_1995.1 o_1995.2.1 o_1995.2.2.1 o_1995.2.2.2)))))))
def f_X6_readAll (v_distinct : Nat → Int32) (v_ranks : Nat → Int32) (v_weights : Nat → Int64) (v_isFirst : Nat → Int32) (v_p1_columns : Int32) (v_p1_rows : Int32) (v_p1_kinds : Nat → Int32) (v_p1_cells : Nat → Int64) : Option ((Nat → Int32) × (Nat → Int32) × (Nat → Int64) × (Nat → Int32)) :=
  ((L_X6_readAll_2 v_p1_columns v_p1_rows v_p1_kinds v_p1_cells fu (0 : Int32) v_distinct v_ranks v_weights v_isFirst).bind (fun w_1997 => (some (w_1997.1, w_1997.2.1, w_1997.2.2.1, w_1997.2.2.2))))
abbrev rm_X6_readAll : Room := { frames := 3, cells := 0, slots := 0, locals := 65 }
set_option maxHeartbeats 4000000 in
set_option maxRecDepth 100000 in
theorem c_X6_readAll (l : Launch) (dC : Nat → ClassId) (dI : Nat → Nat → Nat) (cB cC cI cJ cZ cT : ClassId) (h0 q_distinct q_ranks q_weights q_isFirst q_p1 q_p1_kinds q_p1_tags q_p1_cells : Nat) (sz : Nat) (v_distinct : Nat → Int32) (v_ranks : Nat → Int32) (v_weights : Nat → Int64) (v_isFirst : Nat → Int32) (v_p1_columns : Int32) (v_p1_rows : Int32) (v_p1_kinds : Nat → Int32) (v_p1_cells : Nat → Int64) (o : ((Nat → Int32) × (Nat → Int32) × (Nat → Int64) × (Nat → Int32))) (hf : f_X6_readAll v_distinct v_ranks v_weights v_isFirst v_p1_columns v_p1_rows v_p1_kinds v_p1_cells = some o) : Met l yX6_readAll wsX6_readAll rm_X6_readAll (va_Pc [.ref h0, .ref q_p1] (fun U => U.heap.size = sz ∧ va_P (dC, dI) vwCl [(h0, .inr (4, [.ref q_distinct, .ref q_ranks, .ref q_weights, .ref q_isFirst])), (q_distinct, .inl (cI, 6, .inl v_distinct)), (q_ranks, .inl (cI, 96, .inl v_ranks)), (q_weights, .inl (cJ, 16, .inr (.inl v_weights))), (q_isFirst, .inl (cZ, 16, .inl v_isFirst)), (q_p1, .inr (6, [.ref q_p1_kinds, .ref q_p1_tags, .ref q_p1_cells, .int v_p1_columns, .int v_p1_rows])), (q_p1_kinds, .inl (cI, 6, .inl v_p1_kinds)), (q_p1_cells, .inl (cJ, 96, .inr (.inl v_p1_cells)))] U.heap ∧ va_K (dC, dI) vwCl (tyA cB cC cI cJ cZ cT) U ∧ va_D (fun _ => True) [(h0, .inr (4, [.ref q_distinct, .ref q_ranks, .ref q_weights, .ref q_isFirst])), (q_distinct, .inl (cI, 6, .inl v_distinct)), (q_ranks, .inl (cI, 96, .inl v_ranks)), (q_weights, .inl (cJ, 16, .inr (.inl v_weights))), (q_isFirst, .inl (cZ, 16, .inl v_isFirst)), (q_p1, .inr (6, [.ref q_p1_kinds, .ref q_p1_tags, .ref q_p1_cells, .int v_p1_columns, .int v_p1_rows])), (q_p1_kinds, .inl (cI, 6, .inl v_p1_kinds)), (q_p1_cells, .inl (cJ, 96, .inr (.inl v_p1_cells)))])) (va_Qv (fun _ : Unit => True) (fun _ t => va_P (dC, dI) vwCl [(h0, .inr (4, [.ref q_distinct, .ref q_ranks, .ref q_weights, .ref q_isFirst])), (q_distinct, .inl (cI, 6, .inl o.1)), (q_ranks, .inl (cI, 96, .inl o.2.1)), (q_weights, .inl (cJ, 16, .inr (.inl o.2.2.1))), (q_isFirst, .inl (cZ, 16, .inl o.2.2.2)), (q_p1, .inr (6, [.ref q_p1_kinds, .ref q_p1_tags, .ref q_p1_cells, .int v_p1_columns, .int v_p1_rows])), (q_p1_kinds, .inl (cI, 6, .inl v_p1_kinds)), (q_p1_cells, .inl (cJ, 96, .inr (.inl v_p1_cells)))] t.heap ∧ va_K (dC, dI) vwCl (tyA cB cC cI cJ cZ cT) t ∧ va_D (va_A [(h0, .inr (4, [.ref q_distinct, .ref q_ranks, .ref q_weights, .ref q_isFirst])), (q_distinct, .inl (cI, 6, .inl v_distinct)), (q_ranks, .inl (cI, 96, .inl v_ranks)), (q_weights, .inl (cJ, 16, .inr (.inl v_weights))), (q_isFirst, .inl (cZ, 16, .inl v_isFirst)), (q_p1, .inr (6, [.ref q_p1_kinds, .ref q_p1_tags, .ref q_p1_cells, .int v_p1_columns, .int v_p1_rows])), (q_p1_kinds, .inl (cI, 6, .inl v_p1_kinds)), (q_p1_cells, .inl (cJ, 96, .inr (.inl v_p1_cells)))] sz) [(h0, .inr (4, [.ref q_distinct, .ref q_ranks, .ref q_weights, .ref q_isFirst])), (q_distinct, .inl (cI, 6, .inl o.1)), (q_ranks, .inl (cI, 96, .inl o.2.1)), (q_weights, .inl (cJ, 16, .inr (.inl o.2.2.1))), (q_isFirst, .inl (cZ, 16, .inl o.2.2.2)), (q_p1, .inr (6, [.ref q_p1_kinds, .ref q_p1_tags, .ref q_p1_cells, .int v_p1_columns, .int v_p1_rows])), (q_p1_kinds, .inl (cI, 6, .inl v_p1_kinds)), (q_p1_cells, .inl (cJ, 96, .inr (.inl v_p1_cells)))]) (va_A [(h0, .inr (4, [.ref q_distinct, .ref q_ranks, .ref q_weights, .ref q_isFirst])), (q_distinct, .inl (cI, 6, .inl v_distinct)), (q_ranks, .inl (cI, 96, .inl v_ranks)), (q_weights, .inl (cJ, 16, .inr (.inl v_weights))), (q_isFirst, .inl (cZ, 16, .inl v_isFirst)), (q_p1, .inr (6, [.ref q_p1_kinds, .ref q_p1_tags, .ref q_p1_cells, .int v_p1_columns, .int v_p1_rows])), (q_p1_kinds, .inl (cI, 6, .inl v_p1_kinds)), (q_p1_cells, .inl (cJ, 96, .inr (.inl v_p1_cells)))] sz)) 0 0 (va_A [(h0, .inr (4, [.ref q_distinct, .ref q_ranks, .ref q_weights, .ref q_isFirst])), (q_distinct, .inl (cI, 6, .inl v_distinct)), (q_ranks, .inl (cI, 96, .inl v_ranks)), (q_weights, .inl (cJ, 16, .inr (.inl v_weights))), (q_isFirst, .inl (cZ, 16, .inl v_isFirst)), (q_p1, .inr (6, [.ref q_p1_kinds, .ref q_p1_tags, .ref q_p1_cells, .int v_p1_columns, .int v_p1_rows])), (q_p1_kinds, .inl (cI, 6, .inl v_p1_kinds)), (q_p1_cells, .inl (cJ, 96, .inr (.inl v_p1_cells)))] sz) := by
  refine Met.ofW (cc := cX6_readAll) (maxL := 3) (ret := none) (by decide +kernel) rfl ?_
  intro p e s m args below meth c s₁ B hml hv
  obtain ⟨hav, hsz, hP, hK, hD0⟩ := hv
  have hx := B.exec
  have hb := B.bytes
  have hr := B.returns
  have hts := atoms_spec (ws := wsX6_readAll) B.pre
  have hown : s.vm.findClass RX6 = some m.cls := findClass_of_methodNamed B.named
  have hlocks := B.notSynchronized
  subst hsz
  have hD := hD0.self (sz := s.heap.size)
  generalize hAe : va_A [(h0, .inr (4, [.ref q_distinct, .ref q_ranks, .ref q_weights, .ref q_isFirst])), (q_distinct, .inl (cI, 6, .inl v_distinct)), (q_ranks, .inl (cI, 96, .inl v_ranks)), (q_weights, .inl (cJ, 16, .inr (.inl v_weights))), (q_isFirst, .inl (cZ, 16, .inl v_isFirst)), (q_p1, .inr (6, [.ref q_p1_kinds, .ref q_p1_tags, .ref q_p1_cells, .int v_p1_columns, .int v_p1_rows])), (q_p1_kinds, .inl (cI, 6, .inl v_p1_kinds)), (q_p1_cells, .inl (cJ, 96, .inr (.inl v_p1_cells)))] s.heap.size = A at hD ⊢
  have hA : ∀ q : Nat, s.heap.size ≤ q → A q := fun q h => by rw [← hAe]; exact Or.inr h
  have hS : va_S A s.heap s.heap [] := va_S.rf
  refine wstart (rm := rm_X6_readAll) hav (Nat.le_of_ble_eq_true rfl) (fun QQ ls hQQ hl => ?_)
  have hl : lv_has ls 3 [(0, .ref h0), (1, .ref q_p1)] := hl
  have hi_X8 : ∀ w ∈ u_ws RX8 TX8 5, w ∈ wsX6_readAll := by decide +kernel
  have h := hf
  unfold f_X6_readAll at h
  refine lv_iconst (v := 0) hx hb dX6_readAll_0 (by decide) ?_
  refine lv_istore_n (lv' := [(2, .int (0 : Int32)), (0, .ref h0), (1, .ref q_p1)]) hx hb dX6_readAll_1 rfl hl (by decide) rfl (fun ls hl => ?_)
  have LP_1997 : ∀ (n : Nat) (x2_2 : Int32) (v_distinct_2 : (Nat → Int32)) (v_ranks_2 : (Nat → Int32)) (v_weights_2 : (Nat → Int64)) (v_isFirst_2 : (Nat → Int32)) (w : ((Nat → Int32) × (Nat → Int32) × (Nat → Int64) × (Nat → Int32))) (H : Heap) (locs : List Loc) (ls : Array Slot), L_X6_readAll_2 v_p1_columns v_p1_rows v_p1_kinds v_p1_cells n x2_2 v_distinct_2 v_ranks_2 v_weights_2 v_isFirst_2 = some w → va_P (dC, dI) vwCl [(h0, .inr (4, [.ref q_distinct, .ref q_ranks, .ref q_weights, .ref q_isFirst])), (q_distinct, .inl (cI, 6, .inl v_distinct_2)), (q_ranks, .inl (cI, 96, .inl v_ranks_2)), (q_weights, .inl (cJ, 16, .inr (.inl v_weights_2))), (q_isFirst, .inl (cZ, 16, .inl v_isFirst_2)), (q_p1, .inr (6, [.ref q_p1_kinds, .ref q_p1_tags, .ref q_p1_cells, .int v_p1_columns, .int v_p1_rows])), (q_p1_kinds, .inl (cI, 6, .inl v_p1_kinds)), (q_p1_cells, .inl (cJ, 96, .inr (.inl v_p1_cells)))] H → va_D A [(h0, .inr (4, [.ref q_distinct, .ref q_ranks, .ref q_weights, .ref q_isFirst])), (q_distinct, .inl (cI, 6, .inl v_distinct_2)), (q_ranks, .inl (cI, 96, .inl v_ranks_2)), (q_weights, .inl (cJ, 16, .inr (.inl v_weights_2))), (q_isFirst, .inl (cZ, 16, .inl v_isFirst_2)), (q_p1, .inr (6, [.ref q_p1_kinds, .ref q_p1_tags, .ref q_p1_cells, .int v_p1_columns, .int v_p1_rows])), (q_p1_kinds, .inl (cI, 6, .inl v_p1_kinds)), (q_p1_cells, .inl (cJ, 96, .inr (.inl v_p1_cells)))] → va_S A s.heap H locs → lv_has ls 3 [(0, .ref h0), (1, .ref q_p1), (2, .int x2_2)] → (∀ (H : Heap) (locs : List Loc) (ls : Array Slot), va_P (dC, dI) vwCl [(h0, .inr (4, [.ref q_distinct, .ref q_ranks, .ref q_weights, .ref q_isFirst])), (q_distinct, .inl (cI, 6, .inl w.1)), (q_ranks, .inl (cI, 96, .inl w.2.1)), (q_weights, .inl (cJ, 16, .inr (.inl w.2.2.1))), (q_isFirst, .inl (cZ, 16, .inl w.2.2.2)), (q_p1, .inr (6, [.ref q_p1_kinds, .ref q_p1_tags, .ref q_p1_cells, .int v_p1_columns, .int v_p1_rows])), (q_p1_kinds, .inl (cI, 6, .inl v_p1_kinds)), (q_p1_cells, .inl (cJ, 96, .inr (.inl v_p1_cells)))] H → va_D A [(h0, .inr (4, [.ref q_distinct, .ref q_ranks, .ref q_weights, .ref q_isFirst])), (q_distinct, .inl (cI, 6, .inl w.1)), (q_ranks, .inl (cI, 96, .inl w.2.1)), (q_weights, .inl (cJ, 16, .inr (.inl w.2.2.1))), (q_isFirst, .inl (cZ, 16, .inl w.2.2.2)), (q_p1, .inr (6, [.ref q_p1_kinds, .ref q_p1_tags, .ref q_p1_cells, .int v_p1_columns, .int v_p1_rows])), (q_p1_kinds, .inl (cI, 6, .inl v_p1_kinds)), (q_p1_cells, .inl (cJ, 96, .inr (.inl v_p1_cells)))] → va_S A s.heap H locs → lv_has ls 3 [] → W p l e rm_X6_readAll s m args below meth c H locs 0 0 QQ (F0 m 30 ls [])) → W p l e rm_X6_readAll s m args below meth c H locs 0 0 QQ (F0 m 2 ls []) := by
    intro n
    induction n with
    | zero => intro x2_2 v_distinct_2 v_ranks_2 v_weights_2 v_isFirst_2 w H locs ls h; exact absurd (show none = some w from h) nofun
    | succ n ih =>
      intro x2_2 v_distinct_2 v_ranks_2 v_weights_2 v_isFirst_2 w H locs ls h hP hD hS hl K
      rw [L_X6_readAll_2] at h
      refine lv_iload_n hx hb dX6_readAll_2 rfl (lv_at hl 2 rfl) ?_
      refine lv_aload_n hx hb dX6_readAll_3 rfl (lv_at hl 1 rfl) ?_
      refine va_get (D := (dC, dI)) (ci := 6) (v := .int v_p1_columns) (C := RX8) (T := TX8) (N := 5) hx hb hts hi_X8 hown hK hP 5 rfl rfl 3 (by decide) (hts _ (List.mem_of_getElem? (i := 1) rfl)) (fun _ h9 => h9) rfl dX6_readAll_4 ?_
      refine lv_icmp_ge (tgt := 30) hx hb dX6_readAll_7 (by decide) (fun c_1991 => ?_) (fun c_1991 => ?_)
      · replace h := op c_1991 h
        have ho := Option.some.inj h
        subst ho
        exact K H _ ls hP hD hS (lv_sub hl [] rfl)
      · replace h := on c_1991 h
        refine lv_aload_n hx hb dX6_readAll_10 rfl (lv_at hl 1 rfl) ?_
        refine lv_iload_n hx hb dX6_readAll_11 rfl (lv_at hl 2 rfl) ?_
        obtain ⟨o_1992, hr_1992, h⟩ := ob h
        refine vp_callSi (va_Run.run (va_runV (As := [.int x2_2]) (rest := []) ⟨hx, hb, hml, hown, hts⟩ (c_X8_isProper l dC dI cB cC cI cJ cZ cT q_p1 q_p1_kinds q_p1_tags q_p1_cells v_p1_columns v_p1_rows v_p1_kinds x2_2 o_1992 hr_1992) (cwV 1 hts gX6_readAll_X8_isProper rfl rfl rfl (by decide +kernel) ⟨Nat.le_of_ble_eq_true rfl, Nat.le_of_ble_eq_true rfl⟩) ⟨blR, va_recv hK hP (ci := 6) (q0 := 5) rfl rfl, fun U hU hW => ⟨rfl, by rw [hU]; exact hP.sub [5, 6] rfl, va_K.moved hW.alike hK⟩⟩ rfl rfl hl.1 rfl (lv_room (Nat.le_of_ble_eq_true rfl)) dX6_readAll_12 ⟨Nat.le_of_ble_eq_true rfl, Nat.le_of_ble_eq_true rfl⟩)) (fun r_1992 e_1992 => ?_)
        subst e_1992
        refine lv_if_eq (tgt := 24) hx hb dX6_readAll_15 (by decide) (fun c_1994 => ?_) (fun c_1994 => ?_)
        · replace h := op c_1994 h
          refine lv_iinc (v := (x2_2 + 1)) (lv' := [(2, .int (x2_2 + 1)), (0, .ref h0), (1, .ref q_p1)]) hx hb dX6_readAll_24 hl (k := 2) rfl (by rfl) (by decide) rfl (fun ls hl => ?_)
          refine lv_goto (tgt := 2) hx hb dX6_readAll_27 (by decide) ?_
          exact ih (x2_2 + 1) v_distinct_2 v_ranks_2 v_weights_2 v_isFirst_2 w H _ ls h hP hD hS (lv_sub hl [1, 2, 0] rfl) K
        · replace h := on c_1994 h
          refine lv_aload_n hx hb dX6_readAll_18 rfl (lv_at hl 0 rfl) ?_
          refine lv_aload_n hx hb dX6_readAll_19 rfl (lv_at hl 1 rfl) ?_
          refine lv_iload_n hx hb dX6_readAll_20 rfl (lv_at hl 2 rfl) ?_
          obtain ⟨o_1995, hr_1995, h⟩ := ob h
          have hPc := hP.sub (ws' := [(h0, .inr (4, [.ref q_distinct, .ref q_ranks, .ref q_weights, .ref q_isFirst])), (q_distinct, .inl (cI, 6, .inl v_distinct_2)), (q_ranks, .inl (cI, 96, .inl v_ranks_2)), (q_weights, .inl (cJ, 16, .inr (.inl v_weights_2))), (q_isFirst, .inl (cZ, 16, .inl v_isFirst_2)), (q_p1, .inr (6, [.ref q_p1_kinds, .ref q_p1_tags, .ref q_p1_cells, .int v_p1_columns, .int v_p1_rows])), (q_p1_kinds, .inl (cI, 6, .inl v_p1_kinds)), (q_p1_cells, .inl (cJ, 96, .inr (.inl v_p1_cells)))]) [0, 1, 2, 3, 4, 5, 6, 7] rfl
          have hDc := hD.sub (ws' := [(h0, .inr (4, [.ref q_distinct, .ref q_ranks, .ref q_weights, .ref q_isFirst])), (q_distinct, .inl (cI, 6, .inl v_distinct_2)), (q_ranks, .inl (cI, 96, .inl v_ranks_2)), (q_weights, .inl (cJ, 16, .inr (.inl v_weights_2))), (q_isFirst, .inl (cZ, 16, .inl v_isFirst_2)), (q_p1, .inr (6, [.ref q_p1_kinds, .ref q_p1_tags, .ref q_p1_cells, .int v_p1_columns, .int v_p1_rows])), (q_p1_kinds, .inl (cI, 6, .inl v_p1_kinds)), (q_p1_cells, .inl (cJ, 96, .inr (.inl v_p1_cells)))]) [0, 1, 2, 3, 4, 5, 6, 7] (by decide) rfl
          have hFc := va_free (wc := [(h0, .inr (4, [.ref q_distinct, .ref q_ranks, .ref q_weights, .ref q_isFirst])), (q_distinct, .inl (cI, 6, .inl v_distinct_2)), (q_ranks, .inl (cI, 96, .inl v_ranks_2)), (q_weights, .inl (cJ, 16, .inr (.inl v_weights_2))), (q_isFirst, .inl (cZ, 16, .inl v_isFirst_2)), (q_p1, .inr (6, [.ref q_p1_kinds, .ref q_p1_tags, .ref q_p1_cells, .int v_p1_columns, .int v_p1_rows])), (q_p1_kinds, .inl (cI, 6, .inl v_p1_kinds)), (q_p1_cells, .inl (cJ, 96, .inr (.inl v_p1_cells)))]) hD hS hA [0, 1, 2, 3, 4, 5, 6, 7] rfl
          refine va_callv (va_runV (As := [.ref q_p1, .int x2_2]) (rest := []) ⟨hx, hb, hml, hown, hts⟩ (c_X6_readColumn l dC dI cB cC cI cJ cZ cT h0 q_distinct q_ranks q_weights q_isFirst q_p1 q_p1_kinds q_p1_tags q_p1_cells H.size v_distinct_2 v_ranks_2 v_weights_2 v_isFirst_2 v_p1_columns v_p1_rows v_p1_kinds v_p1_cells x2_2 o_1995 hr_1995) (cwV 2 hts gX6_readAll_X6_readColumn rfl rfl rfl (by decide +kernel) ⟨Nat.le_of_ble_eq_true rfl, Nat.le_of_ble_eq_true rfl⟩) ⟨blW, va_recv hK hP (ci := 4) (q0 := 0) rfl rfl, fun U hU hW => ⟨rfl, by rw [hU], by rw [hU]; exact hPc, va_K.moved hW.alike hK, hDc.weaken (fun _ _ _ _ => trivial)⟩⟩ rfl rfl hl.1 rfl (lv_room (Nat.le_of_ble_eq_true rfl)) dX6_readAll_21 ⟨Nat.le_of_ble_eq_true rfl, Nat.le_of_ble_eq_true rfl⟩) hS (fun q _ h => hFc q h) hFc (fun u_1995 t_1995 H locs ht hvm e_1995 hB hz1 hk1 hS => ?_)
          obtain ⟨hP1, -, hD1⟩ := hB
          rw [ht] at hP1
          obtain ⟨hP, hD⟩ := va_join (wr := []) (w1 := [(h0, .inr (4, [.ref q_distinct, .ref q_ranks, .ref q_weights, .ref q_isFirst])), (q_distinct, .inl (cI, 6, .inl o_1995.1)), (q_ranks, .inl (cI, 96, .inl o_1995.2.1)), (q_weights, .inl (cJ, 16, .inr (.inl o_1995.2.2.1))), (q_isFirst, .inl (cZ, 16, .inl o_1995.2.2.2)), (q_p1, .inr (6, [.ref q_p1_kinds, .ref q_p1_tags, .ref q_p1_cells, .int v_p1_columns, .int v_p1_rows])), (q_p1_kinds, .inl (cI, 6, .inl v_p1_kinds)), (q_p1_cells, .inl (cJ, 96, .inr (.inl v_p1_cells)))]) hP hD [0, 1, 2, 3, 4, 5, 6, 7] [] rfl rfl (by decide) (by decide) hk1 hFc hP1 hD1
          replace hP := hP.sub (ws' := [(h0, .inr (4, [.ref q_distinct, .ref q_ranks, .ref q_weights, .ref q_isFirst])), (q_distinct, .inl (cI, 6, .inl o_1995.1)), (q_ranks, .inl (cI, 96, .inl o_1995.2.1)), (q_weights, .inl (cJ, 16, .inr (.inl o_1995.2.2.1))), (q_isFirst, .inl (cZ, 16, .inl o_1995.2.2.2)), (q_p1, .inr (6, [.ref q_p1_kinds, .ref q_p1_tags, .ref q_p1_cells, .int v_p1_columns, .int v_p1_rows])), (q_p1_kinds, .inl (cI, 6, .inl v_p1_kinds)), (q_p1_cells, .inl (cJ, 96, .inr (.inl v_p1_cells)))]) [0, 1, 2, 3, 4, 5, 6, 7] rfl
          replace hD := hD.sub (ws' := [(h0, .inr (4, [.ref q_distinct, .ref q_ranks, .ref q_weights, .ref q_isFirst])), (q_distinct, .inl (cI, 6, .inl o_1995.1)), (q_ranks, .inl (cI, 96, .inl o_1995.2.1)), (q_weights, .inl (cJ, 16, .inr (.inl o_1995.2.2.1))), (q_isFirst, .inl (cZ, 16, .inl o_1995.2.2.2)), (q_p1, .inr (6, [.ref q_p1_kinds, .ref q_p1_tags, .ref q_p1_cells, .int v_p1_columns, .int v_p1_rows])), (q_p1_kinds, .inl (cI, 6, .inl v_p1_kinds)), (q_p1_cells, .inl (cJ, 96, .inr (.inl v_p1_cells)))]) [0, 1, 2, 3, 4, 5, 6, 7] (by decide) rfl
          refine lv_iinc (v := (x2_2 + 1)) (lv' := [(2, .int (x2_2 + 1)), (0, .ref h0), (1, .ref q_p1)]) hx hb dX6_readAll_24 hl (k := 2) rfl (by rfl) (by decide) rfl (fun ls hl => ?_)
          refine lv_goto (tgt := 2) hx hb dX6_readAll_27 (by decide) ?_
          exact ih (x2_2 + 1) o_1995.1 o_1995.2.1 o_1995.2.2.1 o_1995.2.2.2 w H _ ls h hP hD hS (lv_sub hl [1, 2, 0] rfl) K
  obtain ⟨w_1997, hw_1997, h⟩ := ob h
  refine LP_1997 fu (0 : Int32) v_distinct v_ranks v_weights v_isFirst w_1997 s.heap _ ls hw_1997 hP hD hS (lv_sub hl [1, 2, 0] rfl) (fun H locs ls hP hD hS hl => ?_)
  rw [hQQ]
  have ho := Option.some.inj h
  subst ho
  exact W.vret hx hb hr (fun t ht hW => ⟨⟨(), rfl, trivial, by rw [ht]; exact hP, va_K.moved hW.alike hK, hD⟩, hS.F ht⟩) hS.2.2 dX6_readAll_30
