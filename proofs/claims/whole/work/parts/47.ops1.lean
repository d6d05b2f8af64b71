/-! the first calls: undo, keep, again, length, kind, tagged, end -/
theorem gdJ {α : Type} {j N : Nat} {e : Option α} (h : j < N) (hN : j < 2 ^ 31) : (if nI j < 0 ∨ N ≤ j then none else e) = e := if_neg (fun q => q.elim (nI_pos hN) (fun z => by omega))
section
variable {next size undoMany cols rows : Int32} {sk st : Nat → Nat → Int32} {sc : Nat → Nat → Int64} {scol srow kinds tags : Nat → Int32} {undos cells now was : Nat → Int64}
theorem m_undoL {n : Nat} (hn : n < 8) (undos now : Nat → Int64) : ∃ w, (∀ j, j < 120 → w j = undos (120 * n + j)) ∧ L_X10_undo_26 (nI (n + 1)) undos fu 0 now = some w := by
  have e1 : nI (n + 1) - (1 : Int32) = nI n := nI_pred n
  exact up_ex (L_X10_undo_26 (nI (n + 1)) undos) (C := 120) (fun i s => ∀ j, j < i → s j = undos (120 * n + j)) (fun w => ∀ j, j < 120 → w j = undos (120 * n + j))
    (fun m i s hi hI => ⟨vp_updL s i (undos (120 * n + i)), fun j hj => by
        by_cases h : j = i
        · rw [h, updL_at]
        · rw [updL_ne _ _ h]; exact hI j (by omega), by
        rw [L_X10_undo_26, e1, li120, if_neg (nI_ge hi (by omega)), pk_mul, nI_add, gdI (by omega) (by omega), gdI hi (by omega), nI_clamp (show i < 2 ^ 31 by omega), nI_clamp (show 120 * n + i < 2 ^ 31 by omega), nI_1]⟩)
    (fun m s hI => ⟨s, hI, by rw [L_X10_undo_26, li120, if_pos (nI_le (Nat.le_refl _) (by omega))]⟩) 120 fu 0 now (by omega) (fu_lt (by omega)) (fun j hj => by omega)
theorem op_undo (hT : TT cols rows kinds tags cells now) (hU : UX next size sk st sc scol srow undoMany undos) : ∃ oc om, f_X9_undo cols rows kinds tags cells next size sk st sc scol srow = some oc ∧ f_X10_undo undoMany now undos = some om ∧ oc.1 = om.1 ∧
    TT oc.2.1 oc.2.2.1 oc.2.2.2.1 oc.2.2.2.2.1 oc.2.2.2.2.2.1 om.2.2.2 ∧ UX oc.2.2.2.2.2.2.1 oc.2.2.2.2.2.2.2 sk st sc scol srow om.2.2.1 undos := by
  obtain ⟨nx, sz, h9, h8, rfl, rfl, rfl, hk⟩ := hU
  by_cases h0 : sz = 0
  · subst h0
    refine ⟨(-1, cols, rows, kinds, tags, cells, nI nx, nI 0), (-1, 0, nI 0, now), ?_, ?_, rfl, hT, ⟨nx, 0, h9, by omega, rfl, rfl, rfl, hk⟩⟩
    · unfold f_X9_undo f_X5_goBack
      rw [if_pos nI_0']
      rfl
    · unfold f_X10_undo
      rw [if_pos nI_0']
  · obtain ⟨z, rfl⟩ : ∃ z, sz = z + 1 := ⟨sz - 1, by omega⟩
    obtain ⟨w, hw1, hw2⟩ := m_undoL (n := z) (by omega) undos now
    have eN : ((nI nx + (9 : Int32)) - (1 : Int32)) - ((nI nx + (9 : Int32)) - (1 : Int32)) / (9 : Int32) * (9 : Int32) = nI ((nx + 8) % 9) := by
      rw [li9, nI_add, li1, pk_sub (show 1 ≤ nx + 9 by omega), show nx + 9 - 1 = nx + 8 by omega, pk_rem (by omega) (by omega) (by omega)]
    have e1 : nI (z + 1) - (1 : Int32) = nI z := nI_pred z
    have hlast := hk z (by omega)
    rw [show (nx + 9 - (z + 1) + z) % 9 = (nx + 8) % 9 by omega] at hlast
    refine ⟨(nI z, scol ((nx + 8) % 9), srow ((nx + 8) % 9), va_cpy (sk ((nx + 8) % 9)) kinds 0 0 6, va_cpy (st ((nx + 8) % 9)) tags 0 0 16, va_cpy (sc ((nx + 8) % 9)) cells 0 0 96, nI ((nx + 8) % 9), nI z), (nI z, 0, nI z, w), ?_, ?_, rfl, (hlast.congM hw1).cpy _ _ _, ⟨(nx + 8) % 9, z, by omega, by omega, rfl, rfl, rfl, fun k hk' => ?_⟩⟩
    · unfold f_X9_undo f_X5_goBack
      rw [if_neg (nI_ne0 (by omega) (by omega)), eN, gdI (by omega) (by omega), nI_clamp (by omega), c_become, e1]
      rfl
    · unfold f_X10_undo
      rw [if_neg (nI_ne0 (by omega) (by omega)), hw2, e1]
      rfl
    · have := hk k (by omega)
      rw [show (nx + 9 - (z + 1) + k) % 9 = ((nx + 8) % 9 + 9 - z + k) % 9 by omega] at this
      exact this
end
/-- what is kept is alike on both sides -/
def KX (kk kt : Nat → Nat → Int32) (kc : Nat → Nat → Int64) (kcol krow isK : Nat → Int32) (kept : Nat → Int64) (isKm : Nat → Int32) : Prop :=
  ∀ i, i < 2 → isK i = isKm i ∧ (isK i ≠ 0 → TT (kcol i) (krow i) (kk i) (kt i) (kc i) (fun j => kept (120 * i + j)))
section
variable {next size undoMany cols rows : Int32} {kk kt : Nat → Nat → Int32} {kc : Nat → Nat → Int64} {kcol krow isK isKm kinds tags : Nat → Int32} {kept cells now : Nat → Int64}
theorem upd_at (f : Nat → Int32) (k : Nat) (x : Int32) : upd f k x k = x := pk_us
theorem upd_ne (f : Nat → Int32) {k j : Nat} (x : Int32) (h : j ≠ k) : upd f k x j = f j := pk_un h
theorem m_keepL {i : Nat} (hi2 : i < 2) (now kept : Nat → Int64) : ∃ w, ((∀ j, j < 120 → w (120 * i + j) = now j) ∧ ∀ j, (j < 120 * i ∨ 120 * i + 120 ≤ j) → w j = kept j) ∧ L_X10_keep_25 now (nI i) fu 0 kept = some w :=
  up_ex (L_X10_keep_25 now (nI i)) (C := 120) (fun k s => (∀ j, j < k → s (120 * i + j) = now j) ∧ ∀ j, (j < 120 * i ∨ 120 * i + 120 ≤ j) → s j = kept j) (fun w => (∀ j, j < 120 → w (120 * i + j) = now j) ∧ ∀ j, (j < 120 * i ∨ 120 * i + 120 ≤ j) → w j = kept j)
    (fun m k s hk hI => ⟨vp_updL s (120 * i + k) (now k), ⟨fun j hj => by
        by_cases h : j = k
        · rw [h, updL_at]
        · rw [updL_ne _ _ (by omega)]; exact hI.1 j (by omega), fun j hj => by rw [updL_ne _ _ (by omega)]; exact hI.2 j hj⟩, by
        rw [L_X10_keep_25, li120, if_neg (nI_ge hk (by omega)), gdI hk (by omega), pk_mul, nI_add, gdI (by omega) (by omega), nI_clamp (show k < 2 ^ 31 by omega), nI_clamp (show 120 * i + k < 2 ^ 31 by omega), nI_1]⟩)
    (fun m s hI => ⟨s, hI, by rw [L_X10_keep_25, li120, if_pos (nI_le (Nat.le_refl _) (by omega))]⟩) 120 fu 0 kept (by omega) (fu_lt (by omega)) ⟨fun j hj => by omega, fun j hj => rfl⟩
theorem m_againL {i : Nat} (hi2 : i < 2) (now kept : Nat → Int64) : ∃ w, (∀ j, j < 120 → w j = kept (120 * i + j)) ∧ L_X10_again_27 kept (nI i) fu 0 now = some w :=
  up_ex (L_X10_again_27 kept (nI i)) (C := 120) (fun k s => ∀ j, j < k → s j = kept (120 * i + j)) (fun w => ∀ j, j < 120 → w j = kept (120 * i + j))
    (fun m k s hk hI => ⟨vp_updL s k (kept (120 * i + k)), fun j hj => by
        by_cases h : j = k
        · rw [h, updL_at]
        · rw [updL_ne _ _ (by omega)]; exact hI j (by omega), by
        rw [L_X10_again_27, li120, if_neg (nI_ge hk (by omega)), pk_mul, nI_add, gdI (by omega) (by omega), gdI hk (by omega), nI_clamp (show k < 2 ^ 31 by omega), nI_clamp (show 120 * i + k < 2 ^ 31 by omega), nI_1]⟩)
    (fun m s hI => ⟨s, hI, by rw [L_X10_again_27, li120, if_pos (nI_le (Nat.le_refl _) (by omega))]⟩) 120 fu 0 now (by omega) (fu_lt (by omega)) (fun j hj => by omega)
theorem in01 (x : Int32) : f_X10_in x 0 1 = some (ixd x 2) := by
  rw [f_in]
  unfold ixd
  have e : ((1 : Int32) < x) ↔ nI 2 ≤ x := by
    have := predlt (n := 2) (by decide) x
    rwa [show nI 2 - 1 = (1 : Int32) by decide] at this
  simp only [e]
theorem ixd2_c {α : Type} (x : Int32) {a b : α} (h : ixd x 2 = false) : (if x < 0 then a else if x < 2 then b else a) = a := by
  unfold ixd at h
  by_cases h1 : x < 0
  · rw [if_pos h1]
  · rw [if_neg h1]
    by_cases h2 : x < 2
    · have : ¬ nI 2 ≤ x := by
        rw [Int32.le_iff_toInt_le, Int32.lt_iff_toInt_lt] at *
        have e2 : (2 : Int32).toInt = 2 := by decide
        have e3 : (nI 2).toInt = 2 := by decide
        omega
      simp [h1, this] at h
    · rw [if_neg h2]
theorem op_keep (hT : TT cols rows kinds tags cells now) (hK : KX kk kt kc kcol krow isK kept isKm) (x : Int32) : ∃ oc om, f_X9_keep cols rows kinds tags cells kk kt kc kcol krow isK x = some oc ∧ f_X10_keep now kept isKm x = some om ∧ oc.1 = om.1 ∧
    KX oc.2.1 oc.2.2.1 oc.2.2.2.1 oc.2.2.2.2.1 oc.2.2.2.2.2.1 oc.2.2.2.2.2.2 om.2.2.1 om.2.2.2 := by
  by_cases hx : ixd x 2 = true
  · obtain ⟨i, hi, rfl⟩ := ixd_of (by omega) hx
    obtain ⟨w, ⟨hw1, hw2⟩, hw3⟩ := m_keepL hi now kept
    refine ⟨(true, va_up kk i (va_cpy kinds (kk i) 0 0 6), va_up kt i (va_cpy tags (kt i) 0 0 16), va_up kc i (va_cpy cells (kc i) 0 0 96), va_up kcol i cols, va_up krow i rows, upd isK i (vp_nar .boolean 1)), (true, 0, w, upd isKm i (vp_nar .boolean 1)), ?_, ?_, rfl, fun k hk => ?_⟩
    · unfold f_X9_keep
      rw [li2, if_neg (nI_pos (by omega)), if_pos (nI_lt hi (by omega)), gdI hi (by omega), nI_clamp (by omega), c_become]
      simp only [Option.bind_some]
      rw [gdJ hi (by omega)]
    · unfold f_X10_keep
      rw [in01, hx]
      simp only [Option.bind_some, ifbt]
      rw [gdI hi (by omega), nI_clamp (by omega), hw3]
      rfl
    · by_cases h : k = i
      · subst h
        simp only [va_up, if_true, upd_at]
        refine ⟨trivial, fun _ => ?_⟩
        exact (hT.congM hw1).cpy _ _ _
      · simp only [va_up, if_neg h, upd_ne _ _ h]
        obtain ⟨q1, q2⟩ := hK k hk
        exact ⟨q1, fun hz => (q2 hz).congM (fun j hj => hw2 _ (by omega))⟩
  · have hx' : ixd x 2 = false := by simpa using hx
    refine ⟨(false, kk, kt, kc, kcol, krow, isK), (false, 0, kept, isKm), ?_, ?_, rfl, hK⟩
    · unfold f_X9_keep
      exact ixd2_c x hx'
    · unfold f_X10_keep
      rw [in01, hx']
      rfl
theorem ixd2_d {α : Type} (x : Int32) {a b : α} (h : ixd x 2 = false) : (if x < 0 then a else if 2 ≤ x then a else b) = a := by
  unfold ixd at h
  by_cases h1 : x < 0
  · rw [if_pos h1]
  · rw [if_neg h1]
    by_cases h2 : 2 ≤ x
    · rw [if_pos h2]
    · have : ¬ nI 2 ≤ x := by rw [← li2]; exact h2
      simp [h1, this] at h
theorem op_again {sk st : Nat → Nat → Int32} {sc : Nat → Nat → Int64} {scol srow : Nat → Int32} {undos : Nat → Int64} (hT : TT cols rows kinds tags cells now) (hU : UX next size sk st sc scol srow undoMany undos) (hK : KX kk kt kc kcol krow isK kept isKm) (x : Int32) : ∃ oc om, f_X9_again cols rows kinds tags cells size kk kt kc kcol krow isK x = some oc ∧ f_X10_again undoMany now kept isKm x = some om ∧ oc.1 = om.1 ∧
    TT oc.2.1 oc.2.2.1 oc.2.2.2.1 oc.2.2.2.2.1 oc.2.2.2.2.2.1 om.2.2.2 ∧ UX next oc.2.2.2.2.2.2 sk st sc scol srow om.2.2.1 undos := by
  by_cases hx : ixd x 2 = true
  · obtain ⟨i, hi, rfl⟩ := ixd_of (by omega) hx
    obtain ⟨q1, q2⟩ := hK i hi
    by_cases hz : isK i = 0
    · refine ⟨(false, cols, rows, kinds, tags, cells, size), (false, 0, undoMany, now), ?_, ?_, rfl, hT, hU⟩
      · unfold f_X9_again
        rw [li2, if_neg (nI_pos (by omega)), if_neg (nI_ge hi (by omega)), gdI hi (by omega), nI_clamp (by omega), if_pos hz]
      · unfold f_X10_again
        rw [in01, hx]
        simp only [Option.bind_some, ifbt]
        rw [gdI hi (by omega), nI_clamp (by omega), if_pos (q1 ▸ hz)]
    · obtain ⟨w, hw1, hw2⟩ := m_againL hi now kept
      refine ⟨(true, kcol i, krow i, va_cpy (kk i) kinds 0 0 6, va_cpy (kt i) tags 0 0 16, va_cpy (kc i) cells 0 0 96, 0), (true, 0, 0, w), ?_, ?_, rfl, ((q2 hz).congM hw1).cpy _ _ _, ?_⟩
      · unfold f_X9_again
        rw [li2, if_neg (nI_pos (by omega)), if_neg (nI_ge hi (by omega)), gdI hi (by omega), nI_clamp (by omega), if_neg hz, gdJ hi (by omega), c_become]
        rfl
      · unfold f_X10_again
        rw [in01, hx]
        simp only [Option.bind_some, ifbt]
        rw [gdI hi (by omega), nI_clamp (by omega), if_neg (q1 ▸ hz), hw2]
        rfl
      · obtain ⟨nx, sz, h9, h8, e1, e2, e3, hk⟩ := hU
        exact ⟨nx, 0, h9, by omega, e1, rfl, rfl, fun k hk' => by omega⟩
  · have hx' : ixd x 2 = false := by simpa using hx
    refine ⟨(false, cols, rows, kinds, tags, cells, size), (false, 0, undoMany, now), ?_, ?_, rfl, hT, hU⟩
    · unfold f_X9_again
      exact ixd2_d x hx'
    · unfold f_X10_again
      rw [in01, hx']
      rfl
theorem op_length (hT : TT cols rows kinds tags cells now) (x : Int32) : ∃ r, f_X9_length cols rows kinds x = some r ∧ f_X10_length now x = some (r, 0) := by
  obtain ⟨R, C, kd, cl, tg, hV, hC, hM⟩ := hT
  have h6 := hV.2.1
  unfold f_X9_length f_X10_length
  rw [hC.1, c_hasCol hV, m_isCol hV hM]
  try rw [← hC.1]
  rw [hC.2.1]
  by_cases hx : ixd x C = true
  · obtain ⟨c, hc, rfl⟩ := ixd_of (by omega) hx
    rw [hx, c_whyUnasked hV hC hc, m_whyNoRow hV hM hc, m_rows hM]
    simp only [Option.bind_some, ifbt]
    have : why0 (kd c) ≤ 3 := by unfold why0; split <;> (try split) <;> omega
    by_cases h0 : why0 (kd c) = 0
    · rw [h0, if_pos nI_0', if_pos (by decide)]
      exact ⟨_, rfl, rfl⟩
    · rw [if_neg (nI_ne0 (by omega) (by omega)), if_neg (nI_nle (by omega) (by omega))]
      exact ⟨_, rfl, rfl⟩
  · have hx' : ixd x C = false := by simpa using hx
    rw [hx']
    exact ⟨-1, rfl, rfl⟩
theorem op_kind (hT : TT cols rows kinds tags cells now) (x : Int32) : ∃ r, f_X9_kind cols kinds x = some r ∧ f_X10_kind now x = some (r, 0) := by
  obtain ⟨R, C, kd, cl, tg, hV, hC, hM⟩ := hT
  have h6 := hV.2.1
  unfold f_X9_kind f_X10_kind
  rw [hC.1, c_hasCol hV, m_isCol hV hM]
  by_cases hx : ixd x C = true
  · obtain ⟨c, hc, rfl⟩ := ixd_of (by omega) hx
    rw [hx, m_kind hV hM hc]
    simp only [Option.bind_some, ifbt]
    rw [gdI (by omega) (by omega), nI_clamp (by omega), hC.2.2.1 c hc]
    exact ⟨_, rfl, rfl⟩
  · have hx' : ixd x C = false := by simpa using hx
    rw [hx']
    exact ⟨-1, rfl, rfl⟩
end
