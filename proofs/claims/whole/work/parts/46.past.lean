/-! tables copied; what can be undone; what is kept -/
theorem li840 : (840 : Int32) = nI 840 := by decide
theorem updL_at (f : Nat → Int64) (k : Nat) (x : Int64) : vp_updL f k x k = x := by unfold vp_updL; rw [if_pos rfl]
theorem updL_ne (f : Nat → Int64) {k j : Nat} (x : Int64) (h : j ≠ k) : vp_updL f k x j = f j := by unfold vp_updL; rw [if_neg h]
theorem m_lay (now was : Nat → Int64) : ∃ w, (∀ j, j < 120 → w j = now j) ∧ f_X10_lay now was = some w := by
  obtain ⟨w, h1, h2⟩ := up_ex (L_X10_lay_2 now) (C := 120) (fun i s => ∀ j, j < i → s j = now j) (fun w => ∀ j, j < 120 → w j = now j)
    (fun n i s hi hI => ⟨vp_updL s i (now i), fun j hj => by
        by_cases h : j = i
        · rw [h, updL_at]
        · rw [updL_ne _ _ h]; exact hI j (by omega), by
        rw [L_X10_lay_2, li120, if_neg (nI_ge hi (by omega)), gdI hi (by omega), gdI hi (by omega), nI_clamp (by omega), nI_1]⟩)
    (fun n s hI => ⟨s, hI, by rw [L_X10_lay_2, li120, if_pos (nI_le (Nat.le_refl _) (by omega))]⟩) 120 fu 0 was (by omega) (fu_lt (by omega)) (fun j hj => by omega)
  refine ⟨w, h1, ?_⟩
  unfold f_X10_lay
  rw [li0, h2]
  rfl
/-- a new one on the pile of eight -/
theorem m_note {n : Nat} (hn : n ≤ 8) (undos was : Nat → Int64) : ∃ u : Nat → Int64, f_X10_note (nI n) undos was = some (nI (min (n + 1) 8), u) ∧
    (n < 8 → (∀ j, j < 120 * n → u j = undos j) ∧ ∀ j, j < 120 → u (120 * n + j) = was j) ∧ (n = 8 → (∀ j, j < 840 → u j = undos (j + 120)) ∧ ∀ j, j < 120 → u (840 + j) = was j) := by
  have copy : ∀ (m : Nat) (v0 : Nat → Int64), m < 8 → ∃ u : Nat → Int64, ((∀ j, j < 120 * m → u j = v0 j) ∧ ∀ j, j < 120 → u (120 * m + j) = was j) ∧ L_X10_note_51 was (nI m, v0) fu 0 v0 = some u := by
    intro m v0 hm
    have := up_ex (L_X10_note_51 was (nI m, v0)) (C := 120) (fun i s => (∀ j, j < 120 * m → s j = v0 j) ∧ ∀ j, j < i → s (120 * m + j) = was j) (fun u => (∀ j, j < 120 * m → u j = v0 j) ∧ ∀ j, j < 120 → u (120 * m + j) = was j)
      (fun n i s hi hI => ⟨vp_updL s (120 * m + i) (was i), ⟨fun j hj => by rw [updL_ne _ _ (by omega)]; exact hI.1 j hj, fun j hj => by
          by_cases h : j = i
          · rw [h, updL_at]
          · rw [updL_ne _ _ (by omega)]; exact hI.2 j (by omega)⟩, by
          rw [L_X10_note_51, li120, if_neg (nI_ge hi (by omega)), gdI hi (by omega)]
          show (if nI 120 * nI m + nI i < 0 ∨ 960 ≤ (nI 120 * nI m + nI i).toNatClampNeg then none else _) = _
          rw [pk_mul, nI_add, gdI (by omega) (by omega), nI_clamp (show i < 2 ^ 31 by omega), nI_1]
          rw [nI_clamp (by omega)]⟩)
      (fun n s hI => ⟨s, hI, by rw [L_X10_note_51, li120, if_pos (nI_le (Nat.le_refl _) (by omega))]⟩) 120 fu 0 v0 (by omega) (fu_lt (by omega)) ⟨fun j hj => rfl, fun j hj => by omega⟩
    exact this
  by_cases h8 : n = 8
  · subst h8
    obtain ⟨v, hv1, hv2⟩ := up_ex (L_X10_note_11) (C := 840) (fun i s => (∀ j, j < i → s j = undos (j + 120)) ∧ ∀ j, i ≤ j → s j = undos j) (fun v => ∀ j, j < 840 → v j = undos (j + 120))
      (fun n i s hi hI => ⟨vp_updL s i (s (i + 120)), ⟨fun j hj => by
          by_cases h : j = i
          · rw [h, updL_at]; exact hI.2 _ (by omega)
          · rw [updL_ne _ _ h]; exact hI.1 j (by omega), fun j hj => by rw [updL_ne _ _ (by omega)]; exact hI.2 j (by omega)⟩, by
          rw [L_X10_note_11, li840, li120, if_neg (nI_ge hi (by omega)), nI_add, gdI (by omega) (by omega), gdI (by omega) (by omega), nI_clamp (show i < 2 ^ 31 by omega), nI_clamp (show i + 120 < 2 ^ 31 by omega), nI_1]⟩)
      (fun n s hI => ⟨s, hI.1, by rw [L_X10_note_11, li840, if_pos (nI_le (Nat.le_refl _) (by omega))]⟩) 840 fu 0 undos (by omega) (fu_lt (by omega)) ⟨fun j hj => by omega, fun j hj => rfl⟩
    obtain ⟨u, ⟨hu1, hu2⟩, hu3⟩ := copy 7 v (by omega)
    refine ⟨u, ?_, fun h => by omega, fun _ => ⟨fun j hj => (hu1 j (by omega)).trans (hv1 j hj), hu2⟩⟩
    unfold f_X10_note
    rw [li8, if_pos rfl, li0, hv2]
    have e7 : nI 8 - 1 = nI 7 := by decide
    simp only [Option.bind_some, e7]
    rw [← li0, hu3]
    rfl
  · obtain ⟨u, ⟨hu1, hu2⟩, hu3⟩ := copy n undos (by omega)
    refine ⟨u, ?_, fun _ => ⟨hu1, hu2⟩, fun h => absurd h h8⟩
    unfold f_X10_note
    rw [li8, if_neg (fun e => h8 ((nI_eq (by omega) (by omega)).mp e))]
    simp only [Option.bind_some]
    rw [hu3, show min (n + 1) 8 = n + 1 by omega]
    simp only [Option.bind_some, nI_1]
/-- a table of the class and one of the reference hold the same -/
def TT (cols rows : Int32) (kinds tags : Nat → Int32) (cells now : Nat → Int64) : Prop := ∃ (R C : Nat) (kd : Nat → Nat) (cl : Nat → Nat → Int64) (tg : Nat → Nat), VT R C kd cl tg ∧ CT R C kd cl tg cols rows kinds tags cells ∧ MT R C kd cl tg now
theorem TT.congM {cols rows : Int32} {kinds tags : Nat → Int32} {cells now now' : Nat → Int64} (h : TT cols rows kinds tags cells now) (e : ∀ j, j < 120 → now' j = now j) : TT cols rows kinds tags cells now' := by
  obtain ⟨R, C, kd, cl, tg, hV, hC, hM⟩ := h
  have h16 := hV.1
  have h6 := hV.2.1
  exact ⟨R, C, kd, cl, tg, hV, hC, by rw [e 0 (by omega)]; exact hM.1, by rw [e 1 (by omega)]; exact hM.2.1, fun c hc => by rw [e _ (by omega)]; exact hM.2.2.1 c hc, fun r hr => by rw [e _ (by omega)]; exact hM.2.2.2.1 r hr, fun c r hc hr => by rw [e _ (by omega)]; exact hM.2.2.2.2 c r hc hr⟩
theorem cpy0 {α : Type} (f g : Nat → α) {n j : Nat} (h : j < n) : va_cpy f g 0 0 n j = f j := by
  unfold va_cpy
  rw [if_pos (by omega)]
  congr 1
  omega
theorem TT.cpy {cols rows : Int32} {kinds tags : Nat → Int32} {cells now : Nat → Int64} (h : TT cols rows kinds tags cells now) (k0 t0 : Nat → Int32) (c0 : Nat → Int64) : TT cols rows (va_cpy kinds k0 0 0 6) (va_cpy tags t0 0 0 16) (va_cpy cells c0 0 0 96) now := by
  obtain ⟨R, C, kd, cl, tg, hV, hC, hM⟩ := h
  have h16 := hV.1
  have h6 := hV.2.1
  exact ⟨R, C, kd, cl, tg, hV, ⟨hC.1, hC.2.1, fun c hc => by rw [cpy0 _ _ (by omega)]; exact hC.2.2.1 c hc, fun r hr => by rw [cpy0 _ _ (by omega)]; exact hC.2.2.2.1 r hr, fun c r hc hr => by rw [cpy0 _ _ (by omega)]; exact hC.2.2.2.2 c r hc hr⟩, hM⟩
theorem c_become (k t : Nat → Int32) (c : Nat → Int64) (cols rows : Int32) (kinds tags : Nat → Int32) (cells : Nat → Int64) : f_X8_become k t c cols rows kinds tags cells = some (cols, rows, va_cpy kinds k 0 0 6, va_cpy tags t 0 0 16, va_cpy cells c 0 0 96) := rfl
/-- what can be undone is alike on both sides -/
def UX (next size : Int32) (sk st : Nat → Nat → Int32) (sc : Nat → Nat → Int64) (scol srow : Nat → Int32) (undoMany : Int32) (undos : Nat → Int64) : Prop :=
  ∃ nx sz : Nat, nx < 9 ∧ sz ≤ 8 ∧ next = nI nx ∧ size = nI sz ∧ undoMany = nI sz ∧ ∀ k, k < sz → TT (scol ((nx + 9 - sz + k) % 9)) (srow ((nx + 9 - sz + k) % 9)) (sk ((nx + 9 - sz + k) % 9)) (st ((nx + 9 - sz + k) % 9)) (sc ((nx + 9 - sz + k) % 9)) (fun j => undos (120 * k + j))
section
variable {next size undoMany cols rows : Int32} {sk st : Nat → Nat → Int32} {sc : Nat → Nat → Int64} {scol srow kinds tags : Nat → Int32} {undos cells now was : Nat → Int64}
/-- note: written where nothing is held -/
theorem UX.note (h : UX next size sk st sc scol srow undoMany undos) (cols rows : Int32) (kinds tags : Nat → Int32) (cells : Nat → Int64) : ∃ (sk' st' : Nat → Nat → Int32) (sc' : Nat → Nat → Int64) (scol' srow' : Nat → Int32), f_X5_note next sk st sc scol srow cols rows kinds tags cells = some (sk', st', sc', scol', srow') ∧ UX next size sk' st' sc' scol' srow' undoMany undos ∧
    ∀ now, TT cols rows kinds tags cells now → TT (scol' next.toNatClampNeg) (srow' next.toNatClampNeg) (sk' next.toNatClampNeg) (st' next.toNatClampNeg) (sc' next.toNatClampNeg) now := by
  obtain ⟨nx, sz, h9, h8, rfl, rfl, rfl, hk⟩ := h
  refine ⟨va_up sk nx (va_cpy kinds (sk nx) 0 0 6), va_up st nx (va_cpy tags (st nx) 0 0 16), va_up sc nx (va_cpy cells (sc nx) 0 0 96), va_up scol nx cols, va_up srow nx rows, ?_, ⟨nx, sz, h9, h8, rfl, rfl, rfl, fun k hk' => ?_⟩, fun now hT => ?_⟩
  · unfold f_X5_note
    rw [gdI h9 (by omega), nI_clamp (by omega), c_become]
    rfl
  · have hne : (nx + 9 - sz + k) % 9 ≠ nx := by omega
    simp only [va_up, if_neg hne]
    exact hk k hk'
  · rw [nI_clamp (by omega)]
    simp only [va_up, if_true]
    exact hT.cpy _ _ _
/-- hold, and the reference's note -/
theorem UX.hold (h : UX next size sk st sc scol srow undoMany undos) (hT : TT (scol next.toNatClampNeg) (srow next.toNatClampNeg) (sk next.toNatClampNeg) (st next.toNatClampNeg) (sc next.toNatClampNeg) was) : ∃ (next' size' undoMany' : Int32) (undos' : Nat → Int64), f_X5_hold next size = some (next', size') ∧ f_X10_note undoMany undos was = some (undoMany', undos') ∧ UX next' size' sk st sc scol srow undoMany' undos' := by
  obtain ⟨nx, sz, h9, h8, rfl, rfl, rfl, hk⟩ := h
  rw [nI_clamp (by omega)] at hT
  obtain ⟨u, hu, hu1, hu2⟩ := m_note h8 undos was
  refine ⟨nI ((nx + 1) % 9), nI (min (sz + 1) 8), nI (min (sz + 1) 8), u, ?_, hu, ⟨(nx + 1) % 9, min (sz + 1) 8, by omega, by omega, rfl, rfl, rfl, fun k hk' => ?_⟩⟩
  · unfold f_X5_hold
    rw [li1, nI_add, nI_add, li9, pk_rem (by omega) (by omega) (by omega), li8]
    have : mmin (nI (sz + 1)) (nI 8) = nI (min (sz + 1) 8) := by
      unfold mmin
      by_cases h : 8 < sz + 1
      · rw [if_pos (nI_lt h (by omega))]; congr 1; omega
      · rw [if_neg (nI_nlt (by omega) (by omega))]; congr 1; omega
    rw [this]
  · by_cases hs : sz < 8
    · obtain ⟨q1, q2⟩ := hu1 hs
      by_cases hkz : k < sz
      · have e : ((nx + 1) % 9 + 9 - min (sz + 1) 8 + k) % 9 = (nx + 9 - sz + k) % 9 := by omega
        rw [e]
        exact (hk k hkz).congM (fun j hj => q1 _ (by omega))
      · have e : ((nx + 1) % 9 + 9 - min (sz + 1) 8 + k) % 9 = nx := by omega
        rw [e]
        refine hT.congM (fun j hj => ?_)
        have : k = sz := by omega
        subst this
        exact q2 j hj
    · obtain ⟨q1, q2⟩ := hu2 (by omega)
      have hsz : sz = 8 := by omega
      subst hsz
      by_cases hkz : k < 7
      · have e : ((nx + 1) % 9 + 9 - min (8 + 1) 8 + k) % 9 = (nx + 9 - 8 + (k + 1)) % 9 := by omega
        rw [e]
        refine (hk (k + 1) (by omega)).congM (fun j hj => ?_)
        show u (120 * k + j) = undos (120 * (k + 1) + j)
        rw [q1 _ (by omega), show 120 * (k + 1) + j = 120 * k + j + 120 by omega]
      · have e : ((nx + 1) % 9 + 9 - min (8 + 1) 8 + k) % 9 = nx := by omega
        rw [e]
        refine hT.congM (fun j hj => ?_)
        have : k = 7 := by omega
        subst this
        exact q2 j hj
end
