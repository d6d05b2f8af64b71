/-! sets of columns, counts of cells -/
def pb (p : Nat → Bool) : Nat → Int32
  | 0 => 0
  | c + 1 => if p c then pb p c ||| ((1 : Int32) <<< (nI c &&& 31)) else pb p c
theorem pb_succ (p : Nat → Bool) (c : Nat) : pb p (c + 1) = if p c then pb p c ||| ((1 : Int32) <<< (nI c &&& 31)) else pb p c := rfl
theorem pb_cong {p q : Nat → Bool} : ∀ {n : Nat}, (∀ c, c < n → p c = q c) → pb p n = pb q n
  | 0, _ => rfl
  | n + 1, h => by
    show (if p n then pb p n ||| _ else pb p n) = if q n then pb q n ||| _ else pb q n
    rw [h n (by omega), pb_cong (fun c hc => h c (by omega))]
def bl6 (b0 b1 b2 b3 b4 b5 : Bool) (c : Nat) : Bool := if c = 0 then b0 else if c = 1 then b1 else if c = 2 then b2 else if c = 3 then b3 else if c = 4 then b4 else if c = 5 then b5 else false
theorem bc6 : ∀ n, n < 7 → ∀ b0 b1 b2 b3 b4 b5 : Bool, f_J6_bitCount_0f7a4 (pb (bl6 b0 b1 b2 b3 b4 b5) n) = some (nI (fb_ct (bl6 b0 b1 b2 b3 b4 b5) n)) := by decide +kernel
theorem bl6_of (p : Nat → Bool) : ∀ c, c < 6 → p c = bl6 (p 0) (p 1) (p 2) (p 3) (p 4) (p 5) c := by
  intro c hc
  unfold bl6
  rcases (show c = 0 ∨ c = 1 ∨ c = 2 ∨ c = 3 ∨ c = 4 ∨ c = 5 by omega) with rfl | rfl | rfl | rfl | rfl | rfl <;> rfl
theorem bc_pb (p : Nat → Bool) {n : Nat} (hn : n ≤ 6) : f_J6_bitCount_0f7a4 (pb p n) = some (nI (fb_ct p n)) := by
  rw [pb_cong (q := bl6 (p 0) (p 1) (p 2) (p 3) (p 4) (p 5)) (fun c hc => bl6_of p c (by omega)), fb_ct_cong (q := bl6 (p 0) (p 1) (p 2) (p 3) (p 4) (p 5)) (fun c hc => bl6_of p c (by omega))]
  exact bc6 n (by omega) _ _ _ _ _ _
/-- a column is proper -/
def pr (kd : Nat → Nat) (c : Nat) : Bool := decide (kd c ≤ 10)
section
variable {R C : Nat} {kd : Nat → Nat} {cl : Nat → Nat → Int64} {tg : Nat → Nat} {now : Nat → Int64} {cols rows : Int32} {kinds tags : Nat → Int32} {cells : Nat → Int64}
theorem c_properSet (hV : VT R C kd cl tg) (hC : CT R C kd cl tg cols rows kinds tags cells) : f_X8_properSet cols kinds = some (pb (pr kd) C) := by
  have h6 := hV.2.1
  have := up_loop (fun n i s => L_X8_properSet_4 cols kinds n s i) (C := C) (pb (pr kd)) (res := pb (pr kd) C)
    (fun n i hi => by
      show L_X8_properSet_4 cols kinds (n + 1) _ _ = L_X8_properSet_4 cols kinds n (pb (pr kd) (i + 1)) _
      rw [L_X8_properSet_4, c_isProper hV hC hi, hC.1, if_neg (nI_ge hi (by omega))]
      simp only [Option.bind_some, ifb, nI_1]
      show (if pr kd i = true then _ else _) = _
      rw [pb_succ]
      by_cases h : pr kd i = true
      · rw [if_pos h, if_pos h]
      · rw [if_neg h, if_neg h])
    (fun n => by
      show L_X8_properSet_4 cols kinds (n + 1) _ _ = _
      rw [L_X8_properSet_4, hC.1, if_pos (nI_le (Nat.le_refl _) (by omega))])
    C fu 0 (by omega) (fu_lt (by omega))
  unfold f_X8_properSet
  have h0 : L_X8_properSet_4 cols kinds fu 0 0 = _ := this
  rw [h0]
  rfl
theorem m_properBits (hV : VT R C kd cl tg) (hM : MT R C kd cl tg now) : f_X10_properBits now = some (pb (pr kd) C) := by
  have h6 := hV.2.1
  have := up_loop (fun n i s => L_X10_properBits_4 now n s i) (C := C) (pb (pr kd)) (res := pb (pr kd) C)
    (fun n i hi => by
      show L_X10_properBits_4 now (n + 1) _ _ = L_X10_properBits_4 now n (pb (pr kd) (i + 1)) _
      rw [L_X10_properBits_4, m_cols hM, m_isProper hV hM hi]
      simp only [Option.bind_some]
      rw [if_neg (nI_ge hi (by omega))]
      simp only [ifb, nI_1, Int32.or_zero]
      show (if pr kd i = true then _ else _) = _
      rw [pb_succ]
      by_cases h : pr kd i = true
      · rw [if_pos h, if_pos h]
      · rw [if_neg h, if_neg h])
    (fun n => by
      show L_X10_properBits_4 now (n + 1) _ _ = _
      rw [L_X10_properBits_4, m_cols hM]
      simp only [Option.bind_some]
      rw [if_pos (nI_le (Nat.le_refl _) (by omega))])
    C fu 0 (by omega) (fu_lt (by omega))
  unfold f_X10_properBits
  have h0 : L_X10_properBits_4 now fu 0 0 = _ := this
  rw [h0]
  rfl
/-- in how many proper columns two rows are unlike -/
def unl (C : Nat) (kd : Nat → Nat) (cl : Nat → Nat → Int64) (r s : Nat) : Nat := fb_ct (fun c => pr kd c && decide (¬ cl c r = cl c s)) C
theorem c_unlikeCells (hV : VT R C kd cl tg) (hC : CT R C kd cl tg cols rows kinds tags cells) {r s : Nat} (hr : r < R) (hs : s < R) : f_X8_unlikeCells cols kinds cells (nI r) (nI s) = some (nI (unl C kd cl r s)) := by
  have h6 := hV.2.1
  have := up_loop (fun n i s' => L_X8_unlikeCells_5 cols kinds cells (nI r) (nI s) n s' i) (C := C) (fun i => nI (fb_ct (fun c => pr kd c && decide (¬ cl c r = cl c s)) i)) (res := nI (unl C kd cl r s))
    (fun n i hi => by
      show L_X8_unlikeCells_5 cols kinds cells (nI r) (nI s) (n + 1) _ _ = L_X8_unlikeCells_5 cols kinds cells (nI r) (nI s) n _ _
      rw [L_X8_unlikeCells_5, c_isProper hV hC hi, hC.1, if_neg (nI_ge hi (by omega))]
      simp only [Option.bind_some, c_isLike hV hC hi hr hs, ifb, nI_1, fb_ct_succ]
      show (if pr kd i = true then _ else _) = _
      by_cases h : pr kd i = true
      · rw [if_pos h]
        by_cases h2 : cl i r = cl i s
        · simp [h, h2]
        · simp [h, h2]
      · rw [if_neg h]
        simp [h])
    (fun n => by
      show L_X8_unlikeCells_5 cols kinds cells (nI r) (nI s) (n + 1) _ _ = _
      rw [L_X8_unlikeCells_5, hC.1, if_pos (nI_le (Nat.le_refl _) (by omega))]
      rfl)
    C fu 0 (by omega) (fu_lt (by omega))
  unfold f_X8_unlikeCells
  have h0 : L_X8_unlikeCells_5 cols kinds cells (nI r) (nI s) fu 0 0 = _ := this
  rw [h0]
  rfl
/-- cells that are nothing -/
def nthIn (R : Nat) (cl : Nat → Nat → Int64) (c : Nat) : Nat := fb_ct (fun r => decide (cl c r = nothing)) R
def nth (R C : Nat) (kd : Nat → Nat) (cl : Nat → Nat → Int64) : Nat := fb_sm (fun c => if 8 ≤ kd c ∧ kd c ≤ 10 then nthIn R cl c else 0) C
theorem c_nothingIn (hV : VT R C kd cl tg) (hC : CT R C kd cl tg cols rows kinds tags cells) {c : Nat} (hc : c < C) : f_X8_nothingIn rows cells (nI c) = some (nI (nthIn R cl c)) := by
  have h16 := hV.1
  have := up_loop (fun n i s' => L_X8_nothingIn_4 rows cells (nI c) n s' i) (C := R) (fun i => nI (fb_ct (fun r => decide (cl c r = nothing)) i)) (res := nI (nthIn R cl c))
    (fun n i hi => by
      show L_X8_nothingIn_4 rows cells (nI c) (n + 1) _ _ = L_X8_nothingIn_4 rows cells (nI c) n _ _
      rw [L_X8_nothingIn_4, hC.2.1, if_neg (nI_ge hi (by omega)), c_cell hV hC hc hi]
      simp only [Option.bind_some, lg_cmp_eq, nI_1, fb_ct_succ]
      show (if cl c i = nothing then _ else _) = _
      by_cases h : cl c i = nothing
      · rw [if_pos h]; simp [h]
      · rw [if_neg h]; simp [h])
    (fun n => by
      show L_X8_nothingIn_4 rows cells (nI c) (n + 1) _ _ = _
      rw [L_X8_nothingIn_4, hC.2.1, if_pos (nI_le (Nat.le_refl _) (by omega))]
      rfl)
    R fu 0 (by omega) (fu_lt (by omega))
  unfold f_X8_nothingIn
  have h0 : L_X8_nothingIn_4 rows cells (nI c) fu 0 0 = _ := this
  rw [h0]
  rfl
theorem mbn_dec : ∀ k, k < 14 → f_X3_mayBeNothing (nI k) = some (decide (8 ≤ k ∧ k ≤ 10)) := by decide +kernel
theorem in810_dec : ∀ k, k < 14 → f_X10_in (nI k) 8 10 = some (decide (8 ≤ k ∧ k ≤ 10)) := by decide +kernel
theorem c_cellsOfNothing (hV : VT R C kd cl tg) (hC : CT R C kd cl tg cols rows kinds tags cells) : f_X8_cellsOfNothing cols rows kinds cells = some (nI (nth R C kd cl)) := by
  have h6 := hV.2.1
  have := up_loop (fun n i s' => L_X8_cellsOfNothing_4 cols rows kinds cells n s' i) (C := C) (fun i => nI (fb_sm (fun c => if 8 ≤ kd c ∧ kd c ≤ 10 then nthIn R cl c else 0) i)) (res := nI (nth R C kd cl))
    (fun n i hi => by
      show L_X8_cellsOfNothing_4 cols rows kinds cells (n + 1) _ _ = L_X8_cellsOfNothing_4 cols rows kinds cells n _ _
      have h13 := hV.2.2.1 i hi
      rw [L_X8_cellsOfNothing_4, hC.1, if_neg (nI_ge hi (by omega)), gdI (by omega) (by omega), nI_clamp (by omega), hC.2.2.1 i hi, mbn_dec _ (by omega)]
      simp only [Option.bind_some, ifbd, nI_1, fb_sm_succ]
      by_cases h : 8 ≤ kd i ∧ kd i ≤ 10
      · rw [if_pos h, if_pos h, ← hC.1, c_nothingIn hV hC hi]
        simp only [Option.bind_some, nI_add]
      · rw [if_neg h, if_neg h, ← hC.1]; rfl)
    (fun n => by
      show L_X8_cellsOfNothing_4 cols rows kinds cells (n + 1) _ _ = _
      rw [L_X8_cellsOfNothing_4, hC.1, if_pos (nI_le (Nat.le_refl _) (by omega))]
      rfl)
    C fu 0 (by omega) (fu_lt (by omega))
  unfold f_X8_cellsOfNothing
  have h0 : L_X8_cellsOfNothing_4 cols rows kinds cells fu 0 0 = _ := this
  rw [h0]
  rfl
theorem m_nothings14 (hV : VT R C kd cl tg) (hM : MT R C kd cl tg now) {c : Nat} (hc : c < C) (a : Nat) : L_X10_nothings_14 now (nI c) fu (nI a) 0 = some (nI (a + if 8 ≤ kd c ∧ kd c ≤ 10 then nthIn R cl c else 0)) := by
  have h16 := hV.1
  have h13 := hV.2.2.1 c hc
  by_cases h : 8 ≤ kd c ∧ kd c ≤ 10
  · rw [if_pos h]
    have := up_loop (fun n i s' => L_X10_nothings_14 now (nI c) n s' i) (C := R) (fun i => nI (a + fb_ct (fun r => decide (cl c r = nothing)) i)) (res := nI (a + nthIn R cl c))
      (fun n i hi => by
        show L_X10_nothings_14 now (nI c) (n + 1) _ _ = L_X10_nothings_14 now (nI c) n _ _
        rw [L_X10_nothings_14, m_rows hM, m_kind hV hM hc]
        simp only [Option.bind_some]
        rw [if_neg (nI_ge hi (by omega)), in810_dec _ (by omega)]
        simp only [Option.bind_some, ifbd]
        rw [if_pos h, m_cell hV hM hc hi]
        simp only [Option.bind_some, lg_cmp_eq, nI_1, fb_ct_succ]
        show (if cl c i = nothing then _ else _) = _
        by_cases h : cl c i = nothing
        · rw [if_pos h]; simp only [h, decide_true, if_true, Nat.add_assoc]
        · rw [if_neg h]; simp [h])
      (fun n => by
        show L_X10_nothings_14 now (nI c) (n + 1) _ _ = _
        rw [L_X10_nothings_14, m_rows hM]
        simp only [Option.bind_some]
        rw [if_pos (nI_le (Nat.le_refl _) (by omega))]
        rfl)
      R fu 0 (by omega) (fu_lt (by omega))
    exact this
  · rw [if_neg h]
    show L_X10_nothings_14 now (nI c) (4095 + 1) (nI a) 0 = _
    rw [L_X10_nothings_14, m_rows hM, m_kind hV hM hc]
    simp only [Option.bind_some]
    by_cases hR : nI R ≤ 0
    · rw [if_pos hR]; rfl
    · rw [if_neg hR, in810_dec _ (by omega)]
      simp only [Option.bind_some, ifbd]
      rw [if_neg h]
      rfl
theorem m_nothings (hV : VT R C kd cl tg) (hM : MT R C kd cl tg now) : f_X10_nothings now = some (nI (nth R C kd cl)) := by
  have h6 := hV.2.1
  have := up_loop (fun n i s' => L_X10_nothings_4 now n s' i) (C := C) (fun i => nI (fb_sm (fun c => if 8 ≤ kd c ∧ kd c ≤ 10 then nthIn R cl c else 0) i)) (res := nI (nth R C kd cl))
    (fun n i hi => by
      show L_X10_nothings_4 now (n + 1) _ _ = L_X10_nothings_4 now n _ _
      rw [L_X10_nothings_4, m_cols hM]
      simp only [Option.bind_some]
      rw [if_neg (nI_ge hi (by omega)), m_nothings14 hV hM hi]
      simp only [Option.bind_some, nI_1, fb_sm_succ])
    (fun n => by
      show L_X10_nothings_4 now (n + 1) _ _ = _
      rw [L_X10_nothings_4, m_cols hM]
      simp only [Option.bind_some]
      rw [if_pos (nI_le (Nat.le_refl _) (by omega))]
      rfl)
    C fu 0 (by omega) (fu_lt (by omega))
  unfold f_X10_nothings
  have h0 : L_X10_nothings_4 now fu 0 0 = _ := this
  rw [h0]
  rfl
/-- where a tag lies -/
theorem tag_at (hV : VT R C kd cl tg) {t : Nat} (ht : t < R) : ∃ r, r < R ∧ tg r = t ∧ ∀ s, s < r → tg s ≠ t := by
  obtain ⟨r, hr, e⟩ := fb_onto (n := R) (f := tg) hV.2.2.2.2.1 (fun i j hij hj e => by have := hV.2.2.2.2.2 i j (by omega) hj e; omega) ht
  exact ⟨r, hr, e, fun s hs e2 => by have := hV.2.2.2.2.2 s r (by omega) hr (e2.trans e.symm); omega⟩
theorem m_rowOf (hV : VT R C kd cl tg) (hM : MT R C kd cl tg now) {t r : Nat} (ht : t < R) (hr : r < R) (e : tg r = t) (hf : ∀ s, s < r → tg s ≠ t) : f_X10_rowOf now (nI t) = some (nI r) := by
  have h16 := hV.1
  have := up_loop (fun n i (_ : Unit) => L_X10_rowOf_2 now (nI t) n i) (C := r) (fun _ => ()) (res := nI r)
    (fun n i hi => by
      show L_X10_rowOf_2 now (nI t) (n + 1) _ = L_X10_rowOf_2 now (nI t) n _
      have h5 := hV.2.2.2.2.1 i (by omega)
      rw [L_X10_rowOf_2, li8, nI_add, gdI (by omega) (by omega), nI_clamp (by omega), hM.2.2.2.1 i (by omega), nI_l (by omega), if_neg (fun q => hf i hi ((lN_eq (by omega) (by omega)).mp ((lg_cmp_eq _ _).mp q))), nI_1])
    (fun n => by
      show L_X10_rowOf_2 now (nI t) (n + 1) _ = _
      rw [L_X10_rowOf_2, li8, nI_add, gdI (by omega) (by omega), nI_clamp (by omega), hM.2.2.2.1 r hr, nI_l (by omega), e, if_pos ((lg_cmp_eq _ _).mpr rfl)])
    r fu 0 (by omega) (fu_lt (by omega))
  unfold f_X10_rowOf
  have h0 : L_X10_rowOf_2 now (nI t) fu 0 = _ := this
  rw [h0]
  rfl
theorem op_tagged (hT : TT cols rows kinds tags cells now) (x : Int32) : ∃ r, f_X9_tagged rows tags x = some r ∧ f_X10_tagged now x = some (r, 0) := by
  obtain ⟨R, C, kd, cl, tg, hV, hC, hM⟩ := hT
  have h16 := hV.1
  unfold f_X10_tagged f_X9_tagged
  rw [m_isRow hV hM]
  by_cases hx : ixd x R = true
  · obtain ⟨t, ht, rfl⟩ := ixd_of (by omega) hx
    obtain ⟨r, hr, e, hf⟩ := tag_at hV ht
    rw [hx, m_rowOf hV hM ht hr e hf]
    have := up_loop (fun n i (_ : Unit) => L_X9_tagged_2 rows tags (nI t) n i) (C := r) (fun _ => ()) (res := .inr (nI r))
      (fun n i hi => by
        show L_X9_tagged_2 rows tags (nI t) (n + 1) _ = L_X9_tagged_2 rows tags (nI t) n _
        have h5 := hV.2.2.2.2.1 i (by omega)
        rw [L_X9_tagged_2, hC.2.1, if_neg (nI_ge (by omega) (by omega)), gdI (by omega) (by omega), nI_clamp (by omega), hC.2.2.2.1 i (by omega), if_neg (fun q => hf i hi ((nI_eq (by omega) (by omega)).mp q)), nI_1])
      (fun n => by
        show L_X9_tagged_2 rows tags (nI t) (n + 1) _ = _
        rw [L_X9_tagged_2, hC.2.1, if_neg (nI_ge (by omega) (by omega)), gdI (by omega) (by omega), nI_clamp (by omega), hC.2.2.2.1 r hr, e, if_pos rfl])
      r fu 0 (by omega) (fu_lt (by omega))
    have h0 : L_X9_tagged_2 rows tags (nI t) fu 0 = _ := this
    rw [h0]
    exact ⟨nI r, rfl, rfl⟩
  · have hx' : ixd x R = false := by simpa using hx
    rw [hx']
    have := up_loop (fun n i (_ : Unit) => L_X9_tagged_2 rows tags x n i) (C := R) (fun _ => ()) (res := .inl ())
      (fun n i hi => by
        show L_X9_tagged_2 rows tags x (n + 1) _ = L_X9_tagged_2 rows tags x n _
        rw [L_X9_tagged_2, hC.2.1, if_neg (nI_ge (by omega) (by omega)), gdI (by omega) (by omega), nI_clamp (by omega), hC.2.2.2.1 i (by omega), if_neg (fun q => hx (by rw [← q]; exact ixd_nI (by omega) (hV.2.2.2.2.1 i hi))), nI_1])
      (fun n => by
        show L_X9_tagged_2 rows tags x (n + 1) _ = _
        rw [L_X9_tagged_2, hC.2.1, if_pos (nI_le (Nat.le_refl _) (by omega))])
      R fu 0 (by omega) (fu_lt (by omega))
    have h0 : L_X9_tagged_2 rows tags x fu 0 = _ := this
    rw [h0]
    exact ⟨-1, rfl, rfl⟩
end
