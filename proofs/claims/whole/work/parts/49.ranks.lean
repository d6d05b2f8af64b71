/-! which cells are the first of their like, ranks -/
theorem srch {E : Type} (L : Nat → Int32 → Option E) (p : Nat → Bool) {r : Nat} (a b : E)
    (hs : ∀ n i, i < r → L (n + 1) (nI i) = if p i = true then some b else L n (nI (i + 1))) (he : ∀ n, L (n + 1) (nI r) = some a) :
    ∀ k n i, i + k = r → k < n → L n (nI i) = some (if fb_ct (fun j => p (i + j)) k = 0 then a else b) := by
  intro k
  induction k with
  | zero =>
    intro n i h1 h2
    obtain ⟨n, rfl⟩ : ∃ n', n = n' + 1 := ⟨n - 1, by omega⟩
    obtain rfl : i = r := by omega
    exact he n
  | succ k ih =>
    intro n i h1 h2
    obtain ⟨n, rfl⟩ : ∃ n', n = n' + 1 := ⟨n - 1, by omega⟩
    rw [hs n i (by omega), ih n (i + 1) (by omega) (by omega), Nat.add_comm k 1, fb_ct_split]
    have e : (fun j => p (i + 1 + j)) = (fun j => p (i + (1 + j))) := funext (fun j => by rw [Nat.add_assoc])
    have e1 : fb_ct (fun j => p (i + j)) 1 = if p i = true then 1 else 0 := by
      show 0 + (if p (i + 0) = true then 1 else 0) = _
      rw [Nat.zero_add, Nat.add_zero]
    rw [e, e1]
    by_cases h : p i = true
    · rw [if_pos h, if_pos h, if_neg (by omega)]
    · rw [if_neg h, if_neg h, Nat.zero_add]
/-- no cell above is like this one -/
def fst (cl : Nat → Nat → Int64) (c r : Nat) : Bool := decide (fb_ct (fun j => decide (cl c j = cl c r)) r = 0)
/-- unlike cells of a column -/
def dst (R : Nat) (cl : Nat → Nat → Int64) (c : Nat) : Nat := fb_ct (fst cl c) R
def rk (R : Nat) (kd : Nat → Nat) (cl : Nat → Nat → Int64) (c r : Nat) : Nat := fb_ct (fun k => fst cl c k && decide (wt (kd c) (cl c k) < wt (kd c) (cl c r))) R
section
variable {R C : Nat} {kd : Nat → Nat} {cl : Nat → Nat → Int64} {tg : Nat → Nat} {now : Nat → Int64} {cols rows : Int32} {kinds tags : Nat → Int32} {cells : Nat → Int64}
theorem m_isFirst (hV : VT R C kd cl tg) (hM : MT R C kd cl tg now) {c r : Nat} (hc : c < C) (hr : r < R) : f_X10_isFirst now (nI c) (nI r) = some (fst cl c r) := by
  have h16 := hV.1
  have := srch (L_X10_isFirst_2 now (nI c) (nI r)) (fun j => decide (cl c j = cl c r)) (r := r) (.inl ()) (.inr false)
    (fun n i hi => by
      rw [L_X10_isFirst_2, if_neg (nI_ge hi (by omega)), m_cell hV hM hc (by omega), m_cell hV hM hc hr]
      simp only [Option.bind_some, lg_cmp_eq, nI_1, decide_eq_true_eq])
    (fun n => by rw [L_X10_isFirst_2, if_pos (nI_le (Nat.le_refl _) (by omega))]) r fu 0 (by omega) (fu_lt (by omega))
  unfold f_X10_isFirst fst
  rw [li0, this]
  simp only [Nat.zero_add, Option.bind_some]
  by_cases h : fb_ct (fun j => decide (cl c j = cl c r)) r = 0
  · rw [if_pos h, decide_eq_true h]; rfl
  · rw [if_neg h, decide_eq_false h]; rfl
theorem m_rankOf (hV : VT R C kd cl tg) (hM : MT R C kd cl tg now) {c r : Nat} (hc : c < C) (hr : r < R) (hp : kd c ≤ 10) : f_X10_rankOf now (nI c) (nI r) = some (nI (rk R kd cl c r)) := by
  have h16 := hV.1
  have := up_loop (fun n i s => L_X10_rankOf_5 now (nI c) (nI r) n s i) (C := R) (fun i => nI (fb_ct (fun k => fst cl c k && decide (wt (kd c) (cl c k) < wt (kd c) (cl c r))) i)) (res := nI (rk R kd cl c r))
    (fun n i hi => by
      show L_X10_rankOf_5 now (nI c) (nI r) (n + 1) _ _ = L_X10_rankOf_5 now (nI c) (nI r) n _ _
      rw [L_X10_rankOf_5, m_rows hM]
      simp only [Option.bind_some]
      rw [if_neg (nI_ge hi (by omega)), m_isFirst hV hM hc hi, m_kind hV hM hc, m_cell hV hM hc hi, m_cell hV hM hc hr]
      simp only [Option.bind_some, F3l (kd c) (by omega) _ _ (hV.2.2.2.1 c i hc hi) (hV.2.2.2.1 c r hc hr), ifb, nI_1, fb_ct_succ]
      by_cases h1 : fst cl c i = true
      · rw [if_pos h1]
        by_cases h2 : wt (kd c) (cl c i) < wt (kd c) (cl c r) <;> simp [h1, h2]
      · rw [if_neg h1]; simp [h1])
    (fun n => by
      show L_X10_rankOf_5 now (nI c) (nI r) (n + 1) _ _ = _
      rw [L_X10_rankOf_5, m_rows hM]
      simp only [Option.bind_some]
      rw [if_pos (nI_le (Nat.le_refl _) (by omega))]
      rfl)
    R fu 0 (by omega) (fu_lt (by omega))
  unfold f_X10_rankOf
  have h0 : L_X10_rankOf_5 now (nI c) (nI r) fu 0 0 = _ := this
  rw [h0]
  rfl
/-- the ranks and counts of a column are told -/
def RC (R : Nat) (kd : Nat → Nat) (cl : Nat → Nat → Int64) (distinct ranks : Nat → Int32) (c : Nat) : Prop := distinct c = nI (dst R cl c) ∧ ∀ r, r < R → ranks (c * 16 + r) = nI (rk R kd cl c r)
theorem c_isNew (hV : VT R C kd cl tg) {c : Nat} (hc : c < C) (hp : kd c ≤ 10) {ws : Nat → Int64} (hw : ∀ r, r < R → ws r = wt (kd c) (cl c r)) {r : Nat} (hr : r < R) : f_X6_isNew ws (nI r) = some (fst cl c r) := by
  have h16 := hV.1
  have := srch (L_X6_isNew_2 ws (nI r)) (fun j => decide (cl c j = cl c r)) (r := r) (.inl ()) (.inr false)
    (fun n i hi => by
      have e : (ws i = ws r) ↔ cl c i = cl c r := by
        rw [hw i (by omega), hw r hr]
        exact ⟨fun q => F3i (kd c) (by omega) _ _ (hV.2.2.2.1 c i hc (by omega)) (hV.2.2.2.1 c r hc hr) q, fun q => by rw [q]⟩
      rw [L_X6_isNew_2, if_neg (nI_ge hi (by omega)), gdI (by omega) (by omega), gdI (by omega) (by omega), nI_clamp (show i < 2 ^ 31 by omega), nI_clamp (show r < 2 ^ 31 by omega)]
      simp only [lg_cmp_eq, e, nI_1, decide_eq_true_eq])
    (fun n => by rw [L_X6_isNew_2, if_pos (nI_le (Nat.le_refl _) (by omega))]) r fu 0 (by omega) (fu_lt (by omega))
  unfold f_X6_isNew fst
  rw [li0, this]
  simp only [Nat.zero_add, Option.bind_some]
  by_cases h : fb_ct (fun j => decide (cl c j = cl c r)) r = 0
  · rw [if_pos h, decide_eq_true h]; rfl
  · rw [if_neg h, decide_eq_false h]; rfl
theorem c_lesserOnes (hV : VT R C kd cl tg) {c : Nat} {ws : Nat → Int64} (hw : ∀ r, r < R → ws r = wt (kd c) (cl c r)) {isF : Nat → Int32} (hF : ∀ r, r < R → isF r = b2i (fst cl c r)) {r : Nat} (hr : r < R) : f_X6_lesserOnes ws isF (nI r) (nI R) = some (nI (rk R kd cl c r)) := by
  have h16 := hV.1
  have := up_loop (fun n i s => L_X6_lesserOnes_5 ws isF (nI r) (nI R) n s i) (C := R) (fun i => nI (fb_ct (fun k => fst cl c k && decide (wt (kd c) (cl c k) < wt (kd c) (cl c r))) i)) (res := nI (rk R kd cl c r))
    (fun n i hi => by
      show L_X6_lesserOnes_5 ws isF (nI r) (nI R) (n + 1) _ _ = L_X6_lesserOnes_5 ws isF (nI r) (nI R) n _ _
      rw [L_X6_lesserOnes_5, if_neg (nI_ge hi (by omega)), gdI (by omega) (by omega), gdI (by omega) (by omega), gdI (by omega) (by omega), nI_clamp (show i < 2 ^ 31 by omega), nI_clamp (show r < 2 ^ 31 by omega), hF i hi, hw i hi, hw r hr]
      simp only [ifb, nI_1, fb_ct_succ, lg_cmp_ge]
      by_cases h1 : fst cl c i = true
      · rw [if_pos h1]
        by_cases h2 : wt (kd c) (cl c i) < wt (kd c) (cl c r)
        · rw [if_neg (by rw [Int64.lt_iff_toInt_lt] at h2; rw [Int64.le_iff_toInt_le]; omega)]; simp [h1, h2]
        · rw [if_pos (by rw [Int64.lt_iff_toInt_lt] at h2; rw [Int64.le_iff_toInt_le]; omega)]; simp [h1, h2]
      · rw [if_neg h1]; simp [h1])
    (fun n => by
      show L_X6_lesserOnes_5 ws isF (nI r) (nI R) (n + 1) _ _ = _
      rw [L_X6_lesserOnes_5, if_pos (nI_le (Nat.le_refl _) (by omega))]
      rfl)
    R fu 0 (by omega) (fu_lt (by omega))
  unfold f_X6_lesserOnes
  have h0 : L_X6_lesserOnes_5 ws isF (nI r) (nI R) fu 0 0 = _ := this
  rw [h0]
  rfl
theorem nar_b2i (b : Bool) : vp_nar .boolean (b2i b) = b2i b := by cases b <;> rfl
/-- one column of the class's ranks -/
theorem c_readColumn (hV : VT R C kd cl tg) (hC : CT R C kd cl tg cols rows kinds tags cells) {c : Nat} (hc : c < C) (hp : kd c ≤ 10) (dis rks : Nat → Int32) (wts : Nat → Int64) (isF : Nat → Int32) :
    ∃ (dis' rks' : Nat → Int32) (wts' : Nat → Int64) (isF' : Nat → Int32), f_X6_readColumn dis rks wts isF rows kinds cells (nI c) = some (dis', rks', wts', isF') ∧ RC R kd cl dis' rks' c ∧ (∀ j, j ≠ c → dis' j = dis j) ∧ ∀ j, (j < c * 16 ∨ c * 16 + R ≤ j) → rks' j = rks j := by
  have h16 := hV.1
  have h6 := hV.2.1
  obtain ⟨ws, hw1, hw2⟩ := up_ex (fun n i s => L_X6_readColumn_2 rows kinds cells (nI c) n i s) (C := R) (fun i s => ∀ r, r < i → s r = wt (kd c) (cl c r)) (fun s => ∀ r, r < R → s r = wt (kd c) (cl c r))
    (fun n i s hi hI => ⟨vp_updL s i (wt (kd c) (cl c i)), fun r hr => by
        by_cases h : r = i
        · rw [h, updL_at]
        · rw [updL_ne _ _ h]; exact hI r (by omega), by
        show L_X6_readColumn_2 rows kinds cells (nI c) (n + 1) _ _ = L_X6_readColumn_2 rows kinds cells (nI c) n _ _
        rw [L_X6_readColumn_2, hC.2.1, if_neg (nI_ge hi (by omega)), gdI (by omega) (by omega), nI_clamp (show c < 2 ^ 31 by omega), hC.2.2.1 c hc, c_cell hV hC hc hi]
        simp only [Option.bind_some, F3w (kd c) (by omega) _ (hV.2.2.2.1 c i hc hi)]
        rw [gdI (by omega) (by omega), nI_clamp (by omega), nI_1]⟩)
    (fun n s hI => ⟨s, hI, by
        show L_X6_readColumn_2 rows kinds cells (nI c) (n + 1) _ _ = _
        rw [L_X6_readColumn_2, hC.2.1, if_pos (nI_le (Nat.le_refl _) (by omega))]⟩) R fu 0 wts (by omega) (fu_lt (by omega)) (fun r hr => by omega)
  obtain ⟨d2, ⟨hd1, hd2, hd3⟩, hd4⟩ := up_ex (fun n i (s : (Nat → Int32) × (Nat → Int32)) => L_X6_readColumn_46 rows (nI c) ws n i s.1 s.2) (C := R)
    (fun i s => s.1 c = nI (fb_ct (fst cl c) i) ∧ (∀ j, j ≠ c → s.1 j = dis j) ∧ ∀ r, r < i → s.2 r = b2i (fst cl c r)) (fun s => s.1 c = nI (dst R cl c) ∧ (∀ j, j ≠ c → s.1 j = dis j) ∧ ∀ r, r < R → s.2 r = b2i (fst cl c r))
    (fun n i s hi hI => by
      have hstep : L_X6_readColumn_46 rows (nI c) ws (n + 1) (nI i) s.1 s.2 = L_X6_readColumn_46 rows (nI c) ws n (nI (i + 1)) (if fst cl c i = true then upd s.1 c (nI (fb_ct (fst cl c) i) + 1) else s.1) (upd s.2 i (b2i (fst cl c i))) := by
        rw [L_X6_readColumn_46, hC.2.1, if_neg (nI_ge hi (by omega)), c_isNew hV hc hp hw1 hi]
        simp only [Option.bind_some]
        rw [gdI (by omega) (by omega), gdI (by omega) (by omega), gdI (by omega) (by omega), gdI (by omega) (by omega), nI_clamp (show i < 2 ^ 31 by omega), nI_clamp (show c < 2 ^ 31 by omega), upd_at, nar_b2i, hI.1, nI_1]
        simp only [ifb]
        by_cases h : fst cl c i = true
        · rw [if_pos h, if_pos h]
        · rw [if_neg h, if_neg h]
      refine ⟨(if fst cl c i = true then upd s.1 c (nI (fb_ct (fst cl c) i) + 1) else s.1, upd s.2 i (b2i (fst cl c i))), ⟨?_, ?_, ?_⟩, hstep⟩
      · show (if fst cl c i = true then upd s.1 c (nI (fb_ct (fst cl c) i) + 1) else s.1) c = _
        rw [fb_ct_succ]
        by_cases h : fst cl c i = true
        · rw [if_pos h, if_pos h, upd_at, nI_1]
        · rw [if_neg h, if_neg h, hI.1]; rfl
      · intro j hj
        show (if fst cl c i = true then upd s.1 c (nI (fb_ct (fst cl c) i) + 1) else s.1) j = _
        by_cases h : fst cl c i = true
        · rw [if_pos h, upd_ne _ _ hj]; exact hI.2.1 j hj
        · rw [if_neg h]; exact hI.2.1 j hj
      · intro r hr
        show upd s.2 i (b2i (fst cl c i)) r = _
        by_cases h : r = i
        · rw [h, upd_at]
        · rw [upd_ne _ _ h]; exact hI.2.2 r (by omega))
    (fun n s hI => ⟨s, hI, by
        show L_X6_readColumn_46 rows (nI c) ws (n + 1) _ _ _ = _
        rw [L_X6_readColumn_46, hC.2.1, if_pos (nI_le (Nat.le_refl _) (by omega))]⟩) R fu 0 (upd dis c 0, isF) (by omega) (fu_lt (by omega)) ⟨by show upd dis c 0 c = _; rw [upd_at]; rfl, fun j hj => by show upd dis c 0 j = _; rw [upd_ne _ _ hj], fun r hr => by omega⟩
  obtain ⟨r3, ⟨hr1, hr2⟩, hr3⟩ := up_ex (fun n i s => L_X6_readColumn_92 rows (nI c) ws d2 n i s) (C := R) (fun i s => (∀ r, r < i → s (c * 16 + r) = nI (rk R kd cl c r)) ∧ ∀ j, (j < c * 16 ∨ c * 16 + R ≤ j) → s j = rks j) (fun s => (∀ r, r < R → s (c * 16 + r) = nI (rk R kd cl c r)) ∧ ∀ j, (j < c * 16 ∨ c * 16 + R ≤ j) → s j = rks j)
    (fun n i s hi hI => ⟨upd s (c * 16 + i) (nI (rk R kd cl c i)), ⟨fun r hr => by
        by_cases h : r = i
        · rw [h, upd_at]
        · rw [upd_ne _ _ (by omega)]; exact hI.1 r (by omega), fun j hj => by rw [upd_ne _ _ (by omega)]; exact hI.2 j hj⟩, by
        show L_X6_readColumn_92 rows (nI c) ws d2 (n + 1) _ _ = L_X6_readColumn_92 rows (nI c) ws d2 n _ _
        rw [L_X6_readColumn_92, hC.2.1, if_neg (nI_ge hi (by omega)), c_lesserOnes hV hw1 hd3 hi]
        simp only [Option.bind_some]
        rw [li16, pk_mul, nI_add, gdI (by omega) (by omega), nI_clamp (by omega), nI_1]⟩)
    (fun n s hI => ⟨s, hI, by
        show L_X6_readColumn_92 rows (nI c) ws d2 (n + 1) _ _ = _
        rw [L_X6_readColumn_92, hC.2.1, if_pos (nI_le (Nat.le_refl _) (by omega))]⟩) R fu 0 rks (by omega) (fu_lt (by omega)) ⟨fun r hr => by omega, fun j hj => rfl⟩
  refine ⟨d2.1, r3, ws, d2.2, ?_, ⟨hd1, hr1⟩, hd2, hr2⟩
  unfold f_X6_readColumn
  have e1 : L_X6_readColumn_2 rows kinds cells (nI c) fu 0 wts = _ := hw2
  have e2 : L_X6_readColumn_46 rows (nI c) ws fu 0 (upd dis c 0) isF = _ := hd4
  have e3 : L_X6_readColumn_92 rows (nI c) ws d2 fu 0 rks = _ := hr3
  rw [e1]
  simp only [Option.bind_some]
  rw [gdI (by omega) (by omega), nI_clamp (by omega), e2]
  simp only [Option.bind_some]
  rw [e3]
  rfl
/-- the class's ranks of all proper columns -/
theorem c_readAll (hV : VT R C kd cl tg) (hC : CT R C kd cl tg cols rows kinds tags cells) (dis rks : Nat → Int32) (wts : Nat → Int64) (isF : Nat → Int32) :
    ∃ (dis' rks' : Nat → Int32) (wts' : Nat → Int64) (isF' : Nat → Int32), f_X6_readAll dis rks wts isF cols rows kinds cells = some (dis', rks', wts', isF') ∧ ∀ c, c < C → kd c ≤ 10 → RC R kd cl dis' rks' c := by
  have h16 := hV.1
  have h6 := hV.2.1
  obtain ⟨s', h1, h2⟩ := up_ex (fun n i (s : (Nat → Int32) × (Nat → Int32) × (Nat → Int64) × (Nat → Int32)) => L_X6_readAll_2 cols rows kinds cells n i s.1 s.2.1 s.2.2.1 s.2.2.2) (C := C)
    (fun i s => ∀ c, c < i → kd c ≤ 10 → RC R kd cl s.1 s.2.1 c) (fun s => ∀ c, c < C → kd c ≤ 10 → RC R kd cl s.1 s.2.1 c)
    (fun n i s hi hI => by
      by_cases hp : kd i ≤ 10
      · obtain ⟨d', r', w', f', q1, q2, q3, q4⟩ := c_readColumn hV hC hi hp s.1 s.2.1 s.2.2.1 s.2.2.2
        refine ⟨(d', r', w', f'), fun c hc hpc => ?_, ?_⟩
        · by_cases h : c = i
          · subst h; exact q2
          · obtain ⟨a1, a2⟩ := hI c (by omega) hpc
            exact ⟨(q3 c h).trans a1, fun r hr => (q4 _ (by omega)).trans (a2 r hr)⟩
        · show L_X6_readAll_2 cols rows kinds cells (n + 1) _ _ _ _ _ = L_X6_readAll_2 cols rows kinds cells n _ _ _ _ _
          rw [L_X6_readAll_2, c_isProper hV hC hi, hC.1, if_neg (nI_ge hi (by omega)), ← hC.1]
          simp only [Option.bind_some, ifbd]
          rw [if_pos hp, q1]
          simp only [Option.bind_some, nI_1]
      · refine ⟨s, fun c hc hpc => hI c (by have : c ≠ i := fun e => hp (e ▸ hpc); omega) hpc, ?_⟩
        show L_X6_readAll_2 cols rows kinds cells (n + 1) _ _ _ _ _ = L_X6_readAll_2 cols rows kinds cells n _ _ _ _ _
        rw [L_X6_readAll_2, c_isProper hV hC hi, hC.1, if_neg (nI_ge hi (by omega)), ← hC.1]
        simp only [Option.bind_some, ifbd]
        rw [if_neg hp, nI_1])
    (fun n s hI => ⟨s, hI, by
        show L_X6_readAll_2 cols rows kinds cells (n + 1) _ _ _ _ _ = _
        rw [L_X6_readAll_2, hC.1, if_pos (nI_le (Nat.le_refl _) (by omega))]⟩) C fu 0 (dis, rks, wts, isF) (by omega) (fu_lt (by omega)) (fun c hc => by omega)
  refine ⟨s'.1, s'.2.1, s'.2.2.1, s'.2.2.2, ?_, h1⟩
  unfold f_X6_readAll
  have e1 : L_X6_readAll_2 cols rows kinds cells fu 0 dis rks wts isF = _ := h2
  rw [e1]
  rfl
end
