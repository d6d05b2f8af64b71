/-! runs of a line of rows -/
theorem up_from {S E : Type} (L : Nat → Int32 → S → Option E) {C : Nat} (lo : Nat) (inv : Nat → S) {res : E}
    (hs : ∀ n i, lo ≤ i → i < C → L (n + 1) (nI i) (inv i) = L n (nI (i + 1)) (inv (i + 1))) (he : ∀ n, L (n + 1) (nI C) (inv C) = some res) :
    ∀ k n i, lo ≤ i → i + k = C → k < n → L n (nI i) (inv i) = some res := by
  intro k
  induction k with
  | zero =>
    intro n i h0 h1 h2
    obtain ⟨n, rfl⟩ : ∃ n', n = n' + 1 := ⟨n - 1, by omega⟩
    obtain rfl : i = C := by omega
    exact he n
  | succ k ih =>
    intro n i h0 h1 h2
    obtain ⟨n, rfl⟩ : ∃ n', n = n' + 1 := ⟨n - 1, by omega⟩
    rw [hs n i h0 (by omega)]
    exact ih n (i + 1) (by omega) (by omega) (by omega)
/-- a line: each row once -/
def LPm (R : Nat) (ln : Nat → Nat) : Prop := (∀ r, r < R → ln r < R) ∧ ∀ r s, r < R → s < R → ln r = ln s → r = s
/-- an array that tells a line -/
def LN (R : Nat) (ln : Nat → Nat) (line : Nat → Int32) : Prop := ∀ r, r < R → line r = nI (ln r)
/-- whether a run begins -/
def bg (cl : Nat → Nat → Int64) (ln : Nat → Nat) (c r : Nat) : Bool := decide (r = 0) || decide (¬ cl c (ln r) = cl c (ln (r - 1)))
def rin (cl : Nat → Nat → Int64) (ln : Nat → Nat) (c n : Nat) : Nat := fb_ct (bg cl ln c) n
def rl (C : Nat) (kd : Nat → Nat) (cl : Nat → Nat → Int64) (ln : Nat → Nat) (n : Nat) : Nat := fb_sm (fun c => if pr kd c then rin cl ln c n else 0) C
theorem sm_ct (p : Nat → Bool) : ∀ n, fb_sm (fun c => if p c = true then 1 else 0) n = fb_ct p n
  | 0 => rfl
  | n + 1 => by rw [fb_sm_succ, fb_ct_succ, sm_ct p n]
theorem rl_succ (C : Nat) (kd : Nat → Nat) (cl : Nat → Nat → Int64) (ln : Nat → Nat) (n : Nat) : rl C kd cl ln (n + 1) = rl C kd cl ln n + fb_ct (fun c => pr kd c && bg cl ln c n) C := by
  unfold rl rin
  rw [← sm_ct, ← fb_sm_add]
  refine fb_sm_cong (fun c _ => ?_)
  rw [fb_ct_succ]
  by_cases h : pr kd c = true
  · simp [h]
  · simp [h]
theorem rl_0 (C : Nat) (kd : Nat → Nat) (cl : Nat → Nat → Int64) (ln : Nat → Nat) : rl C kd cl ln 0 = 0 := by
  unfold rl rin
  rw [fb_sm_cong (g := fun _ => 0) (fun c _ => by by_cases h : pr kd c = true <;> simp [h, fb_ct]), fb_sm_const, Nat.mul_zero]
theorem rl_1 (C : Nat) (kd : Nat → Nat) (cl : Nat → Nat → Int64) (ln : Nat → Nat) : rl C kd cl ln 1 = fb_ct (pr kd) C := by
  rw [rl_succ, rl_0, Nat.zero_add]
  refine fb_ct_cong (fun c _ => ?_)
  simp [bg]
theorem rl_step (C : Nat) (kd : Nat → Nat) (cl : Nat → Nat → Int64) (ln : Nat → Nat) {n : Nat} (h : 0 < n) : rl C kd cl ln (n + 1) = rl C kd cl ln n + unl C kd cl (ln (n - 1)) (ln n) := by
  rw [rl_succ]
  unfold unl
  congr 1
  refine fb_ct_cong (fun c _ => ?_)
  unfold bg
  have h0 : ¬ n = 0 := by omega
  by_cases e : cl c (ln n) = cl c (ln (n - 1))
  · simp [h0, e]
  · have e' : ¬ cl c (ln (n - 1)) = cl c (ln n) := fun q => e q.symm
    simp [h0, e, e']
theorem unl_symm (C : Nat) (kd : Nat → Nat) (cl : Nat → Nat → Int64) (r s : Nat) : unl C kd cl r s = unl C kd cl s r := by
  unfold unl
  refine fb_ct_cong (fun c _ => ?_)
  by_cases e : cl c r = cl c s
  · simp [e]
  · have e' : ¬ cl c s = cl c r := fun q => e q.symm
    simp [e, e']
theorem unl_le (C : Nat) (kd : Nat → Nat) (cl : Nat → Nat → Int64) (r s : Nat) : unl C kd cl r s ≤ C := fb_ct_le _ _
theorem rl_le (C : Nat) (kd : Nat → Nat) (cl : Nat → Nat → Int64) (ln : Nat → Nat) : ∀ n, rl C kd cl ln n ≤ n * C
  | 0 => by rw [rl_0]; omega
  | n + 1 => by
    rw [rl_succ]
    have h1 := rl_le C kd cl ln n
    have h2 := fb_ct_le (fun c => pr kd c && bg cl ln c n) C
    rw [Nat.add_mul, Nat.one_mul]
    omega
theorem rl_congL (C : Nat) (kd : Nat → Nat) (cl : Nat → Nat → Int64) {ln ln' : Nat → Nat} : ∀ {n : Nat}, (∀ r, r < n → ln r = ln' r) → rl C kd cl ln n = rl C kd cl ln' n
  | 0, _ => by rw [rl_0, rl_0]
  | n + 1, h => by
    rw [rl_succ, rl_succ, rl_congL C kd cl (fun r hr => h r (by omega))]
    congr 1
    refine fb_ct_cong (fun c _ => ?_)
    unfold bg
    rw [h n (by omega), h (n - 1) (by omega)]
section
variable {R C : Nat} {kd : Nat → Nat} {cl : Nat → Nat → Int64} {tg : Nat → Nat} {now : Nat → Int64} {cols rows : Int32} {kinds tags : Nat → Int32} {cells : Nat → Int64}
theorem m_runsIn (hV : VT R C kd cl tg) (hM : MT R C kd cl tg now) {rks dis line : Nat → Int32} {ln : Nat → Nat} (hL : LN R ln line) (hP : LPm R ln) {c : Nat} (hc : c < C) (hp : kd c ≤ 10) (hRC : RC R kd cl dis rks c) : f_X10_runsIn now rks line (nI c) = some (nI (rin cl ln c R)) := by
  have h16 := hV.1
  have h6 := hV.2.1
  have := up_loop (fun n i s => L_X10_runsIn_4 now rks line (nI c) n s i) (C := R) (fun i => nI (rin cl ln c i)) (res := nI (rin cl ln c R))
    (fun n i hi => by
      show L_X10_runsIn_4 now rks line (nI c) (n + 1) _ _ = L_X10_runsIn_4 now rks line (nI c) n _ _
      rw [L_X10_runsIn_4, m_rows hM]
      simp only [Option.bind_some]
      rw [if_neg (nI_ge hi (by omega))]
      unfold rin
      rw [fb_ct_succ]
      by_cases h0 : i = 0
      · rw [if_pos (by rw [h0]; rfl), nI_1, nI_1]
        simp [bg, h0]
      · have hlt := hP.1 i hi
        have hlt' := hP.1 (i - 1) (by omega)
        have e1 : nI i - (1 : Int32) = nI (i - 1) := by rw [li1, pk_sub (by omega)]
        rw [if_neg (nI_ne0 (by omega) (by omega)), e1, gdI (by omega) (by omega), gdI (show i - 1 < 16 by omega) (by omega), nI_clamp (show i < 2 ^ 31 by omega), nI_clamp (show i - 1 < 2 ^ 31 by omega), hL i hi, hL (i - 1) (by omega), li16, pk_mul, nI_add, nI_add, gdI (by omega) (by omega), gdI (by omega) (by omega), nI_clamp (by omega), nI_clamp (by omega)]
        rw [show 16 * c + ln i = c * 16 + ln i by omega, show 16 * c + ln (i - 1) = c * 16 + ln (i - 1) by omega, hRC.2 _ hlt, hRC.2 _ hlt', nI_1]
        have l1 := rk_lt (kd := kd) (cl := cl) (c := c) hlt
        have l2 := rk_lt (kd := kd) (cl := cl) (c := c) hlt'
        by_cases h : cl c (ln i) = cl c (ln (i - 1))
        · rw [if_pos (by rw [(rk_eq hV hc hp hlt hlt').mpr h])]
          simp [bg, h, h0, li0, nI_add]
        · rw [if_neg (fun q => h ((rk_eq hV hc hp hlt hlt').mp ((nI_eq (by omega) (by omega)).mp q)))]
          simp [bg, h, nI_1])
    (fun n => by
      show L_X10_runsIn_4 now rks line (nI c) (n + 1) _ _ = _
      rw [L_X10_runsIn_4, m_rows hM]
      simp only [Option.bind_some]
      rw [if_pos (nI_le (Nat.le_refl _) (by omega))])
    R fu 0 (by omega) (fu_lt (by omega))
  unfold f_X10_runsIn
  have h0 : L_X10_runsIn_4 now rks line (nI c) fu 0 0 = _ := this
  rw [h0]
  rfl
theorem m_runsOfLine (hV : VT R C kd cl tg) (hM : MT R C kd cl tg now) {many : Int32} {rks dis pro line : Nat → Int32} {ln : Nat → Nat} (hRC : ∀ c, c < C → kd c ≤ 10 → RC R kd cl dis rks c) (hPL : PL C kd many pro) (hL : LN R ln line) (hP : LPm R ln) : f_X10_runsOfLine many now rks pro line = some (nI (rl C kd cl ln R)) := by
  have h16 := hV.1
  have h6 := hV.2.1
  have hle := fb_ct_le (pr kd) C
  have := prop_loop (fun n i a => L_X10_runsOfLine_4 many now rks pro line n a i) (pr kd) (C := C) (fun c => nI (fb_sm (fun c => if pr kd c then rin cl ln c R else 0) c)) (res := nI (rl C kd cl ln R))
    (fun n c hc hp => by
      have hp' : kd c ≤ 10 := of_decide_eq_true hp
      have hlt : fb_ct (pr kd) c < fb_ct (pr kd) C := by
        have h1 := fb_ct_mono (pr kd) (show c + 1 ≤ C by omega)
        rw [fb_ct_succ, if_pos hp] at h1
        omega
      show L_X10_runsOfLine_4 many now rks pro line (n + 1) _ _ = L_X10_runsOfLine_4 many now rks pro line n _ _
      rw [L_X10_runsOfLine_4, hPL.1, if_neg (nI_ge hlt (by omega)), gdI (by omega) (by omega), nI_clamp (show fb_ct (pr kd) c < 2 ^ 31 by omega), hPL.2 c hc hp', m_runsIn hV hM hL hP hc hp' (hRC c hc hp')]
      simp only [Option.bind_some, nI_add, nI_1, fb_sm_succ, if_pos hp])
    (fun c hc hp => by rw [fb_sm_succ, if_neg (by simp [hp])]; rfl)
    (fun n => by
      show L_X10_runsOfLine_4 many now rks pro line (n + 1) _ _ = _
      rw [L_X10_runsOfLine_4, hPL.1, if_pos (nI_le (Nat.le_refl _) (by omega))]
      rfl)
    C fu 0 (by omega) (fu_lt (by omega))
  unfold f_X10_runsOfLine
  have h0 : L_X10_runsOfLine_4 many now rks pro line fu 0 0 = _ := this
  rw [h0]
  rfl
/-- runs of the table as it lies -/
theorem m_runsNow (hV : VT R C kd cl tg) (hM : MT R C kd cl tg now) (rks dis pro ln : Nat → Int32) :
    ∃ (many : Int32) (rks' dis' pro' ln' : Nat → Int32), f_X10_runsNow now rks dis pro ln = some (nI (rl C kd cl id R), many, rks', dis', pro', ln') ∧ (∀ c, c < C → kd c ≤ 10 → RC R kd cl dis' rks' c) ∧ PL C kd many pro' ∧ LN R id ln' := by
  obtain ⟨many, rks', dis', pro', ln', h1, h2, h3, h4⟩ := m_layLine hV hM rks dis pro ln
  refine ⟨many, rks', dis', pro', ln', ?_, h2, h3, h4⟩
  unfold f_X10_runsNow
  rw [h1]
  simp only [Option.bind_some]
  rw [m_runsOfLine hV hM h2 h3 (show LN R id ln' from h4) ⟨fun r hr => hr, fun r s _ _ e => e⟩]
  rfl
/-- the class: one column's runs, all runs -/
theorem c_beginsRun (hV : VT R C kd cl tg) (hC : CT R C kd cl tg cols rows kinds tags cells) {c r : Nat} (hc : c < C) (hr : r < R) : f_X8_beginsRun cells (nI c) (nI r) = some (bg cl id c r) := by
  have h16 := hV.1
  unfold f_X8_beginsRun bg
  by_cases h0 : r = 0
  · rw [if_pos (by rw [h0]; rfl)]; simp [h0]
  · rw [if_neg (nI_ne0 (by omega) (by omega)), li1, pk_sub (by omega), c_isLike hV hC hc (by omega) hr]
    simp only [Option.bind_some, ifbd]
    by_cases e : cl c (r - 1) = cl c r
    · rw [if_pos e]; simp [h0, e]
    · have e' : ¬ cl c r = cl c (r - 1) := fun q => e q.symm
      rw [if_neg e]; simp [e']
theorem c_runsOf (hV : VT R C kd cl tg) (hC : CT R C kd cl tg cols rows kinds tags cells) {c : Nat} (hc : c < C) : f_X8_runsOf rows cells (nI c) = some (nI (rin cl id c R)) := by
  have h16 := hV.1
  have := up_loop (fun n i s => L_X8_runsOf_4 rows cells (nI c) n s i) (C := R) (fun i => nI (rin cl id c i)) (res := nI (rin cl id c R))
    (fun n i hi => by
      show L_X8_runsOf_4 rows cells (nI c) (n + 1) _ _ = L_X8_runsOf_4 rows cells (nI c) n _ _
      rw [L_X8_runsOf_4, hC.2.1, if_neg (nI_ge hi (by omega)), c_beginsRun hV hC hc hi]
      simp only [Option.bind_some, ifb, nI_1]
      unfold rin
      rw [fb_ct_succ]
      by_cases h : bg cl id c i = true
      · rw [if_pos h, if_pos h]
      · rw [if_neg h, if_neg h]; rfl)
    (fun n => by
      show L_X8_runsOf_4 rows cells (nI c) (n + 1) _ _ = _
      rw [L_X8_runsOf_4, hC.2.1, if_pos (nI_le (Nat.le_refl _) (by omega))])
    R fu 0 (by omega) (fu_lt (by omega))
  unfold f_X8_runsOf
  have h0 : L_X8_runsOf_4 rows cells (nI c) fu 0 0 = _ := this
  rw [h0]
  rfl
theorem c_runsOfAll (hV : VT R C kd cl tg) (hC : CT R C kd cl tg cols rows kinds tags cells) : f_X8_runsOfAll cols rows kinds cells = some (nI (rl C kd cl id R)) := by
  have h6 := hV.2.1
  have := up_loop (fun n i s => L_X8_runsOfAll_4 cols rows kinds cells n s i) (C := C) (fun i => nI (fb_sm (fun c => if pr kd c then rin cl id c R else 0) i)) (res := nI (rl C kd cl id R))
    (fun n i hi => by
      show L_X8_runsOfAll_4 cols rows kinds cells (n + 1) _ _ = L_X8_runsOfAll_4 cols rows kinds cells n _ _
      rw [L_X8_runsOfAll_4, c_isProper hV hC hi, hC.1, if_neg (nI_ge hi (by omega)), ← hC.1, c_runsOf hV hC hi]
      simp only [Option.bind_some, ifb, nI_1, fb_sm_succ, nI_add]
      show (if pr kd i = true then _ else _) = _
      by_cases h : pr kd i = true
      · rw [if_pos h, if_pos h]
      · rw [if_neg h, if_neg h]; rfl)
    (fun n => by
      show L_X8_runsOfAll_4 cols rows kinds cells (n + 1) _ _ = _
      rw [L_X8_runsOfAll_4, hC.1, if_pos (nI_le (Nat.le_refl _) (by omega))]
      rfl)
    C fu 0 (by omega) (fu_lt (by omega))
  unfold f_X8_runsOfAll
  have h0 : L_X8_runsOfAll_4 cols rows kinds cells fu 0 0 = _ := this
  rw [h0]
  rfl
/-- the class's table of unlike cells -/
def UT (R C : Nat) (kd : Nat → Nat) (cl : Nat → Nat → Int64) (u : Nat → Int32) : Prop := ∀ r s, r < R → s < R → r ≠ s → u (r * 16 + s) = nI (unl C kd cl r s)
theorem c_read38 (hV : VT R C kd cl tg) (hC : CT R C kd cl tg cols rows kinds tags cells) {r : Nat} (hr : r < R) (u : Nat → Int32) (hu : UT r C kd cl u) : ∃ u', UT (r + 1) C kd cl u' ∧ L_X4_read_38 cols kinds cells (nI r) fu 0 u = some u' := by
  have h16 := hV.1
  exact up_ex (L_X4_read_38 cols kinds cells (nI r)) (C := r) (fun i s => UT r C kd cl s ∧ ∀ j, j < i → s (r * 16 + j) = nI (unl C kd cl r j) ∧ s (j * 16 + r) = nI (unl C kd cl r j)) (fun s => UT (r + 1) C kd cl s)
    (fun n i s hi hI => ⟨upd (upd s (r * 16 + i) (nI (unl C kd cl r i))) (i * 16 + r) (nI (unl C kd cl r i)), ⟨fun a b ha hb hab => by
        rw [upd_ne _ _ (by omega), upd_ne _ _ (by omega)]; exact hI.1 a b ha hb hab, fun j hj => by
        by_cases h : j = i
        · subst h
          exact ⟨by rw [upd_ne _ _ (by omega), upd_at], by rw [upd_at]⟩
        · obtain ⟨a1, a2⟩ := hI.2 j (by omega)
          exact ⟨by rw [upd_ne _ _ (by omega), upd_ne _ _ (by omega)]; exact a1, by rw [upd_ne _ _ (by omega), upd_ne _ _ (by omega)]; exact a2⟩⟩, by
        rw [L_X4_read_38, if_neg (nI_ge hi (by omega)), c_unlikeCells hV hC hr (by omega)]
        simp only [Option.bind_some]
        rw [li16, pk_mul, pk_mul, nI_add, nI_add, gdI (by omega) (by omega), gdI (by omega) (by omega), nI_clamp (by omega), nI_clamp (by omega), nI_1]⟩)
    (fun n s hI => ⟨s, fun a b ha hb hab => by
        by_cases h1 : a = r
        · subst h1; exact (hI.2 b (by omega)).1
        · by_cases h2 : b = r
          · subst h2; rw [unl_symm]; exact (hI.2 a (by omega)).2
          · exact hI.1 a b (by omega) (by omega) hab, by rw [L_X4_read_38, if_pos (nI_le (Nat.le_refl _) (by omega))]⟩) r fu 0 u (by omega) (fu_lt (by omega)) ⟨hu, fun j hj => by omega⟩
theorem c_read (hV : VT R C kd cl tg) (hC : CT R C kd cl tg cols rows kinds tags cells) (line u : Nat → Int32) : ∃ line' u', f_X4_read line u cols rows kinds cells = some (nI R, nI (fb_ct (pr kd) C), line', u') ∧ LN R id line' ∧ UT R C kd cl u' := by
  have h16 := hV.1
  obtain ⟨o, ⟨h1, h2⟩, h3⟩ := up_ex (fun n i (s : (Nat → Int32) × (Nat → Int32)) => L_X4_read_21 cols rows kinds cells n i s.1 s.2) (C := R) (fun i s => (∀ r, r < i → s.1 r = nI r) ∧ UT i C kd cl s.2) (fun s => (∀ r, r < R → s.1 r = nI r) ∧ UT R C kd cl s.2)
    (fun n i s hi hI => by
      obtain ⟨u', q1, q2⟩ := c_read38 hV hC hi s.2 hI.2
      refine ⟨(upd s.1 i (nI i), u'), ⟨fun r hr => ?_, q1⟩, ?_⟩
      · show upd s.1 i (nI i) r = _
        by_cases h : r = i
        · rw [h, upd_at]
        · rw [upd_ne _ _ h]; exact hI.1 r (by omega)
      · show L_X4_read_21 cols rows kinds cells (n + 1) _ _ _ = L_X4_read_21 cols rows kinds cells n _ _ _
        rw [L_X4_read_21, hC.2.1, if_neg (nI_ge hi (by omega)), gdI (by omega) (by omega), q2]
        simp only [Option.bind_some]
        rw [nI_clamp (by omega), nI_1])
    (fun n s hI => ⟨s, hI, by
        show L_X4_read_21 cols rows kinds cells (n + 1) _ _ _ = _
        rw [L_X4_read_21, hC.2.1, if_pos (nI_le (Nat.le_refl _) (by omega))]⟩) R fu 0 (line, u) (by omega) (fu_lt (by omega)) ⟨fun r hr => by omega, fun a b ha => by omega⟩
  refine ⟨o.1, o.2, ?_, h1, h2⟩
  unfold f_X4_read
  have e1 : L_X4_read_21 cols rows kinds cells fu 0 line u = _ := h3
  rw [c_properSet hV hC]
  simp only [Option.bind_some]
  rw [bc_pb _ hV.2.1]
  simp only [Option.bind_some]
  rw [e1, hC.2.1]
  rfl
theorem c_unlikeAt (hV : VT R C kd cl tg) {line u : Nat → Int32} {ln : Nat → Nat} (hL : LN R ln line) (hP : LPm R ln) (hU : UT R C kd cl u) {a b : Nat} (ha : a < R) (hb : b < R) (hab : a ≠ b) : f_X4_unlikeAt line u (nI a) (nI b) = some (nI (unl C kd cl (ln a) (ln b))) := by
  have h16 := hV.1
  have h1 := hP.1 a ha
  have h2 := hP.1 b hb
  unfold f_X4_unlikeAt
  rw [gdI (by omega) (by omega), gdI (by omega) (by omega), nI_clamp (show a < 2 ^ 31 by omega), nI_clamp (show b < 2 ^ 31 by omega), hL a ha, hL b hb, li16, pk_mul, nI_add, gdI (by omega) (by omega), nI_clamp (by omega), hU _ _ h1 h2 (fun e => hab (hP.2 a b ha hb e))]
/-- the class's runs of its line -/
theorem c_runsOfLine (hV : VT R C kd cl tg) {line u : Nat → Int32} {ln : Nat → Nat} (hL : LN R ln line) (hP : LPm R ln) (hU : UT R C kd cl u) : f_X4_runsOfLine (nI R) (nI (fb_ct (pr kd) C)) line u = some (nI (rl C kd cl ln R)) := by
  have h16 := hV.1
  by_cases h0 : R = 0
  · subst h0
    unfold f_X4_runsOfLine
    rw [if_pos (by decide)]
    simp only [Option.bind_some]
    show ((L_X4_runsOfLine_18 (nI 0) line u (4095 + 1) 0 1).bind _) = _
    rw [L_X4_runsOfLine_18, if_pos (by decide), rl_0]
    rfl
  · have := up_from (fun n i s => L_X4_runsOfLine_18 (nI R) line u n s i) (C := R) 1 (fun i => nI (rl C kd cl ln i)) (res := nI (rl C kd cl ln R))
      (fun n i h1 hi => by
        show L_X4_runsOfLine_18 (nI R) line u (n + 1) _ _ = L_X4_runsOfLine_18 (nI R) line u n _ _
        rw [L_X4_runsOfLine_18, if_neg (nI_ge hi (by omega)), show nI i - (1 : Int32) = nI (i - 1) by rw [li1, pk_sub (by omega)], c_unlikeAt hV hL hP hU (by omega) hi (by omega)]
        simp only [Option.bind_some, nI_add, nI_1, rl_step C kd cl ln (show 0 < i by omega)])
      (fun n => by
        show L_X4_runsOfLine_18 (nI R) line u (n + 1) _ _ = _
        rw [L_X4_runsOfLine_18, if_pos (nI_le (Nat.le_refl _) (by omega))])
      (R - 1) fu 1 (by omega) (by omega) (fu_lt (by omega))
    have h1 : L_X4_runsOfLine_18 (nI R) line u fu (nI (rl C kd cl ln 1)) 1 = _ := this
    unfold f_X4_runsOfLine
    rw [if_neg (nI_nle (by omega) (by omega))]
    simp only [Option.bind_some]
    rw [rl_1] at h1
    rw [h1]
    rfl
end
