/-! what is told; put, take, carries, tours, all, unlike, rank, least, runs -/
def AX (size : Int32) (numbers : Nat → Int64) (many : Int32) (row : Nat → Int64) : Prop := ∃ n, n ≤ 32 ∧ size = nI n ∧ many = nI n ∧ ∀ i, i < n → numbers i = row i
theorem li32 : (32 : Int32) = nI 32 := by decide
theorem c_add (k : Nat) (hk : k < 32) (nu : Nat → Int64) (v : Int64) : f_X0_add (nI k) nu v = some (nI (k + 1), vp_updL nu k v) := by
  unfold f_X0_add
  rw [li32, if_neg (nI_ge hk (by omega)), gdI hk (by omega), nI_clamp (by omega), nI_1]
theorem c_tell (nu : Nat → Int64) (v : Int64) : f_X0_tell nu v = some (nI 1, vp_updL nu 0 v) := by
  unfold f_X0_tell f_X0_clear
  simp only [Option.bind_some]
  rw [li0, c_add 0 (by omega)]
  rfl
theorem c_tell2 (nu : Nat → Int64) (v w : Int64) : f_X0_tell_ nu v w = some (nI 2, vp_updL (vp_updL nu 0 v) 1 w) := by
  unfold f_X0_tell_
  rw [c_tell]
  simp only [Option.bind_some]
  rw [c_add 1 (by omega)]
  rfl
theorem c_tell3 (nu : Nat → Int64) (v w x : Int64) : f_X0_tell__ nu v w x = some (nI 3, vp_updL (vp_updL (vp_updL nu 0 v) 1 w) 2 x) := by
  unfold f_X0_tell__
  rw [c_tell2]
  simp only [Option.bind_some]
  rw [c_add 2 (by omega)]
  rfl
theorem m_tell (k : Nat) (hk : k < 64) (row : Nat → Int64) (v : Int64) : f_X10_tell (nI k) row v = some (nI (k + 1), vp_updL row k v) := by
  unfold f_X10_tell
  rw [gdI hk (by omega), nI_clamp (by omega), nI_1]
theorem AX.one (nu row : Nat → Int64) (v : Int64) : AX (nI 1) (vp_updL nu 0 v) (nI 1) (vp_updL row 0 v) := ⟨1, by omega, rfl, rfl, fun i hi => by
  obtain rfl : i = 0 := by omega
  rw [updL_at, updL_at]⟩
theorem AX.two (nu row : Nat → Int64) (v w : Int64) : AX (nI 2) (vp_updL (vp_updL nu 0 v) 1 w) (nI 2) (vp_updL (vp_updL row 0 v) 1 w) := ⟨2, by omega, rfl, rfl, fun i hi => by
  rcases (show i = 0 ∨ i = 1 by omega) with rfl | rfl <;> simp [vp_updL]⟩
theorem AX.three (nu row : Nat → Int64) (v w x : Int64) : AX (nI 3) (vp_updL (vp_updL (vp_updL nu 0 v) 1 w) 2 x) (nI 3) (vp_updL (vp_updL (vp_updL row 0 v) 1 w) 2 x) := ⟨3, by omega, rfl, rfl, fun i hi => by
  rcases (show i = 0 ∨ i = 1 ∨ i = 2 by omega) with rfl | rfl | rfl <;> simp [vp_updL]⟩
theorem rl_take (C : Nat) (kd : Nat → Nat) (cl : Nat → Nat → Int64) (ln : Nat → Nat) (R : Nat) : rl C kd (fun c r => cl c (ln r)) id R = rl C kd cl ln R := rfl
theorem blk_c (x : Int32) : f_X9_isBlock x = f_X10_in x 2 16 := by
  unfold f_X9_isBlock f_X10_in
  rfl
theorem blk_of (x : Int32) : f_X10_in x 2 16 = some false ∨ (f_X10_in x 2 16 = some true ∧ ∃ b, 2 ≤ b ∧ b ≤ 16 ∧ x = nI b) := by
  rw [f_in]
  by_cases h1 : x < 2
  · left; simp [h1]
  · by_cases h2 : 16 < x
    · left; simp [h1, h2]
    · right
      refine ⟨by simp [h1, h2], ?_⟩
      rw [Int32.lt_iff_toInt_lt] at h1 h2
      have e1 : (2 : Int32).toInt = 2 := by decide
      have e2 : (16 : Int32).toInt = 16 := by decide
      obtain ⟨j, hj, rfl⟩ := nI_of (x := x) (by rw [Int32.lt_iff_toInt_lt]; have : (0 : Int32).toInt = 0 := by decide
                                                omega)
      rw [nI_toInt hj] at h1 h2
      exact ⟨j, by omega, by omega, rfl⟩
section
variable {R C : Nat} {kd : Nat → Nat} {cl : Nat → Nat → Int64} {tg : Nat → Nat} {now : Nat → Int64} {cols rows : Int32} {kinds tags : Nat → Int32} {cells : Nat → Int64}
/-- tours: both sides, in a block's size that there is -/
theorem tour_in (hV : VT R C kd cl tg) (hC : CT R C kd cl tg cols rows kinds tags cells) (hM : MT R C kd cl tg now) {b : Nat} (hb : 2 ≤ b) (hb2 : b ≤ 16) (lr lp : Int32) (line bef lt un : Nat → Int32) (lc : Nat → Int64) (row : Nat → Int64) (rks dis pro lm lthn : Nat → Int32) (thn : Nat → Int64) :
    ∃ oc om e v, f_X9_tourTold cols rows kinds tags cells lr lp line bef lt lc un (nI b) = some oc ∧ f_X10_goTours now row rks dis pro lm thn lthn (nI b) = some om ∧ oc.1 = nI e ∧ om.1 = nI e ∧ e ≤ 16 ∧ TT cols rows kinds oc.2.1 oc.2.2.1 om.2.2.2.1 ∧ f_X8_runsOfAll cols rows kinds oc.2.2.1 = some v ∧ om.2.1 = nI 1 ∧ om.2.2.2.2.1 = vp_updL row 0 v.toInt64 := by
  have h16 := hV.1
  have h6 := hV.2.1
  obtain ⟨l1, u1, r1, r2, r3⟩ := c_read hV hC line un
  obtain ⟨many, rks', dis', pro', lm', n1, n2, n3, n4⟩ := m_layLine hV hM rks dis pro lm
  obtain ⟨cnt, f, l2, lm2, bef', lthn', p0, p1, p2, p3, p4, p5⟩ := tourN hV hM n2 n3 r3 hb hb2 R fu 0 0 l1 lm' bef lthn id (by omega) (by omega) (fu_lt (by omega)) r2 n4 (LPm.id R)
  obtain ⟨lt', lc', tags', cells', k1, k2⟩ := c_carryOut hV hC p3 p5 lt lc
  obtain ⟨now', thn', m1, m2⟩ := m_takeLine hV hM p4 p5 thn
  have hmv2 : mvd R f ≤ R := fb_ct_le _ _
  have hV' := hV.line p5
  refine ⟨(nI cnt, tags', cells', nI R, nI (fb_ct (pr kd) C), l2, bef', lt', lc', u1), (nI cnt, nI 1, many, now', vp_updL row 0 (nI (rl C kd cl f R)).toInt64, rks', dis', pro', lm2, thn', lthn'), cnt, nI (rl C kd cl f R), ?_, ?_, rfl, rfl, by omega, ⟨R, C, kd, _, _, hV', k2, m2⟩, ?_, rfl, rfl⟩
  · unfold f_X9_tourTold f_X4_tourBlocks
    rw [blk_c, f_in, r1]
    have e1 : (decide (¬ nI b < 2) && decide (¬ (16 : Int32) < nI b)) = true := by
      rw [li2, li16, Bool.and_eq_true, decide_eq_true_iff, decide_eq_true_iff]
      exact ⟨nI_nlt hb (by omega), nI_nlt hb2 (by omega)⟩
    rw [e1]
    simp only [Option.bind_some, ifbt]
    rw [show (0 : Int32) = nI 0 from li0, p1]
    simp only [Option.bind_some]
    rw [k1]
    rfl
  · unfold f_X10_goTours f_X10_tourAll
    rw [n1]
    simp only [Option.bind_some]
    rw [show (0 : Int32) = nI 0 from li0, p2]
    simp only [Option.bind_some]
    rw [m_runsOfLine hV hM n2 n3 p4 p5]
    simp only [Option.bind_some]
    rw [m_tell 0 (by omega)]
    simp only [Option.bind_some]
    rw [m1]
    simp only [Option.bind_some]
    rw [if_neg (by rw [← li0]; exact nI_pos (by omega))]
  · rw [c_runsOfAll hV' k2, rl_take]
/-- how many cells are like this one: both sides -/
theorem like_both (hV : VT R C kd cl tg) (hC : CT R C kd cl tg cols rows kinds tags cells) (hM : MT R C kd cl tg now) {c r : Nat} (hc : c < C) (hr : r < R) : ∃ v, L_X9_rank_55 rows cells (nI c) (nI r) fu 0 0 = some v ∧ L_X10_rank_39 now (nI c) (nI r) fu 0 0 = some v := by
  have h16 := hV.1
  refine ⟨nI (fb_ct (fun k => decide (cl c k = cl c r)) R), ?_, ?_⟩
  · exact up_loop (fun n i s => L_X9_rank_55 rows cells (nI c) (nI r) n s i) (C := R) (fun i => nI (fb_ct (fun k => decide (cl c k = cl c r)) i))
      (fun n i hi => by
        show L_X9_rank_55 rows cells (nI c) (nI r) (n + 1) _ _ = L_X9_rank_55 rows cells (nI c) (nI r) n _ _
        rw [L_X9_rank_55, hC.2.1, if_neg (nI_ge hi (by omega)), c_isLike hV hC hc hr hi]
        simp only [Option.bind_some, ifbd, nI_1, fb_ct_succ]
        by_cases h : cl c r = cl c i
        · rw [if_pos h]; simp [h]
        · have h' : ¬ cl c i = cl c r := fun q => h q.symm
          rw [if_neg h]; simp [h'])
      (fun n => by
        show L_X9_rank_55 rows cells (nI c) (nI r) (n + 1) _ _ = _
        rw [L_X9_rank_55, hC.2.1, if_pos (nI_le (Nat.le_refl _) (by omega))])
      R fu 0 (by omega) (fu_lt (by omega))
  · exact up_loop (fun n i s => L_X10_rank_39 now (nI c) (nI r) n s i) (C := R) (fun i => nI (fb_ct (fun k => decide (cl c k = cl c r)) i))
      (fun n i hi => by
        show L_X10_rank_39 now (nI c) (nI r) (n + 1) _ _ = L_X10_rank_39 now (nI c) (nI r) n _ _
        rw [L_X10_rank_39, m_rows hM]
        simp only [Option.bind_some]
        rw [if_neg (nI_ge hi (by omega)), m_cell hV hM hc hi, m_cell hV hM hc hr]
        simp only [Option.bind_some, lg_cmp_eq, nI_1, fb_ct_succ]
        by_cases h : cl c i = cl c r
        · rw [if_pos h]; simp [h]
        · rw [if_neg h]; simp [h, li0, nI_add])
      (fun n => by
        show L_X10_rank_39 now (nI c) (nI r) (n + 1) _ _ = _
        rw [L_X10_rank_39, m_rows hM]
        simp only [Option.bind_some]
        rw [if_pos (nI_le (Nat.le_refl _) (by omega))])
      R fu 0 (by omega) (fu_lt (by omega))
/-- the sum of unlike cells -/
def lst (R C : Nat) (kd : Nat → Nat) (cl : Nat → Nat → Int64) : Nat := fb_sm (fun c => if pr kd c then dst R cl c else 0) C
theorem c_least (hV : VT R C kd cl tg) (hC : CT R C kd cl tg cols rows kinds tags cells) {o : (Nat → Int32) × (Nat → Int32) × (Nat → Int64) × (Nat → Int32)} (hRC : ∀ c, c < C → kd c ≤ 10 → RC R kd cl o.1 o.2.1 c) : L_X9_least_15 cols kinds o fu 0 0 = some (nI (lst R C kd cl)) := by
  have h6 := hV.2.1
  exact up_loop (fun n i s => L_X9_least_15 cols kinds o n s i) (C := C) (fun i => nI (fb_sm (fun c => if pr kd c then dst R cl c else 0) i))
    (fun n i hi => by
      show L_X9_least_15 cols kinds o (n + 1) _ _ = L_X9_least_15 cols kinds o n _ _
      rw [L_X9_least_15, c_isProper hV hC hi, hC.1, if_neg (nI_ge hi (by omega)), gdI (by omega) (by omega), nI_clamp (by omega)]
      simp only [Option.bind_some, ifb, nI_1, fb_sm_succ]
      show (if pr kd i = true then _ else _) = _
      by_cases h : pr kd i = true
      · rw [if_pos h, if_pos h, (hRC i hi (of_decide_eq_true h)).1, nI_add]
      · rw [if_neg h, if_neg h]; rfl)
    (fun n => by
      show L_X9_least_15 cols kinds o (n + 1) _ _ = _
      rw [L_X9_least_15, hC.1, if_pos (nI_le (Nat.le_refl _) (by omega))]
      rfl)
    C fu 0 (by omega) (fu_lt (by omega))
theorem m_least (hV : VT R C kd cl tg) {o : Int32 × Int32 × (Nat → Int32) × (Nat → Int32) × (Nat → Int32) × (Nat → Int32)} (hRC : ∀ c, c < C → kd c ≤ 10 → RC R kd cl o.2.2.2.1 o.2.2.1 c) (hPL : PL C kd o.2.1 o.2.2.2.2.1) : L_X10_least_14 o fu 0 0 = some (nI (lst R C kd cl)) := by
  have h6 := hV.2.1
  have hle := fb_ct_le (pr kd) C
  exact prop_loop (fun n i a => L_X10_least_14 o n a i) (pr kd) (C := C) (fun c => nI (fb_sm (fun c => if pr kd c then dst R cl c else 0) c))
    (fun n c hc hp => by
      have hp' : kd c ≤ 10 := of_decide_eq_true hp
      have hlt : fb_ct (pr kd) c < fb_ct (pr kd) C := by
        have h1 := fb_ct_mono (pr kd) (show c + 1 ≤ C by omega)
        rw [fb_ct_succ, if_pos hp] at h1
        omega
      show L_X10_least_14 o (n + 1) _ _ = L_X10_least_14 o n _ _
      rw [L_X10_least_14, hPL.1, if_neg (nI_ge hlt (by omega)), gdI (by omega) (by omega), nI_clamp (show fb_ct (pr kd) c < 2 ^ 31 by omega), hPL.2 c hc hp', gdI (by omega) (by omega), nI_clamp (by omega), (hRC c hc hp').1]
      simp only [nI_add, nI_1, fb_sm_succ, if_pos hp])
    (fun c hc hp => by rw [fb_sm_succ, if_neg (by simp [hp])]; rfl)
    (fun n => by
      show L_X10_least_14 o (n + 1) _ _ = _
      rw [L_X10_least_14, hPL.1, if_pos (nI_le (Nat.le_refl _) (by omega))]
      rfl)
    C fu 0 (by omega) (fu_lt (by omega))
/-- the longest run and where it begins: both sides -/
theorem longest (hV : VT R C kd cl tg) (hC : CT R C kd cl tg cols rows kinds tags cells) (hM : MT R C kd cl tg now) {c : Nat} (hc : c < C) : ∀ (k n i lg b : Nat) (fs : Int32), i + k = R → k < n → b ≤ i → lg ≤ R → ∃ (lg' : Nat) (fs' : Int32), L_X9_runs_51 rows cells (nI c) n (nI lg) fs (nI b) (nI i) = some (nI lg', fs') ∧ L_X10_runs_40 now (nI c) n (nI lg) fs (nI (i - b)) (nI i) = some (nI lg', fs') := by
  have h16 := hV.1
  intro k
  induction k with
  | zero =>
    intro n i lg b fs h1 h2 h3 h4
    obtain ⟨n, rfl⟩ : ∃ n', n = n' + 1 := ⟨n - 1, by omega⟩
    obtain rfl : i = R := by omega
    refine ⟨lg, fs, ?_, ?_⟩
    · rw [L_X9_runs_51, hC.2.1, if_pos (nI_le (Nat.le_refl _) (by omega))]
    · rw [L_X10_runs_40, m_rows hM]
      simp only [Option.bind_some]
      rw [if_pos (nI_le (Nat.le_refl _) (by omega))]
  | succ k ih =>
    intro n i lg b fs h1 h2 h3 h4
    obtain ⟨n, rfl⟩ : ∃ n', n = n' + 1 := ⟨n - 1, by omega⟩
    have hi : i < R := by omega
    obtain ⟨b', hb', eC, eM⟩ : ∃ b', b' ≤ i ∧ (if b2i (bg cl id c i) = 0 then some (nI b) else some (nI i)) = some (nI b') ∧ (if nI i ≤ 0 then (some (1 : Int32)) else ((f_X10_cell now (nI c) (nI i)).bind (fun o_801 => ((f_X10_cell now (nI c) (nI i - (1 : Int32))).bind (fun o_803 => (((if (lg_cmp o_801 o_803) = 0 then (some (nI (i - b) + (1 : Int32))) else (some (1 : Int32)))).bind (fun v_805 => (some v_805)))))))) = some (nI (i + 1 - b')) := by
      rw [ifb]
      by_cases h0 : i = 0
      · refine ⟨i, Nat.le_refl _, ?_, ?_⟩
        · rw [if_pos (by simp [bg, h0])]
        · rw [if_pos (by rw [h0]; decide), show i + 1 - i = 1 by omega]; rfl
      · rw [if_neg (nI_nle (by omega) (by omega)), m_cell hV hM hc hi, show nI i - (1 : Int32) = nI (i - 1) by rw [li1, pk_sub (by omega)], m_cell hV hM hc (by omega)]
        simp only [Option.bind_some, lg_cmp_eq, nI_1]
        by_cases h : cl c i = cl c (i - 1)
        · refine ⟨b, h3, ?_, ?_⟩
          · rw [if_neg (by simp [bg, h0, h])]
          · rw [if_pos h, show i + 1 - b = i - b + 1 by omega]; rfl
        · refine ⟨i, Nat.le_refl _, ?_, ?_⟩
          · rw [if_pos (by simp [bg, h])]
          · rw [if_neg h, show i + 1 - i = 1 by omega]; rfl
    have e1 : nI i - nI b' + (1 : Int32) = nI (i + 1 - b') := by
      rw [pk_sub hb', nI_1]; congr 1; omega
    have e2 : nI i + (1 : Int32) - nI (i + 1 - b') = nI b' := by
      rw [nI_1, pk_sub (by omega)]; congr 1; omega
    by_cases hlt : lg < i + 1 - b'
    · obtain ⟨lg', fs', q1, q2⟩ := ih n (i + 1) (i + 1 - b') b' (nI b') (by omega) (by omega) (by omega) (by omega)
      refine ⟨lg', fs', ?_, ?_⟩
      · rw [L_X9_runs_51, hC.2.1, if_neg (nI_ge hi (by omega)), c_beginsRun hV hC hc hi]
        simp only [Option.bind_some]
        rw [eC]
        simp only [Option.bind_some]
        rw [e1, if_neg (nI_ge hlt (by omega)), nI_1, ← hC.2.1]
        exact q1
      · rw [L_X10_runs_40, m_rows hM]
        simp only [Option.bind_some]
        rw [if_neg (nI_ge hi (by omega)), eM]
        simp only [Option.bind_some]
        rw [e2, if_pos (nI_lt hlt (by omega)), nI_1]
        exact q2
    · obtain ⟨lg', fs', q1, q2⟩ := ih n (i + 1) lg b' fs (by omega) (by omega) (by omega) (by omega)
      refine ⟨lg', fs', ?_, ?_⟩
      · rw [L_X9_runs_51, hC.2.1, if_neg (nI_ge hi (by omega)), c_beginsRun hV hC hc hi]
        simp only [Option.bind_some]
        rw [eC]
        simp only [Option.bind_some]
        rw [e1, if_pos (nI_le (by omega) (by omega)), nI_1, ← hC.2.1]
        exact q1
      · rw [L_X10_runs_40, m_rows hM]
        simp only [Option.bind_some]
        rw [if_neg (nI_ge hi (by omega)), eM]
        simp only [Option.bind_some]
        rw [if_neg (nI_nlt (by omega) (by omega)), nI_1]
        exact q2
end
section
variable {next size undoMany cols rows asz amany : Int32} {sk st : Nat → Nat → Int32} {sc : Nat → Nat → Int64} {scol srow kinds tags : Nat → Int32} {undos cells now nu row : Nat → Int64}
theorem op_tours (hT : TT cols rows kinds tags cells now) (hU : UX next size sk st sc scol srow undoMany undos) (hA : AX asz nu amany row) (lr lp : Int32) (line bef lt un : Nat → Int32) (lc : Nat → Int64) (pm : Int32) (rks dis pro lm lthn : Nat → Int32) (thn was : Nat → Int64) (x : Int32) :
    ∃ oc om, f_X9_tours cols rows kinds tags cells next size sk st sc scol srow asz nu lr lp line bef lt lc un x = some oc ∧ f_X10_tours amany pm undoMany now row rks dis pro lm thn lthn undos was x = some om ∧ oc.1 = om.1 ∧
      TT cols rows kinds oc.2.1 oc.2.2.1 om.2.2.2.2.2.1 ∧ UX oc.2.2.2.1 oc.2.2.2.2.1 oc.2.2.2.2.2.1 oc.2.2.2.2.2.2.1 oc.2.2.2.2.2.2.2.1 oc.2.2.2.2.2.2.2.2.1 oc.2.2.2.2.2.2.2.2.2.1 om.2.2.2.2.1 om.2.2.2.2.2.2.2.2.2.2.2.2.2.1 ∧
      AX oc.2.2.2.2.2.2.2.2.2.2.1 oc.2.2.2.2.2.2.2.2.2.2.2.1 om.2.1 om.2.2.2.2.2.2.1 := by
  obtain ⟨sk', st', sc', scol', srow', next', size', um', un', was', -, c1, c2, c3, c4, c5, c6, c7⟩ := chg hT hU was
  obtain ⟨R, C, kd, cl, tg, hV, hC, hM⟩ := id hT
  rcases blk_of x with hx | ⟨hx, b, hb, hb2, rfl⟩
  · refine ⟨(-1, tags, cells, next, size, sk', st', sc', scol', srow', asz, nu, lr, lp, line, bef, lt, lc, un), (-1, amany, 0, pm, undoMany, now, row, rks, dis, pro, lm, thn, lthn, undos, was), ?_, ?_, rfl, hT, c7, hA⟩
    · unfold f_X9_tours f_X9_tourTold
      rw [c1, blk_c, hx]
      simp only [Option.bind_some, ifbf]
      rw [held_no (by decide)]
      rfl
    · unfold f_X10_tours
      rw [hx]
      rfl
  · obtain ⟨oc, om, e, v, q1, q2, q3, q4, q5, q6, q7, q8, q9⟩ := tour_in hV hC hM hb hb2 lr lp line bef lt un lc row rks dis pro lm lthn thn
    refine ⟨(nI e, oc.2.1, oc.2.2.1, next', size', sk', st', sc', scol', srow', nI 1, vp_updL nu 0 v.toInt64, oc.2.2.2.1, oc.2.2.2.2.1, oc.2.2.2.2.2.1, oc.2.2.2.2.2.2.1, oc.2.2.2.2.2.2.2.1, oc.2.2.2.2.2.2.2.2.1, oc.2.2.2.2.2.2.2.2.2), (nI e, nI 1, 0, om.2.2.1, um', om.2.2.2.1, vp_updL row 0 v.toInt64, om.2.2.2.2.2.1, om.2.2.2.2.2.2.1, om.2.2.2.2.2.2.2.1, om.2.2.2.2.2.2.2.2.1, om.2.2.2.2.2.2.2.2.2.1, om.2.2.2.2.2.2.2.2.2.2, un', was'), ?_, ?_, rfl, q6, c6, AX.one _ _ _⟩
    · unfold f_X9_tours
      rw [c1]
      simp only [Option.bind_some]
      rw [q1]
      simp only [Option.bind_some]
      rw [q3, held_yes (by omega) c2]
      simp only [Option.bind_some]
      rw [if_neg (nI_pos (by omega)), q7]
      simp only [Option.bind_some]
      rw [c_tell]
      rfl
    · unfold f_X10_tours
      rw [hx]
      simp only [Option.bind_some, ifbt]
      rw [c5]
      simp only [Option.bind_some]
      rw [q2]
      simp only [Option.bind_some]
      rw [q4, q8, q9]
theorem all_ev {a b : Nat} (h : a * b ≤ 96) : (nI a * nI b).toInt64 = lN a * lN b := by rw [pk_mul, nI_l (show a * b < 2 ^ 31 by omega), lN_mul]
theorem op_all (hT : TT cols rows kinds tags cells now) (nu row : Nat → Int64) (rks dis pro lm : Nat → Int32) : ∃ oc om, f_X9_all cols rows kinds cells nu = some oc ∧ f_X10_all now row rks dis pro lm = some om ∧ oc.1 = om.1 ∧ AX oc.2.1 oc.2.2 om.2.1 om.2.2.2.2.1 := by
  obtain ⟨R, C, kd, cl, tg, hV, hC, hM⟩ := hT
  have h16 := hV.1
  have h6 := hV.2.1
  have hle := fb_ct_le (pr kd) C
  obtain ⟨many, rks', dis', pro', lm', n1, n2, n3, n4⟩ := m_runsNow hV hM rks dis pro lm
  have hpr : fb_ct (pr kd) C * R ≤ 96 := Nat.le_trans (Nat.mul_le_mul (Nat.le_trans hle h6) h16) (by decide)
  have ev : (nI (fb_ct (pr kd) C) * nI R).toInt64 = lN (fb_ct (pr kd) C) * lN R := all_ev hpr
  have hc : f_X9_all cols rows kinds cells nu = some (nI (rl C kd cl id R), nI 2, vp_updL (vp_updL nu 0 (pb (pr kd) C).toInt64) 1 (lN (fb_ct (pr kd) C) * lN R)) := by
    unfold f_X9_all
    rw [c_properSet hV hC, Option.bind_some, bc_pb _ h6, Option.bind_some, c_runsOfAll hV hC, hC.2.1, ev, c_tell2, Option.bind_some, Option.bind_some]
  have hm : f_X10_all now row rks dis pro lm = some (nI (rl C kd cl id R), nI 2, 0, many, vp_updL (vp_updL row 0 (pb (pr kd) C).toInt64) 1 (lN (fb_ct (pr kd) C) * lN R), rks', dis', pro', lm') := by
    unfold f_X10_all
    rw [n1, Option.bind_some, m_properBits hV hM, Option.bind_some, li0, m_tell 0 (by omega), Option.bind_some, m_rows hM, Option.bind_some, n3.1, nI_l (show fb_ct (pr kd) C < 2 ^ 31 by omega), nI_l (show R < 2 ^ 31 by omega), m_tell 1 (by omega), Option.bind_some]
  exact ⟨_, _, hc, hm, rfl, AX.two _ _ _ _⟩
theorem op_unlike (hT : TT cols rows kinds tags cells now) (pm : Int32) (rks dis pro lm : Nat → Int32) (x y : Int32) : ∃ r om, f_X9_unlike cols rows kinds cells x y = some r ∧ f_X10_unlike pm now rks dis pro lm x y = some om ∧ r = om.1 := by
  obtain ⟨R, C, kd, cl, tg, hV, hC, hM⟩ := hT
  have h16 := hV.1
  unfold f_X9_unlike f_X10_unlike
  rw [m_isRow hV hM, m_isRow hV hM, hC.2.1, c_hasRow, c_hasRow]
  by_cases hx : ixd x R = true
  · by_cases hy : ixd y R = true
    · obtain ⟨a, ha, rfl⟩ := ixd_of (by omega) hx
      obtain ⟨b, hb, rfl⟩ := ixd_of (by omega) hy
      obtain ⟨many, rks', dis', pro', lm', n1, n2, n3, n4⟩ := m_layLine hV hM rks dis pro lm
      rw [hx, hy, n1]
      simp only [Option.bind_some, ifbt]
      rw [c_unlikeCells hV hC ha hb, m_unlikeOf hV n2 n3 ha hb]
      exact ⟨_, _, rfl, rfl, rfl⟩
    · have hy' : ixd y R = false := by simpa using hy
      rw [hx, hy']
      exact ⟨_, _, rfl, rfl, rfl⟩
  · have hx' : ixd x R = false := by simpa using hx
    rw [hx']
    exact ⟨_, _, rfl, rfl, rfl⟩
theorem c_of (hV : True) {rks dis : Nat → Int32} {R : Nat} {kd : Nat → Nat} {cl : Nat → Nat → Int64} {c r : Nat} (hc : c < 6) (hr : r < R) (hR : R ≤ 16) (h : RC R kd cl dis rks c) : f_X6_of rks (nI c) (nI r) = some (nI (rk R kd cl c r)) := by
  unfold f_X6_of
  rw [li16, pk_mul, nI_add, gdI (by omega) (by omega), nI_clamp (by omega), h.2 r hr]
theorem op_rank (hT : TT cols rows kinds tags cells now) (hA : AX asz nu amany row) (rd rr : Nat → Int32) (rw' : Nat → Int64) (rf : Nat → Int32) (x y : Int32) : ∃ oc om, f_X9_rank cols rows kinds cells asz nu rd rr rw' rf x y = some oc ∧ f_X10_rank amany now row x y = some om ∧ oc.1 = om.1 ∧ AX oc.2.1 oc.2.2.1 om.2.1 om.2.2.2 := by
  obtain ⟨R, C, kd, cl, tg, hV, hC, hM⟩ := hT
  have h16 := hV.1
  have h6 := hV.2.1
  unfold f_X9_rank f_X10_rank
  rw [m_isCol hV hM, m_isRow hV hM, hC.1, c_hasCol hV, ← hC.1, hC.2.1, c_hasRow, ← hC.2.1]
  by_cases hx : ixd x C = true
  · by_cases hy : ixd y R = true
    · obtain ⟨c, hc, rfl⟩ := ixd_of (by omega) hx
      obtain ⟨r, hr, rfl⟩ := ixd_of (by omega) hy
      rw [hx, hy, c_isProper hV hC hc, m_isProper hV hM hc]
      simp only [Option.bind_some, ifbt, ifbd]
      by_cases hp : kd c ≤ 10
      · rw [if_pos hp, if_pos hp]
        obtain ⟨d', r', w', f', q1, q2, q3, q4⟩ := c_readColumn hV hC hc hp rd rr rw' rf
        obtain ⟨v, v1, v2⟩ := like_both hV hC hM hc hr
        rw [q1]
        simp only [Option.bind_some]
        rw [v1, v2]
        simp only [Option.bind_some]
        rw [c_tell, li0, m_tell 0 (by omega)]
        simp only [Option.bind_some]
        rw [c_of trivial (by omega) hr h16 q2, m_rankOf hV hM hc hr hp]
        exact ⟨_, _, rfl, rfl, rfl, AX.one _ _ _⟩
      · rw [if_neg hp, if_neg hp]
        exact ⟨_, _, rfl, rfl, rfl, hA⟩
    · have hy' : ixd y R = false := by simpa using hy
      rw [hx, hy']
      exact ⟨_, _, rfl, rfl, rfl, hA⟩
  · have hx' : ixd x C = false := by simpa using hx
    rw [hx']
    exact ⟨_, _, rfl, rfl, rfl, hA⟩
theorem op_least (hT : TT cols rows kinds tags cells now) (nu row : Nat → Int64) (rd rr : Nat → Int32) (rw' : Nat → Int64) (rf : Nat → Int32) (rks dis pro lm : Nat → Int32) : ∃ oc om, f_X9_least cols rows kinds cells nu rd rr rw' rf = some oc ∧ f_X10_least now row rks dis pro lm = some om ∧ oc.1 = om.1 ∧ AX oc.2.1 oc.2.2.1 om.2.1 om.2.2.2.2.1 := by
  obtain ⟨R, C, kd, cl, tg, hV, hC, hM⟩ := hT
  obtain ⟨many, rks', dis', pro', lm', n1, n2, n3, n4⟩ := m_runsNow hV hM rks dis pro lm
  obtain ⟨d', r', w', f', q1, q2⟩ := c_readAll hV hC rd rr rw' rf
  unfold f_X9_least f_X10_least
  rw [q1, n1]
  simp only [Option.bind_some]
  rw [c_least hV hC (o := (d', r', w', f')) q2, m_least hV (o := (nI (rl C kd cl id R), many, rks', dis', pro', lm')) n2 n3]
  simp only [Option.bind_some]
  rw [c_runsOfAll hV hC]
  simp only [Option.bind_some]
  rw [c_tell, li0, m_tell 0 (by omega)]
  exact ⟨_, _, rfl, rfl, rfl, AX.one _ _ _⟩
theorem op_runs (hT : TT cols rows kinds tags cells now) (hA : AX asz nu amany row) (rd rr : Nat → Int32) (rw' : Nat → Int64) (rf : Nat → Int32) (pm : Int32) (rks dis pro lm : Nat → Int32) (x : Int32) : ∃ oc om, f_X9_runs cols rows kinds cells asz nu rd rr rw' rf x = some oc ∧ f_X10_runs amany pm now row rks dis pro lm x = some om ∧ oc.1 = om.1 ∧ AX oc.2.1 oc.2.2.1 om.2.1 om.2.2.2.2.1 := by
  obtain ⟨R, C, kd, cl, tg, hV, hC, hM⟩ := hT
  have h16 := hV.1
  have h6 := hV.2.1
  unfold f_X9_runs f_X10_runs
  rw [m_isCol hV hM]
  by_cases hx : ixd x C = true
  · obtain ⟨c, hc, rfl⟩ := ixd_of (by omega) hx
    rw [hx, c_isProper hV hC hc, m_isProper hV hM hc]
    simp only [Option.bind_some, ifbt, ifbd]
    by_cases hp : kd c ≤ 10
    · rw [if_pos hp, if_pos hp]
      obtain ⟨d', r', w', f', q1, q2, q3, q4⟩ := c_readColumn hV hC hc hp rd rr rw' rf
      obtain ⟨many, rks', dis', pro', lm', n1, n2, n3, n4⟩ := m_layLine hV hM rks dis pro lm
      obtain ⟨lg, fs, v1, v2⟩ := longest hV hC hM hc R fu 0 0 0 (-1) (by omega) (fu_lt (by omega)) (by omega) (by omega)
      rw [q1, n1]
      simp only [Option.bind_some]
      have v1' : L_X9_runs_51 rows cells (nI c) fu 0 (-1) 0 0 = _ := v1
      have v2' : L_X10_runs_40 now (nI c) fu 0 (-1) 0 0 = _ := v2
      rw [v1', v2']
      simp only [Option.bind_some]
      rw [gdI (by omega) (by omega), gdI (by omega) (by omega), nI_clamp (by omega), q2.1, (n2 c hc hp).1, c_tell3, li0, m_tell 0 (by omega)]
      simp only [Option.bind_some]
      rw [m_tell 1 (by omega)]
      simp only [Option.bind_some]
      rw [m_tell 2 (by omega)]
      simp only [Option.bind_some]
      rw [c_runsOf hV hC hc, m_runsIn hV hM (show LN R id lm' from n4) (LPm.id R) hc hp (n2 c hc hp)]
      exact ⟨_, _, rfl, rfl, rfl, AX.three _ _ _ _ _⟩
    · rw [if_neg hp, if_neg hp, hC.1, c_hasCol hV, ixd_nI (by omega) hc]
      exact ⟨_, _, rfl, rfl, rfl, hA⟩
  · have hx' : ixd x C = false := by simpa using hx
    rw [hx', c_isProper0 hV hC hx', hC.1, c_hasCol hV, hx']
    exact ⟨_, _, rfl, rfl, rfl, hA⟩
end
