/-! swaps, moves, restores, tours -/
theorem add_sub_i (x y z : Int32) : x + (y - z) = x + y - z := by rw [Int32.sub_eq_add_neg, ← Int32.add_assoc, ← Int32.sub_eq_add_neg]
theorem li1000 : (1000 : Int32) = nI 1000 := by decide
section
variable {next size undoMany cols rows : Int32} {sk st : Nat → Nat → Int32} {sc : Nat → Nat → Int64} {scol srow kinds tags : Nat → Int32} {undos cells now : Nat → Int64}
/-- noted, then held: both sides -/
theorem chg (hT : TT cols rows kinds tags cells now) (hU : UX next size sk st sc scol srow undoMany undos) (was : Nat → Int64) : ∃ (sk' st' : Nat → Nat → Int32) (sc' : Nat → Nat → Int64) (scol' srow' : Nat → Int32) (next' size' um' : Int32) (un' was' was2 : Nat → Int64),
    f_X5_note next sk st sc scol srow cols rows kinds tags cells = some (sk', st', sc', scol', srow') ∧ f_X5_hold next size = some (next', size') ∧ f_X10_lay now was = some was' ∧ f_X10_note undoMany undos was' = some (um', un') ∧ f_X10_change undoMany now undos was = some (um', un', was') ∧
    UX next' size' sk' st' sc' scol' srow' um' un' ∧ UX next size sk' st' sc' scol' srow' undoMany undos := by
  obtain ⟨sk', st', sc', scol', srow', h1, h2, h3⟩ := hU.note cols rows kinds tags cells
  obtain ⟨w, hw1, hw2⟩ := m_lay now was
  obtain ⟨next', size', um', un', q1, q2, q3⟩ := h2.hold (was := w) (h3 w (hT.congM hw1))
  refine ⟨sk', st', sc', scol', srow', next', size', um', un', w, w, h1, q1, hw2, q2, ?_, q3, h2⟩
  unfold f_X10_change
  rw [hw2]
  simp only [Option.bind_some]
  rw [q2]
  rfl
theorem held_yes {e : Nat} (he : e < 2 ^ 31) {next' size' : Int32} (h : f_X5_hold next size = some (next', size')) : f_X9_heldIfDone next size (nI e) = some (nI e, next', size') := by
  unfold f_X9_heldIfDone
  rw [if_neg (nI_pos he), h]
  rfl
theorem held_no {x : Int32} (hx : x < 0) : f_X9_heldIfDone next size x = some (x, next, size) := by
  unfold f_X9_heldIfDone
  rw [if_pos hx]
end
section
variable {R C : Nat} {kd : Nat → Nat} {cl : Nat → Nat → Int64} {tg : Nat → Nat} {now : Nat → Int64} {cols rows : Int32} {kinds tags : Nat → Int32} {cells : Nat → Int64}
/-- rows arranged by a line that both sides have -/
theorem move_in (hV : VT R C kd cl tg) (hC : CT R C kd cl tg cols rows kinds tags cells) (hM : MT R C kd cl tg now) {a b : Nat} (ha : a < R) (hb : b < R) (hab : a ≠ b) (sw : Bool) (lr lp : Int32) (line lt un : Nat → Int32) (lc : Nat → Int64) (rks dis pro lm : Nat → Int32) (thn : Nat → Int64) :
    ∃ oc om e, f_X9_moveTold cols rows kinds tags cells lr lp line lt lc un (nI a) (nI b) (b2i sw) = some oc ∧ f_X10_arrange now rks dis pro lm thn (nI a) (nI b) (b2i (!sw)) = some om ∧ oc.1 = nI e ∧ (1000 : Int32) + om.1 = nI e ∧ e ≤ 1096 ∧ om.1 < 120 ∧ TT cols rows kinds oc.2.1 oc.2.2.1 om.2.2.1 := by
  have h16 := hV.1
  have h6 := hV.2.1
  obtain ⟨l1, u1, r1, r2, r3⟩ := c_read hV hC line un
  obtain ⟨many, rks', dis', pro', lm', n1, n2, n3, n4⟩ := m_runsNow hV hM rks dis pro lm
  -- the new line
  obtain ⟨f, hf1, hf2, hf3, hf4, hf5⟩ : ∃ f : Nat → Nat, (∀ r, r < R → f r < R) ∧ (∀ r s, r < R → s < R → f r = f s → r = s) ∧ f b ≠ b ∧ (if b2i sw = 0 then ((f_X4_shift l1 (nI a) (nI b)).bind (fun o => some o)) else ((f_X4_exchange l1 (nI a) (nI b)).bind (fun o => some o))) = some (fun r => l1 (f r)) ∧ (if b2i (!sw) = 0 then ((f_X10_swapInLine lm' (nI a) (nI b)).bind (fun o => some o)) else ((f_X10_moveInLine lm' (nI a) (nI b)).bind (fun o => some o))) = some (fun r => lm' (f r)) := by
    cases sw with
    | true =>
      refine ⟨swI a b, fun r hr => swI_lt ha hb hr, fun r s _ _ e => swI_inj e, ?_, ?_, ?_⟩
      · unfold swI; rw [if_pos rfl]; exact hab
      · rw [ifbt, c_exchange _ (by omega) (by omega)]; rfl
      · show (if b2i false = 0 then _ else _) = _
        rw [ifbf, m_swap _ (by omega) (by omega)]; rfl
    | false =>
      refine ⟨mvI a b, fun r hr => mvI_lt ha hb hr, fun r s _ _ e => mvI_inj e, ?_, ?_, ?_⟩
      · unfold mvI; (repeat' split) <;> omega
      · rw [ifbf, c_shift _ (by omega) (by omega)]; rfl
      · show (if b2i true = 0 then _ else _) = _
        rw [ifbt, m_move _ (by omega) (by omega)]; rfl
  have hLc : LN R f (fun r => l1 (f r)) := r2.comp hf1
  have hLm : LN R f (fun r => lm' (f r)) := n4.comp hf1
  have hPf : LPm R f := (LPm.id R).comp hf1 hf2
  obtain ⟨lt', lc', tags', cells', k1, k2⟩ := c_carryOut hV hC hLc hPf lt lc
  obtain ⟨now', thn', m1, m2⟩ := m_takeLine hV hM hLm hPf thn
  have hmv : 0 < mvd R f := fb_ct_pos.mpr ⟨b, hb, by simp [hf3]⟩
  have hmv2 : mvd R f ≤ R := fb_ct_le _ _
  have b1 := rl_le C kd cl id R
  have b2 := rl_le C kd cl f R
  have b3 : R * C ≤ 96 := Nat.le_trans (Nat.mul_le_mul h16 h6) (by decide)
  refine ⟨(nI (1000 + rl C kd cl id R - rl C kd cl f R), tags', cells', nI R, nI (fb_ct (pr kd) C), fun r => l1 (f r), lt', lc', u1), (nI (rl C kd cl id R) - nI (rl C kd cl f R), many, now', rks', dis', pro', fun r => lm' (f r), thn'), 1000 + rl C kd cl id R - rl C kd cl f R, ?_, ?_, rfl, ?_, by omega, ?_, ⟨R, C, kd, _, _, hV.line hPf, k2, m2⟩⟩
  · unfold f_X9_moveTold
    rw [hC.2.1, c_hasRow, c_hasRow, ixd_nI (by omega) ha, ixd_nI (by omega) hb]
    simp only [Option.bind_some, ifbt]
    rw [if_neg (fun e => hab ((nI_eq (by omega) (by omega)).mp e)), ← hC.2.1, r1]
    simp only [Option.bind_some]
    rw [c_runsOfLine hV r2 (LPm.id R) r3]
    simp only [Option.bind_some]
    rw [hf4]
    simp only [Option.bind_some]
    rw [k1]
    simp only [Option.bind_some]
    rw [c_runsOfLine hV hLc hPf r3]
    simp only [Option.bind_some]
    rw [li1000, nI_add, pk_sub (by omega), hC.2.1]
  · unfold f_X10_arrange
    rw [n1]
    simp only [Option.bind_some]
    rw [hf5]
    simp only [Option.bind_some]
    rw [m_runsOfLine hV hM n2 n3 hLm hPf]
    simp only [Option.bind_some]
    rw [m1]
    simp only [Option.bind_some]
    rw [if_neg (nI_nle hmv (by omega))]
  · show (1000 : Int32) + (nI (rl C kd cl id R) - nI (rl C kd cl f R)) = _
    rw [add_sub_i, li1000, nI_add, pk_sub (by omega)]
  · show nI (rl C kd cl id R) - nI (rl C kd cl f R) < 120
    rw [Int32.lt_iff_toInt_lt, pk_sub_toInt (by omega) (by omega)]
    have : (120 : Int32).toInt = 120 := by decide
    omega
theorem m_refuses (hV : VT R C kd cl tg) (hM : MT R C kd cl tg now) (x y : Int32) : f_X10_refusesTwo now x y = some (if ixd x R = true then (if ixd y R = true then (if x = y then -2 else 0) else -1) else -1) := by
  unfold f_X10_refusesTwo
  rw [m_isRow hV hM, m_isRow hV hM]
  simp only [Option.bind_some, ifb]
  (repeat' split) <;> rfl
/-- where the tags 0, 1 .. lie -/
def ivt (tg : Nat → Nat) : Nat → Nat → Nat
  | 0, _ => 0
  | n + 1, t => if tg n = t then n else ivt tg n t
theorem ivt_at {tg : Nat → Nat} {t : Nat} : ∀ {n r : Nat}, r < n → tg r = t → (∀ r r', r < n → r' < n → tg r = tg r' → r = r') → ivt tg n t = r
  | 0, r, h, _, _ => by omega
  | n + 1, r, h, e, hi => by
    unfold ivt
    by_cases h1 : tg n = t
    · rw [if_pos h1]; exact hi n r (by omega) h (h1.trans e.symm)
    · rw [if_neg h1]
      have : r ≠ n := fun q => h1 (q ▸ e)
      exact ivt_at (by omega) e (fun a b ha hb => hi a b (by omega) (by omega))
theorem ivt_ok (hV : VT R C kd cl tg) {t : Nat} (ht : t < R) : ivt tg R t < R ∧ tg (ivt tg R t) = t := by
  obtain ⟨r, hr, e, -⟩ := tag_at hV ht
  rw [ivt_at hr e hV.2.2.2.2.2]
  exact ⟨hr, e⟩
theorem ivt_line (hV : VT R C kd cl tg) : LPm R (ivt tg R) := ⟨fun r hr => (ivt_ok hV hr).1, fun r s hr hs e => by
  have h1 := (ivt_ok hV hr).2
  have h2 := (ivt_ok hV hs).2
  rw [e, h2] at h1
  exact h1.symm⟩
theorem c_followTags (hV : VT R C kd cl tg) (hC : CT R C kd cl tg cols rows kinds tags cells) (line : Nat → Int32) : ∃ line', LN R (ivt tg R) line' ∧ f_X4_followTags (nI R) line tags = some line' := by
  have h16 := hV.1
  have L12 : ∀ (p : Nat) (l : Nat → Int32), p < R → ∃ l', (l' p = nI (ivt tg R p) ∧ ∀ j, j ≠ p → l' j = l j) ∧ L_X4_followTags_12 (nI R) tags (nI p) fu 0 l = some l' := by
    intro p l hp
    obtain ⟨hr0, e0⟩ := ivt_ok hV hp
    exact up_ex (L_X4_followTags_12 (nI R) tags (nI p)) (C := R) (fun i s => (ivt tg R p < i → s p = nI (ivt tg R p)) ∧ ∀ j, j ≠ p → s j = l j) (fun s => s p = nI (ivt tg R p) ∧ ∀ j, j ≠ p → s j = l j)
      (fun n i s hi hI => by
        have h5 := hV.2.2.2.2.1 i hi
        by_cases h : tg i = p
        · have hii : ivt tg R p = i := ivt_at hi h hV.2.2.2.2.2
          refine ⟨upd s p (nI i), ⟨fun _ => by rw [upd_at, hii], fun j hj => (upd_ne _ _ hj).trans (hI.2 j hj)⟩, ?_⟩
          rw [L_X4_followTags_12, if_neg (nI_ge hi (by omega)), gdI (by omega) (by omega), gdI (by omega) (by omega), nI_clamp (show i < 2 ^ 31 by omega), nI_clamp (show p < 2 ^ 31 by omega), hC.2.2.2.1 i hi, if_pos (by rw [h]), nI_1]
        · refine ⟨s, ⟨fun hlt => hI.1 (by
            have : ivt tg R p ≠ i := fun q => h (by rw [← q]; exact e0)
            omega), hI.2⟩, ?_⟩
          rw [L_X4_followTags_12, if_neg (nI_ge hi (by omega)), gdI (by omega) (by omega), nI_clamp (show i < 2 ^ 31 by omega), hC.2.2.2.1 i hi, if_neg (fun q => h ((nI_eq (by omega) (by omega)).mp q)), nI_1])
      (fun n s hI => ⟨s, ⟨hI.1 hr0, hI.2⟩, by rw [L_X4_followTags_12, if_pos (nI_le (Nat.le_refl _) (by omega))]⟩) R fu 0 l (by omega) (fu_lt (by omega)) ⟨fun h => by omega, fun j _ => rfl⟩
  obtain ⟨l', h1, h2⟩ := up_ex (L_X4_followTags_2 (nI R) tags) (C := R) (fun i s => ∀ r, r < i → s r = nI (ivt tg R r)) (fun s => ∀ r, r < R → s r = nI (ivt tg R r))
    (fun n i s hi hI => by
      obtain ⟨l', ⟨q1, q2⟩, q3⟩ := L12 i s hi
      refine ⟨l', fun r hr => ?_, ?_⟩
      · by_cases h : r = i
        · rw [h]; exact q1
        · rw [q2 r h]; exact hI r (by omega)
      · rw [L_X4_followTags_2, if_neg (nI_ge hi (by omega)), q3]
        simp only [Option.bind_some, nI_1])
    (fun n s hI => ⟨s, hI, by rw [L_X4_followTags_2, if_pos (nI_le (Nat.le_refl _) (by omega))]⟩) R fu 0 line (by omega) (fu_lt (by omega)) (fun r hr => by omega)
  refine ⟨l', h1, ?_⟩
  unfold f_X4_followTags
  rw [li0, h2]
  rfl
theorem m_goBackL (hV : VT R C kd cl tg) (hM : MT R C kd cl tg now) (line : Nat → Int32) : ∃ line', LN R (ivt tg R) line' ∧ L_X10_goBack_2 now fu 0 line = some line' := by
  have h16 := hV.1
  exact up_ex (L_X10_goBack_2 now) (C := R) (fun i s => ∀ r, r < i → s r = nI (ivt tg R r)) (fun s => LN R (ivt tg R) s)
    (fun n i s hi hI => by
      obtain ⟨r0, hr0, e0, hf⟩ := tag_at hV hi
      have hii : ivt tg R i = r0 := ivt_at hr0 e0 hV.2.2.2.2.2
      refine ⟨upd s i (nI r0), fun r hr => ?_, ?_⟩
      · by_cases h : r = i
        · rw [h, upd_at, hii]
        · rw [upd_ne _ _ h]; exact hI r (by omega)
      · rw [L_X10_goBack_2, m_rows hM]
        simp only [Option.bind_some]
        rw [if_neg (nI_ge hi (by omega)), m_rowOf hV hM hi hr0 e0 hf]
        simp only [Option.bind_some]
        rw [gdI (by omega) (by omega), nI_clamp (by omega), nI_1])
    (fun n s hI => ⟨s, hI, by
        rw [L_X10_goBack_2, m_rows hM]
        simp only [Option.bind_some]
        rw [if_pos (nI_le (Nat.le_refl _) (by omega))]⟩) R fu 0 line (by omega) (fu_lt (by omega)) (fun r hr => by omega)
theorem restore_in (hV : VT R C kd cl tg) (hC : CT R C kd cl tg cols rows kinds tags cells) (hM : MT R C kd cl tg now) (line lt un : Nat → Int32) (lc : Nat → Int64) (lm : Nat → Int32) (thn : Nat → Int64) :
    ∃ oc om e, f_X9_restoreTold cols rows kinds tags cells line lt lc un = some oc ∧ f_X10_goBack now lm thn = some om ∧ oc.1 = nI e ∧ om.1 = nI e ∧ e ≤ 16 ∧ TT cols rows kinds oc.2.1 oc.2.2.1 om.2.1 := by
  have h16 := hV.1
  obtain ⟨l1, u1, r1, r2, r3⟩ := c_read hV hC line un
  obtain ⟨l2, h1, h2⟩ := c_followTags hV hC l1
  obtain ⟨l3, h3, h4⟩ := m_goBackL hV hM lm
  obtain ⟨lt', lc', tags', cells', k1, k2⟩ := c_carryOut hV hC h1 (ivt_line hV) lt lc
  obtain ⟨now', thn', m1, m2⟩ := m_takeLine hV hM h3 (ivt_line hV) thn
  have hmv2 : mvd R (ivt tg R) ≤ R := fb_ct_le _ _
  refine ⟨(nI (mvd R (ivt tg R)), tags', cells', nI R, nI (fb_ct (pr kd) C), l2, lt', lc', u1), (nI (mvd R (ivt tg R)), now', l3, thn'), mvd R (ivt tg R), ?_, ?_, rfl, rfl, by omega, ⟨R, C, kd, _, _, hV.line (ivt_line hV), k2, m2⟩⟩
  · unfold f_X9_restoreTold
    rw [r1]
    simp only [Option.bind_some]
    rw [h2]
    simp only [Option.bind_some]
    rw [k1]
    rfl
  · unfold f_X10_goBack
    rw [h4]
    simp only [Option.bind_some]
    rw [m1]
    rfl
end
section
variable {next size undoMany cols rows : Int32} {sk st : Nat → Nat → Int32} {sc : Nat → Nat → Int64} {scol srow kinds tags : Nat → Int32} {undos cells now : Nat → Int64}
theorem op_swaps (hT : TT cols rows kinds tags cells now) (hU : UX next size sk st sc scol srow undoMany undos) (lr lp : Int32) (line lt un : Nat → Int32) (lc : Nat → Int64) (pm : Int32) (rks dis pro lm : Nat → Int32) (thn was : Nat → Int64) (x y : Int32) :
    ∃ oc om, f_X9_swaps cols rows kinds tags cells next size sk st sc scol srow lr lp line lt lc un x y = some oc ∧ f_X10_swaps pm undoMany now rks dis pro lm thn undos was x y = some om ∧ oc.1 = om.1 ∧
      TT cols rows kinds oc.2.1 oc.2.2.1 om.2.2.2.2.1 ∧ UX oc.2.2.2.1 oc.2.2.2.2.1 oc.2.2.2.2.2.1 oc.2.2.2.2.2.2.1 oc.2.2.2.2.2.2.2.1 oc.2.2.2.2.2.2.2.2.1 oc.2.2.2.2.2.2.2.2.2.1 om.2.2.2.1 om.2.2.2.2.2.2.2.2.2.2.1 := by
  obtain ⟨sk', st', sc', scol', srow', next', size', um', un', was', -, c1, c2, c3, c4, c5, c6, c7⟩ := chg hT hU was
  obtain ⟨R, C, kd, cl, tg, hV, hC, hM⟩ := id hT
  have h16 := hV.1
  by_cases hx : ixd x R = true
  · by_cases hy : ixd y R = true
    · by_cases hxy : x = y
      · subst hxy
        refine ⟨(-2, tags, cells, next, size, sk', st', sc', scol', srow', lr, lp, line, lt, lc, un), (-2, 0, pm, undoMany, now, rks, dis, pro, lm, thn, undos, was), ?_, ?_, rfl, hT, c7⟩
        · unfold f_X9_swaps f_X9_moveTold
          rw [c1, hC.2.1, c_hasRow, hx]
          simp only [Option.bind_some, ifbt, if_true]
          rw [held_no (by decide)]
          rfl
        · unfold f_X10_swaps
          rw [m_refuses hV hM, hx]
          simp only [Option.bind_some, if_true]
          rw [if_neg (by decide)]
      · obtain ⟨a, ha, rfl⟩ := ixd_of (by omega) hx
        obtain ⟨b, hb, rfl⟩ := ixd_of (by omega) hy
        obtain ⟨oc, om, e, q1, q2, q3, q4, q5, q6, q7⟩ := move_in hV hC hM ha hb (fun e => hxy (by rw [e])) true lr lp line lt un lc rks dis pro lm thn
        refine ⟨(nI e, oc.2.1, oc.2.2.1, next', size', sk', st', sc', scol', srow', oc.2.2.2.1, oc.2.2.2.2.1, oc.2.2.2.2.2.1, oc.2.2.2.2.2.2.1, oc.2.2.2.2.2.2.2.1, oc.2.2.2.2.2.2.2.2), (nI e, 0, om.2.1, um', om.2.2.1, om.2.2.2.1, om.2.2.2.2.1, om.2.2.2.2.2.1, om.2.2.2.2.2.2.1, om.2.2.2.2.2.2.2, un', was'), ?_, ?_, rfl, q7, c6⟩
        · unfold f_X9_swaps
          rw [c1]
          simp only [Option.bind_some]
          have q1' : f_X9_moveTold cols rows kinds tags cells lr lp line lt lc un (nI a) (nI b) 1 = some oc := q1
          rw [q1']
          simp only [Option.bind_some]
          rw [q3, held_yes (by omega) c2]
          rfl
        · unfold f_X10_swaps
          rw [m_refuses hV hM, hx, hy]
          simp only [Option.bind_some, if_true, if_neg hxy]
          rw [if_pos (by decide), c5]
          simp only [Option.bind_some]
          have q2' : f_X10_arrange now rks dis pro lm thn (nI a) (nI b) 0 = some om := q2
          rw [q2']
          simp only [Option.bind_some]
          rw [q4]
    · have hy' : ixd y R = false := by simpa using hy
      refine ⟨(-1, tags, cells, next, size, sk', st', sc', scol', srow', lr, lp, line, lt, lc, un), (-1, 0, pm, undoMany, now, rks, dis, pro, lm, thn, undos, was), ?_, ?_, rfl, hT, c7⟩
      · unfold f_X9_swaps f_X9_moveTold
        rw [c1, hC.2.1, c_hasRow, c_hasRow, hx, hy']
        simp only [Option.bind_some, ifbt, ifbf]
        rw [held_no (by decide)]
        rfl
      · unfold f_X10_swaps
        rw [m_refuses hV hM, hx, hy']
        simp only [Option.bind_some, if_true]
        rfl
  · have hx' : ixd x R = false := by simpa using hx
    refine ⟨(-1, tags, cells, next, size, sk', st', sc', scol', srow', lr, lp, line, lt, lc, un), (-1, 0, pm, undoMany, now, rks, dis, pro, lm, thn, undos, was), ?_, ?_, rfl, hT, c7⟩
    · unfold f_X9_swaps f_X9_moveTold
      rw [c1, hC.2.1, c_hasRow, hx']
      simp only [Option.bind_some, ifbf]
      rw [held_no (by decide)]
      rfl
    · unfold f_X10_swaps
      rw [m_refuses hV hM, hx']
      rfl
theorem op_moves (hT : TT cols rows kinds tags cells now) (hU : UX next size sk st sc scol srow undoMany undos) (lr lp : Int32) (line lt un : Nat → Int32) (lc : Nat → Int64) (pm : Int32) (rks dis pro lm : Nat → Int32) (thn was : Nat → Int64) (x y : Int32) :
    ∃ oc om, f_X9_moves cols rows kinds tags cells next size sk st sc scol srow lr lp line lt lc un x y = some oc ∧ f_X10_moves pm undoMany now rks dis pro lm thn undos was x y = some om ∧ oc.1 = om.1 ∧
      TT cols rows kinds oc.2.1 oc.2.2.1 om.2.2.2.2.1 ∧ UX oc.2.2.2.1 oc.2.2.2.2.1 oc.2.2.2.2.2.1 oc.2.2.2.2.2.2.1 oc.2.2.2.2.2.2.2.1 oc.2.2.2.2.2.2.2.2.1 oc.2.2.2.2.2.2.2.2.2.1 om.2.2.2.1 om.2.2.2.2.2.2.2.2.2.2.1 := by
  obtain ⟨sk', st', sc', scol', srow', next', size', um', un', was', -, c1, c2, c3, c4, c5, c6, c7⟩ := chg hT hU was
  obtain ⟨R, C, kd, cl, tg, hV, hC, hM⟩ := id hT
  have h16 := hV.1
  by_cases hx : ixd x R = true
  · by_cases hy : ixd y R = true
    · by_cases hxy : x = y
      · subst hxy
        refine ⟨(-2, tags, cells, next, size, sk', st', sc', scol', srow', lr, lp, line, lt, lc, un), (-2, 0, pm, undoMany, now, rks, dis, pro, lm, thn, undos, was), ?_, ?_, rfl, hT, c7⟩
        · unfold f_X9_moves f_X9_moveTold
          rw [c1, hC.2.1, c_hasRow, hx]
          simp only [Option.bind_some, ifbt, if_true]
          rw [held_no (by decide)]
          rfl
        · unfold f_X10_moves
          rw [m_refuses hV hM, hx]
          simp only [Option.bind_some, if_true]
          rw [if_neg (by decide)]
      · obtain ⟨a, ha, rfl⟩ := ixd_of (by omega) hx
        obtain ⟨b, hb, rfl⟩ := ixd_of (by omega) hy
        obtain ⟨oc, om, e, q1, q2, q3, q4, q5, q6, q7⟩ := move_in hV hC hM ha hb (fun e => hxy (by rw [e])) false lr lp line lt un lc rks dis pro lm thn
        refine ⟨(nI e, oc.2.1, oc.2.2.1, next', size', sk', st', sc', scol', srow', oc.2.2.2.1, oc.2.2.2.2.1, oc.2.2.2.2.2.1, oc.2.2.2.2.2.2.1, oc.2.2.2.2.2.2.2.1, oc.2.2.2.2.2.2.2.2), (nI e, 0, om.2.1, um', om.2.2.1, om.2.2.2.1, om.2.2.2.2.1, om.2.2.2.2.2.1, om.2.2.2.2.2.2.1, om.2.2.2.2.2.2.2, un', was'), ?_, ?_, rfl, q7, c6⟩
        · unfold f_X9_moves
          rw [c1]
          simp only [Option.bind_some]
          have q1' : f_X9_moveTold cols rows kinds tags cells lr lp line lt lc un (nI a) (nI b) 0 = some oc := q1
          rw [q1']
          simp only [Option.bind_some]
          rw [q3, held_yes (by omega) c2]
          rfl
        · unfold f_X10_moves
          rw [m_refuses hV hM, hx, hy]
          simp only [Option.bind_some, if_true, if_neg hxy]
          rw [if_pos (by decide), c5]
          simp only [Option.bind_some]
          have q2' : f_X10_arrange now rks dis pro lm thn (nI a) (nI b) 1 = some om := q2
          rw [q2']
          simp only [Option.bind_some]
          rw [q4]
    · have hy' : ixd y R = false := by simpa using hy
      refine ⟨(-1, tags, cells, next, size, sk', st', sc', scol', srow', lr, lp, line, lt, lc, un), (-1, 0, pm, undoMany, now, rks, dis, pro, lm, thn, undos, was), ?_, ?_, rfl, hT, c7⟩
      · unfold f_X9_moves f_X9_moveTold
        rw [c1, hC.2.1, c_hasRow, c_hasRow, hx, hy']
        simp only [Option.bind_some, ifbt, ifbf]
        rw [held_no (by decide)]
        rfl
      · unfold f_X10_moves
        rw [m_refuses hV hM, hx, hy']
        simp only [Option.bind_some, if_true]
        rfl
  · have hx' : ixd x R = false := by simpa using hx
    refine ⟨(-1, tags, cells, next, size, sk', st', sc', scol', srow', lr, lp, line, lt, lc, un), (-1, 0, pm, undoMany, now, rks, dis, pro, lm, thn, undos, was), ?_, ?_, rfl, hT, c7⟩
    · unfold f_X9_moves f_X9_moveTold
      rw [c1, hC.2.1, c_hasRow, hx']
      simp only [Option.bind_some, ifbf]
      rw [held_no (by decide)]
      rfl
    · unfold f_X10_moves
      rw [m_refuses hV hM, hx']
      rfl
theorem op_restores (hT : TT cols rows kinds tags cells now) (hU : UX next size sk st sc scol srow undoMany undos) (line lt un : Nat → Int32) (lc : Nat → Int64) (lm : Nat → Int32) (thn was : Nat → Int64) :
    ∃ oc om, f_X9_restores cols rows kinds tags cells next size sk st sc scol srow line lt lc un = some oc ∧ f_X10_restores undoMany now lm thn undos was = some om ∧ oc.1 = om.1 ∧
      TT cols rows kinds oc.2.1 oc.2.2.1 om.2.2.2.1 ∧ UX oc.2.2.2.1 oc.2.2.2.2.1 oc.2.2.2.2.2.1 oc.2.2.2.2.2.2.1 oc.2.2.2.2.2.2.2.1 oc.2.2.2.2.2.2.2.2.1 oc.2.2.2.2.2.2.2.2.2.1 om.2.2.1 om.2.2.2.2.2.2.1 := by
  obtain ⟨sk', st', sc', scol', srow', next', size', um', un', was', -, c1, c2, c3, c4, c5, c6, c7⟩ := chg hT hU was
  obtain ⟨R, C, kd, cl, tg, hV, hC, hM⟩ := id hT
  obtain ⟨oc, om, e, q1, q2, q3, q4, q5, q6⟩ := restore_in hV hC hM line lt un lc lm thn
  refine ⟨(nI e, oc.2.1, oc.2.2.1, next', size', sk', st', sc', scol', srow', oc.2.2.2.1, oc.2.2.2.2.1, oc.2.2.2.2.2.1, oc.2.2.2.2.2.2.1, oc.2.2.2.2.2.2.2.1, oc.2.2.2.2.2.2.2.2), (nI e, 0, um', om.2.1, om.2.2.1, om.2.2.2, un', was'), ?_, ?_, rfl, q6, c6⟩
  · unfold f_X9_restores
    rw [c1]
    simp only [Option.bind_some]
    rw [q1]
    simp only [Option.bind_some]
    rw [q3, held_yes (by omega) c2]
    rfl
  · unfold f_X10_restores
    rw [c5]
    simp only [Option.bind_some]
    rw [q2]
    simp only [Option.bind_some]
    rw [q4]
end
