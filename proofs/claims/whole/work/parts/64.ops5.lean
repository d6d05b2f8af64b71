/-! the best swap, the best place, rows shuffled, rows like one another, columns coded -/
theorem swI_2 (a b r : Nat) : swI a b (swI a b r) = r := by
  unfold swI
  (repeat' split) <;> omega
theorem mvI_2 (a b r : Nat) : mvI a b (mvI b a r) = r := by
  unfold mvI
  (repeat' split) <;> omega
section
variable {R C : Nat} {kd : Nat → Nat} {cl : Nat → Nat → Int64} {tg : Nat → Nat} {now : Nat → Int64} {cols rows : Int32} {kinds tags : Nat → Int32} {cells : Nat → Int64}
/-- what is known after some swaps were tried -/
def BS (asz0 : Int32) (nu0 : Nat → Int64) (mo f s asz : Int32) (nu : Nat → Int64) : Prop := 0 ≤ mo ∧ (mo = 0 → asz = asz0 ∧ nu = nu0) ∧ (¬ mo = 0 → asz = nI 2 ∧ nu 0 = f.toInt64 ∧ nu 1 = s.toInt64)
theorem swap39 (hV : VT R C kd cl tg) (hM : MT R C kd cl tg now) {oC : Int32 × Int32 × (Nat → Int32) × (Nat → Int32)} {oM : Int32 × Int32 × (Nat → Int32) × (Nat → Int32) × (Nat → Int32) × (Nat → Int32)} (h1 : oC.1 = nI R) (h2 : oC.2.1 = nI (fb_ct (pr kd) C)) (hU : UT R C kd cl oC.2.2.2) (hRC : ∀ c, c < C → kd c ≤ 10 → RC R kd cl oM.2.2.2.1 oM.2.2.1 c) (hPL : PL C kd oM.2.1 oM.2.2.2.2.1) (asz0 : Int32) (nu0 : Nat → Int64) {a : Nat} (ha : a < R) :
    ∀ (k i n : Nat) (mo f s asz : Int32) (nu : Nat → Int64) (lc lm : Nat → Int32), i + k = R → k < n → LN R id lc → LN R id lm → BS asz0 nu0 mo f s asz nu →
    ∃ (mo' f' s' asz' : Int32) (nu' : Nat → Int64) (lc' lm' : Nat → Int32), LN R id lc' ∧ LN R id lm' ∧ BS asz0 nu0 mo' f' s' asz' nu' ∧
      L_X9_bestSwap_39 (nI R) oC oM.1 (nI a) n mo (nI i) asz nu lc = some (mo', asz', nu', lc') ∧ L_X10_bestSwap_35 now oM (nI a) n mo f s (nI i) lm = some (mo', f', s', lm') := by
  have h16 := hV.1
  intro k
  induction k with
  | zero =>
    intro i n mo f s asz nu lc lm hi hn hc hm hB
    obtain ⟨n, rfl⟩ : ∃ n', n = n' + 1 := ⟨n - 1, by omega⟩
    obtain rfl : i = R := by omega
    refine ⟨mo, f, s, asz, nu, lc, lm, hc, hm, hB, ?_, ?_⟩
    · rw [L_X9_bestSwap_39, if_pos (nI_le (Nat.le_refl _) (by omega))]
    · rw [L_X10_bestSwap_35, m_rows hM, Option.bind_some, if_pos (nI_le (Nat.le_refl _) (by omega))]
  | succ k ih =>
    intro i n mo f s asz nu lc lm hi hn hc hm hB
    obtain ⟨n, rfl⟩ : ∃ n', n = n' + 1 := ⟨n - 1, by omega⟩
    have hiR : i < R := by omega
    have hsw : ∀ r, r < R → swI a i r < R := fun r hr => swI_lt ha hiR hr
    have hP : LPm R (fun r => id (swI a i r)) := (LPm.id R).comp hsw (fun r s _ _ q => swI_inj q)
    have hc1 : LN R (fun r => id (swI a i r)) (fun r => lc (swI a i r)) := hc.comp hsw
    have hm1 : LN R (fun r => id (swI a i r)) (fun r => lm (swI a i r)) := hm.comp hsw
    have hc2 : LN R id (fun r => lc (swI a i (swI a i r))) := fun r hr => by show lc (swI a i (swI a i r)) = _; rw [swI_2]; exact hc r hr
    have hm2 : LN R id (fun r => lm (swI a i (swI a i r))) := fun r hr => by show lm (swI a i (swI a i r)) = _; rw [swI_2]; exact hm r hr
    have rc := c_runsOfLine hV hc1 hP hU
    have rm := m_runsOfLine hV hM hRC hPL hm1 hP
    by_cases h : mo < oM.1 - nI (rl C kd cl (fun r => id (swI a i r)) R)
    · have hB' : BS asz0 nu0 (oM.1 - nI (rl C kd cl (fun r => id (swI a i r)) R)) (nI a) (nI i) (nI 2) (vp_updL (vp_updL nu 0 (nI a).toInt64) 1 (nI i).toInt64) := by
        obtain ⟨b1, b2, b3⟩ := hB
        refine ⟨Int32.le_trans b1 (Int32.le_of_lt h), fun e => ?_, fun _ => ⟨rfl, ?_, updL_at _ _ _⟩⟩
        · rw [e] at h
          exact absurd h (Int32.not_lt.mpr b1)
        · rw [updL_ne _ _ (by omega)]; exact updL_at _ _ _
      obtain ⟨mo', f', s', asz', nu', lc', lm', g1, g2, g3, g4, g5⟩ := ih (i + 1) n _ _ _ _ _ _ _ (by omega) (by omega) hc2 hm2 hB'
      refine ⟨mo', f', s', asz', nu', lc', lm', g1, g2, g3, ?_, ?_⟩
      · rw [L_X9_bestSwap_39, if_neg (nI_ge hiR (by omega)), c_exchange lc (by omega) (by omega), Option.bind_some, h1, h2, rc, Option.bind_some, c_exchange _ (by omega) (by omega), Option.bind_some, if_neg (Int32.not_le.mpr h), c_tell2, Option.bind_some, nI_1]
        exact g4
      · rw [L_X10_bestSwap_35, m_rows hM, Option.bind_some, if_neg (nI_ge hiR (by omega)), m_swap lm (by omega) (by omega), Option.bind_some, rm, Option.bind_some, m_swap _ (by omega) (by omega), Option.bind_some, if_pos h, nI_1]
        exact g5
    · obtain ⟨mo', f', s', asz', nu', lc', lm', g1, g2, g3, g4, g5⟩ := ih (i + 1) n _ _ _ _ _ _ _ (by omega) (by omega) hc2 hm2 hB
      refine ⟨mo', f', s', asz', nu', lc', lm', g1, g2, g3, ?_, ?_⟩
      · rw [L_X9_bestSwap_39, if_neg (nI_ge hiR (by omega)), c_exchange lc (by omega) (by omega), Option.bind_some, h1, h2, rc, Option.bind_some, c_exchange _ (by omega) (by omega), Option.bind_some, if_pos (Int32.not_lt.mp h), nI_1]
        exact g4
      · rw [L_X10_bestSwap_35, m_rows hM, Option.bind_some, if_neg (nI_ge hiR (by omega)), m_swap lm (by omega) (by omega), Option.bind_some, rm, Option.bind_some, m_swap _ (by omega) (by omega), Option.bind_some, if_neg h, nI_1]
        exact g5
theorem swap23 (hV : VT R C kd cl tg) (hM : MT R C kd cl tg now) {oC : Int32 × Int32 × (Nat → Int32) × (Nat → Int32)} {oM : Int32 × Int32 × (Nat → Int32) × (Nat → Int32) × (Nat → Int32) × (Nat → Int32)} (h1 : oC.1 = nI R) (h2 : oC.2.1 = nI (fb_ct (pr kd) C)) (hU : UT R C kd cl oC.2.2.2) (hRC : ∀ c, c < C → kd c ≤ 10 → RC R kd cl oM.2.2.2.1 oM.2.2.1 c) (hPL : PL C kd oM.2.1 oM.2.2.2.2.1) (asz0 : Int32) (nu0 : Nat → Int64) :
    ∀ (k i n : Nat) (mo f s asz : Int32) (nu : Nat → Int64) (lc lm : Nat → Int32), i + k = R → k < n → LN R id lc → LN R id lm → BS asz0 nu0 mo f s asz nu →
    ∃ (mo' f' s' asz' : Int32) (nu' : Nat → Int64) (lc' lm' : Nat → Int32), LN R id lc' ∧ LN R id lm' ∧ BS asz0 nu0 mo' f' s' asz' nu' ∧
      L_X9_bestSwap_23 (nI R) oC oM.1 n mo (nI i) asz nu lc = some (mo', asz', nu', lc') ∧ L_X10_bestSwap_20 now oM n mo f s (nI i) lm = some (mo', f', s', lm') := by
  have h16 := hV.1
  intro k
  induction k with
  | zero =>
    intro i n mo f s asz nu lc lm hi hn hc hm hB
    obtain ⟨n, rfl⟩ : ∃ n', n = n' + 1 := ⟨n - 1, by omega⟩
    obtain rfl : i = R := by omega
    refine ⟨mo, f, s, asz, nu, lc, lm, hc, hm, hB, ?_, ?_⟩
    · rw [L_X9_bestSwap_23, if_pos (nI_le (Nat.le_refl _) (by omega))]
    · rw [L_X10_bestSwap_20, m_rows hM, Option.bind_some, if_pos (nI_le (Nat.le_refl _) (by omega))]
  | succ k ih =>
    intro i n mo f s asz nu lc lm hi hn hc hm hB
    obtain ⟨n, rfl⟩ : ∃ n', n = n' + 1 := ⟨n - 1, by omega⟩
    have hiR : i < R := by omega
    obtain ⟨mo1, f1, s1, asz1, nu1, lc1, lm1, g1, g2, g3, g4, g5⟩ := swap39 hV hM h1 h2 hU hRC hPL asz0 nu0 hiR k (i + 1) fu mo f s asz nu lc lm (by omega) (fu_lt (by omega)) hc hm hB
    obtain ⟨mo', f', s', asz', nu', lc', lm', k1, k2, k3, k4, k5⟩ := ih (i + 1) n mo1 f1 s1 asz1 nu1 lc1 lm1 (by omega) (by omega) g1 g2 g3
    refine ⟨mo', f', s', asz', nu', lc', lm', k1, k2, k3, ?_, ?_⟩
    · rw [L_X9_bestSwap_23, if_neg (nI_ge hiR (by omega)), nI_1, g4, Option.bind_some]
      exact k4
    · rw [L_X10_bestSwap_20, m_rows hM, Option.bind_some, if_neg (nI_ge hiR (by omega)), nI_1, g5, Option.bind_some]
      exact k5
end
section
variable {next size undoMany cols rows asz amany tsz typed : Int32} {sk st : Nat → Nat → Int32} {sc : Nat → Nat → Int64} {scol srow kinds tags signs text : Nat → Int32} {undos cells now nu row : Nat → Int64}
theorem op_bestSwap (hT : TT cols rows kinds tags cells now) (hA : AX asz nu amany row) (line un rks dis pro lm : Nat → Int32) :
    ∃ r q, f_X9_bestSwap cols rows kinds cells asz nu line un = some r ∧ f_X10_bestSwap amany now row rks dis pro lm = some q ∧ r.1 = q.1 ∧ AX r.2.1 r.2.2.1 q.2.1 q.2.2.2.2.1 := by
  obtain ⟨R, C, kd, cl, tg, hV, hC, hM⟩ := id hT
  have h16 := hV.1
  obtain ⟨line', u', l1, l2, l3⟩ := c_read hV hC line un
  obtain ⟨many, rM, dM, pM, lM, b1, b2, b3, b4⟩ := m_runsNow hV hM rks dis pro lm
  obtain ⟨mo', f', s', asz', nu', lc', lm', g1, g2, ⟨g31, g32, g33⟩, g4, g5⟩ := swap23 hV hM (oC := (nI R, nI (fb_ct (pr kd) C), line', u')) (oM := (nI (rl C kd cl id R), many, rM, dM, pM, lM)) rfl rfl l3 b2 b3 asz nu R 0 fu 0 (-1) (-1) asz nu line' lM (by omega) (fu_lt (by omega)) l2 b4 ⟨by decide, fun _ => ⟨rfl, rfl⟩, fun h => absurd rfl h⟩
  have g4' : L_X9_bestSwap_23 (nI R) (nI R, nI (fb_ct (pr kd) C), line', u') (nI (rl C kd cl id R)) fu 0 0 asz nu line' = _ := g4
  have g5' : L_X10_bestSwap_20 now (nI (rl C kd cl id R), many, rM, dM, pM, lM) fu 0 (-1) (-1) 0 lM = _ := g5
  unfold f_X9_bestSwap f_X10_bestSwap
  rw [l1, Option.bind_some, b1, Option.bind_some]
  simp only []
  rw [c_runsOfLine hV l2 (LPm.id R) l3, Option.bind_some, hC.2.1, g4', g5', Option.bind_some, Option.bind_some]
  simp only []
  by_cases h0 : mo' = 0
  · obtain ⟨rfl, rfl⟩ := g32 h0
    rw [h0, if_pos (by decide), if_pos rfl]
    exact ⟨_, _, rfl, rfl, rfl, hA⟩
  · obtain ⟨rfl, e0, e1⟩ := g33 h0
    have hpos : ¬ mo' ≤ 0 := fun e => h0 (Int32.le_antisymm e g31)
    rw [if_neg hpos, if_neg h0, li0, m_tell 0 (by omega), Option.bind_some]
    simp only []
    rw [m_tell 1 (by omega), Option.bind_some]
    refine ⟨_, _, rfl, rfl, rfl, 2, by omega, rfl, rfl, fun i hi => ?_⟩
    rcases (show i = 0 ∨ i = 1 by omega) with rfl | rfl
    · show nu' 0 = vp_updL (vp_updL row 0 f'.toInt64) 1 s'.toInt64 0
      rw [e0, updL_ne _ _ (by omega), updL_at]
    · show nu' 1 = vp_updL (vp_updL row 0 f'.toInt64) 1 s'.toInt64 1
      rw [e1, updL_at]
end
section
variable {R C : Nat} {kd : Nat → Nat} {cl : Nat → Nat → Int64} {tg : Nat → Nat} {now : Nat → Int64} {cols rows : Int32} {kinds tags : Nat → Int32} {cells : Nat → Int64}
theorem place_in (hV : VT R C kd cl tg) (hM : MT R C kd cl tg now) {oC : Int32 × Int32 × (Nat → Int32) × (Nat → Int32)} {oM : Int32 × (Nat → Int32) × (Nat → Int32) × (Nat → Int32) × (Nat → Int32)} (h1 : oC.1 = nI R) (h2 : oC.2.1 = nI (fb_ct (pr kd) C)) (hU : UT R C kd cl oC.2.2.2) (hRC : ∀ c, c < C → kd c ≤ 10 → RC R kd cl oM.2.2.1 oM.2.1 c) (hPL : PL C kd oM.1 oM.2.2.2.1) {a : Nat} (ha : a < R) :
    ∀ (k i n : Nat) (fe fo be fm : Int32) (lc lm : Nat → Int32), i + k = R → k < n → LN R id lc → LN R id lm → ((i = 0 ∧ fe = 97 ∧ be = -1) ∨ (¬ i = 0 ∧ ∃ b, b < R ∧ fo = nI b ∧ be = fo ∧ fm = fe)) →
    ∃ (fe' fo' : Int32) (lc' lm' : Nat → Int32), L_X9_place_32 (nI R) (nI a) oC n fe fo (nI i) lc = some (fe', fo', lc') ∧ ∃ be' fm', L_X10_place_26 now (nI a) oM n be fm (nI i) lm = some (be', fm', lm') ∧ (be' = fo' ∧ fm' = fe') := by
  have h16 := hV.1
  have h6 := hV.2.1
  intro k
  induction k with
  | zero =>
    intro i n fe fo be fm lc lm hi hn hc hm hB
    obtain ⟨n, rfl⟩ : ∃ n', n = n' + 1 := ⟨n - 1, by omega⟩
    obtain rfl : i = R := by omega
    rcases hB with ⟨e, _⟩ | ⟨_, b, hb, _, rfl, rfl⟩
    · omega
    refine ⟨fm, be, lc, lm, ?_, be, fm, ?_, rfl, rfl⟩
    · rw [L_X9_place_32, if_pos (nI_le (Nat.le_refl _) (by omega))]
    · rw [L_X10_place_26, m_rows hM, Option.bind_some, if_pos (nI_le (Nat.le_refl _) (by omega))]
  | succ k ih =>
    intro i n fe fo be fm lc lm hi hn hc hm hB
    obtain ⟨n, rfl⟩ : ∃ n', n = n' + 1 := ⟨n - 1, by omega⟩
    have hiR : i < R := by omega
    have hsw : ∀ r, r < R → mvI a i r < R := fun r hr => mvI_lt ha hiR hr
    have hP : LPm R (fun r => id (mvI a i r)) := (LPm.id R).comp hsw (fun r s _ _ q => mvI_inj q)
    have hc1 : LN R (fun r => id (mvI a i r)) (fun r => lc (mvI a i r)) := hc.comp hsw
    have hm1 : LN R (fun r => id (mvI a i r)) (fun r => lm (mvI a i r)) := hm.comp hsw
    have hc2 : LN R id (fun r => lc (mvI a i (mvI i a r))) := fun r hr => by show lc (mvI a i (mvI i a r)) = _; rw [mvI_2]; exact hc r hr
    have hm2 : LN R id (fun r => lm (mvI a i (mvI i a r))) := fun r hr => by show lm (mvI a i (mvI i a r)) = _; rw [mvI_2]; exact hm r hr
    have rc := c_runsOfLine hV hc1 hP hU
    have rm := m_runsOfLine hV hM hRC hPL hm1 hP
    have hle := rl_le C kd cl (fun r => id (mvI a i r)) R
    have hle2 : R * C ≤ 96 := Nat.le_trans (Nat.mul_le_mul h16 h6) (Nat.le_refl 96)
    have ec (e : Int32) : L_X9_place_32 (nI R) (nI a) oC (n + 1) e fo (nI i) lc = if e ≤ nI (rl C kd cl (fun r => id (mvI a i r)) R) then L_X9_place_32 (nI R) (nI a) oC n e fo (nI (i + 1)) (fun r => lc (mvI a i (mvI i a r))) else L_X9_place_32 (nI R) (nI a) oC n (nI (rl C kd cl (fun r => id (mvI a i r)) R)) (nI i) (nI (i + 1)) (fun r => lc (mvI a i (mvI i a r))) := by
      rw [L_X9_place_32, if_neg (nI_ge hiR (by omega)), c_shift lc (by omega) (by omega), Option.bind_some, h1, h2, rc, Option.bind_some, c_shift _ (by omega) (by omega), Option.bind_some, nI_1]
    have em : L_X10_place_26 now (nI a) oM (n + 1) be fm (nI i) lm = if be = -1 then L_X10_place_26 now (nI a) oM n (nI i) (nI (rl C kd cl (fun r => id (mvI a i r)) R)) (nI (i + 1)) (fun r => lm (mvI a i (mvI i a r))) else if nI (rl C kd cl (fun r => id (mvI a i r)) R) < fm then L_X10_place_26 now (nI a) oM n (nI i) (nI (rl C kd cl (fun r => id (mvI a i r)) R)) (nI (i + 1)) (fun r => lm (mvI a i (mvI i a r))) else L_X10_place_26 now (nI a) oM n be fm (nI (i + 1)) (fun r => lm (mvI a i (mvI i a r))) := by
      rw [L_X10_place_26, m_rows hM, Option.bind_some, if_neg (nI_ge hiR (by omega)), m_move lm (by omega) (by omega), Option.bind_some, rm, Option.bind_some, m_move _ (by omega) (by omega), Option.bind_some, nI_1]
    rw [ec, em]
    rcases hB with ⟨rfl, rfl, rfl⟩ | ⟨hi0, b, hb, rfl, rfl, rfl⟩
    · rw [if_pos rfl, show (97 : Int32) = nI 97 by decide, if_neg (nI_ge (by omega) (by omega))]
      exact ih 1 n _ _ _ _ _ _ (by omega) (by omega) hc2 hm2 (Or.inr ⟨by omega, 0, by omega, rfl, rfl, rfl⟩)
    · rw [if_neg (nI_m1 b (by omega)).1]
      by_cases h : nI (rl C kd cl (fun r => id (mvI a i r)) R) < fm
      · rw [if_pos h, if_neg (Int32.not_le.mpr h)]
        exact ih (i + 1) n _ _ _ _ _ _ (by omega) (by omega) hc2 hm2 (Or.inr ⟨by omega, i, hiR, rfl, rfl, rfl⟩)
      · rw [if_neg h, if_pos (Int32.not_lt.mp h)]
        exact ih (i + 1) n _ _ _ _ _ _ (by omega) (by omega) hc2 hm2 (Or.inr ⟨by omega, b, hb, rfl, rfl, rfl⟩)
end
section
variable {next size undoMany cols rows asz amany tsz typed : Int32} {sk st : Nat → Nat → Int32} {sc : Nat → Nat → Int64} {scol srow kinds tags signs text : Nat → Int32} {undos cells now nu row : Nat → Int64}
theorem op_place (hT : TT cols rows kinds tags cells now) (hA : AX asz nu amany row) (lr lp : Int32) (line un : Nat → Int32) (pm : Int32) (rks dis pro lm : Nat → Int32) (x : Int32) :
    ∃ r q, f_X9_place cols rows kinds cells asz nu lr lp line un x = some r ∧ f_X10_place amany pm now row rks dis pro lm x = some q ∧ r.1 = q.1 ∧ AX r.2.1 r.2.2.1 q.2.1 q.2.2.2.2.1 := by
  obtain ⟨R, C, kd, cl, tg, hV, hC, hM⟩ := id hT
  have h16 := hV.1
  unfold f_X9_place f_X10_place
  rw [m_isRow hV hM, hC.2.1, c_hasRow, ← hC.2.1]
  by_cases hx : ixd x R = true
  · obtain ⟨a, ha, rfl⟩ := ixd_of (by omega) hx
    obtain ⟨line', u', l1, l2, l3⟩ := c_read hV hC line un
    obtain ⟨many, rM, dM, pM, lM, b1, b2, b3, b4⟩ := m_layLine hV hM rks dis pro lm
    obtain ⟨fe', fo', lc', lm', g1, be', fm', g2, rfl, rfl⟩ := place_in hV hM (oC := (nI R, nI (fb_ct (pr kd) C), line', u')) (oM := (many, rM, dM, pM, lM)) rfl rfl l3 b2 b3 ha R 0 fu 97 (nI a) (-1) 0 line' lM (by omega) (fu_lt (by omega)) l2 b4 (Or.inl ⟨rfl, rfl, rfl⟩)
    have g1' : L_X9_place_32 (nI R) (nI a) (nI R, nI (fb_ct (pr kd) C), line', u') fu 97 (nI a) 0 line' = _ := g1
    have g2' : L_X10_place_26 now (nI a) (many, rM, dM, pM, lM) fu (-1) 0 0 lM = _ := g2
    rw [hx, Option.bind_some, Option.bind_some, ifbt, ifbt, l1, b1, Option.bind_some, Option.bind_some]
    simp only []
    rw [hC.2.1, g1', g2', Option.bind_some, Option.bind_some]
    simp only []
    rw [c_tell, li0, m_tell 0 (by omega), Option.bind_some, Option.bind_some]
    exact ⟨_, _, rfl, rfl, rfl, AX.one _ _ _⟩
  · have hx' : ixd x R = false := by simpa using hx
    rw [hx']
    exact ⟨_, _, rfl, rfl, rfl, hA⟩
end
section
variable {R C : Nat} {kd : Nat → Nat} {cl : Nat → Nat → Int64} {tg : Nat → Nat} {now : Nat → Int64} {cols rows : Int32} {kinds tags : Nat → Int32} {cells : Nat → Int64}
theorem draw_in {R : Nat} (h0 : 0 < R) (h16 : R ≤ 16) (x : Int32) : ∃ a, a < R ∧ ius x 16 - ius x 16 / nI R * nI R = nI a := by
  obtain ⟨k, hk, e⟩ : ∃ k, k < 65536 ∧ ius x 16 = nI k := by
    refine ⟨bn (ius x 16), ?_, ?_⟩
    · rw [bn_ius16]
      have : bn x < 4294967296 := x.toBitVec.isLt
      show bn x >>> 16 < 65536
      rw [Nat.shiftRight_eq_div_pow]
      omega
    · apply bn_inj
      rw [bn_nI (show bn (ius x 16) < 4294967296 from (ius x 16).toBitVec.isLt)]
  exact ⟨k % R, Nat.mod_lt _ h0, by rw [e, pk_rem (by omega) h0 (by omega)]⟩
theorem years_in (hV : VT R C kd cl tg) (hM : MT R C kd cl tg now) (h0 : 0 < R) {N : Nat} (hN : N ≤ 20) :
    ∀ (k i n : Nat) (d : Int32) (ln : Nat → Nat) (lc lm : Nat → Int32), i + k = N → k < n → LN R ln lc → LN R ln lm → LPm R ln →
    ∃ (d' : Int32) (ln' : Nat → Nat) (lc' lm' : Nat → Int32), LN R ln' lc' ∧ LN R ln' lm' ∧ LPm R ln' ∧ L_X9_years_50 (nI R) (nI N) n d (nI i) lc = some lc' ∧ L_X10_years_49 now (nI N) n (nI i) d lm = some (d', lm') := by
  have h16 := hV.1
  intro k
  induction k with
  | zero =>
    intro i n d ln lc lm hi hn hc hm hP
    obtain ⟨n, rfl⟩ : ∃ n', n = n' + 1 := ⟨n - 1, by omega⟩
    obtain rfl : i = N := by omega
    refine ⟨d, ln, lc, lm, hc, hm, hP, ?_, ?_⟩
    · rw [L_X9_years_50, if_pos (nI_le (Nat.le_refl _) (by omega))]
    · rw [L_X10_years_49, if_pos (nI_le (Nat.le_refl _) (by omega))]
  | succ k ih =>
    intro i n d ln lc lm hi hn hc hm hP
    obtain ⟨n, rfl⟩ : ∃ n', n = n' + 1 := ⟨n - 1, by omega⟩
    obtain ⟨a, ha, ea⟩ := draw_in h0 h16 (d * 1103515245 + 12345)
    obtain ⟨b, hb, eb⟩ := draw_in h0 h16 ((d * 1103515245 + 12345) * 1103515245 + 12345)
    have hz : ¬ nI R ≤ 0 := by rw [li0]; exact nI_ge h0 (by omega)
    have hz2 : ¬ nI R = 0 := fun e => hz (by rw [e]; decide)
    have hsw : ∀ r, r < R → swI a b r < R := fun r hr => swI_lt ha hb hr
    obtain ⟨d', ln', lc', lm', g1, g2, g3, g4, g5⟩ := ih (i + 1) n ((d * 1103515245 + 12345) * 1103515245 + 12345) (fun r => ln (swI a b r)) (fun r => lc (swI a b r)) (fun r => lm (swI a b r)) (by omega) (by omega) (hc.comp hsw) (hm.comp hsw) (hP.comp hsw (fun r s _ _ q => swI_inj q))
    refine ⟨d', ln', lc', lm', g1, g2, g3, ?_, ?_⟩
    · rw [L_X9_years_50, if_neg (nI_ge (by omega) (by omega))]
      unfold f_X9_drawOn f_X9_drawn
      rw [Option.bind_some, if_neg hz, if_neg hz2, ea, Option.bind_some, Option.bind_some, if_neg hz, if_neg hz2, eb, Option.bind_some, c_exchange lc (by omega) (by omega), Option.bind_some, nI_1]
      exact g4
    · rw [L_X10_years_49, if_neg (nI_ge (by omega) (by omega)), m_rows hM, Option.bind_some]
      unfold f_X10_draw
      rw [if_neg hz2, ea, Option.bind_some, Option.bind_some, if_neg hz2]
      simp only []
      rw [eb, Option.bind_some]
      simp only []
      rw [m_swap lm (by omega) (by omega), Option.bind_some, nI_1]
      exact g5
end
section
variable {next size undoMany cols rows asz amany tsz typed : Int32} {sk st : Nat → Nat → Int32} {sc : Nat → Nat → Int64} {scol srow kinds tags signs text : Nat → Int32} {undos cells now nu row : Nat → Int64}
theorem op_years (hT : TT cols rows kinds tags cells now) (hA : AX asz nu amany row) (lr lp : Int32) (line bef un : Nat → Int32) (pm dr : Int32) (rks dis pro lm thn : Nat → Int32) (x1 x2 x3 : Int32) :
    ∃ r q, f_X9_years cols rows kinds cells asz nu lr lp line bef un x1 x2 x3 = some r ∧ f_X10_years amany pm dr now row rks dis pro lm thn x1 x2 x3 = some q ∧ r.1 = q.1 ∧ AX r.2.1 r.2.2.1 q.2.1 q.2.2.2.2.2.1 := by
  obtain ⟨R, C, kd, cl, tg, hV, hC, hM⟩ := id hT
  have h16 := hV.1
  unfold f_X9_years f_X10_years
  rw [blk_c]
  rcases rng_of 1 (hi := 20) (by omega) (by omega) x2 with h | ⟨h, N, hN1, hN, rfl⟩
  · have h' : f_X10_in x2 1 20 = some false := h
    have h2 := h'
    rw [f_in] at h2
    rw [h', Option.bind_some, ifbf]
    by_cases q1 : x2 < 1
    · rw [if_pos q1]
      exact ⟨_, _, rfl, rfl, rfl, hA⟩
    · rw [if_neg q1]
      by_cases q2 : 20 < x2
      · rw [if_pos q2]
        exact ⟨_, _, rfl, rfl, rfl, hA⟩
      · simp [q1, q2] at h2
  · have h' : f_X10_in (nI N) 1 20 = some true := h
    have q1 : ¬ nI N < 1 := nI_nlt (show 1 ≤ N from hN1) (by omega)
    have q2 : ¬ nI 20 < nI N := nI_nlt hN (by omega)
    have q2 : ¬ (20 : Int32) < nI N := q2
    rw [h', Option.bind_some, ifbt, if_neg q1, if_neg q2]
    rcases blk_of x3 with hx | ⟨hx, b, hb, hb2, rfl⟩
    · rw [hx]
      exact ⟨_, _, rfl, rfl, rfl, hA⟩
    · rw [hx, Option.bind_some, Option.bind_some, ifbt, ifbt, m_rows hM, Option.bind_some, hC.2.1]
      by_cases h0 : R = 0
      · subst h0
        rw [if_pos (show nI 0 = 0 by decide), if_pos (show nI 0 = 0 by decide)]
        exact ⟨_, _, rfl, rfl, rfl, hA⟩
      · have hz : ¬ nI R = 0 := by
          have : ∀ R, R < 17 → R ≠ 0 → ¬ nI R = 0 := by decide +kernel
          exact this R (by omega) h0
        rw [if_neg hz, if_neg hz, ← hC.2.1]
        obtain ⟨line', u', l1, l2, l3⟩ := c_read hV hC line un
        obtain ⟨many, rM, dM, pM, lM, b1, b2, b3, b4⟩ := m_layLine hV hM rks dis pro lm
        obtain ⟨d', ln', lc', lm', g1, g2, g3, g4, g5⟩ := years_in hV hM (by omega) hN N 0 fu x1 id line' lM (by omega) (fu_lt (by omega)) l2 b4 (LPm.id R)
        have g4' : L_X9_years_50 (nI R) (nI N) fu x1 0 line' = _ := g4
        have g5' : L_X10_years_49 now (nI N) fu 0 x1 lM = _ := g5
        obtain ⟨cnt', ln2, lc2, lm2, bef2, thn2, -, t1, t2, t3, t4, t5⟩ := tourN hV hM b2 b3 l3 hb hb2 R fu 0 0 lc' lm' bef thn ln' (by omega) (by omega) (fu_lt (by omega)) g1 g2 g3
        have t1' : f_X4_tourBlocks (nI R) (nI (fb_ct (pr kd) C)) lc' bef u' (nI b) = some (nI cnt', lc2, bef2) := by
          unfold f_X4_tourBlocks
          have : L_X4_tourBlocks_4 (nI R) (nI (fb_ct (pr kd) C)) u' (nI b) fu 0 0 lc' bef = _ := t1
          rw [this]
          rfl
        have t2' : f_X10_tourAll many now rM pM lm' thn (nI b) = some (nI cnt', lm2, thn2) := by
          unfold f_X10_tourAll
          have : L_X10_tourAll_4 many now rM pM (nI b) fu 0 0 lm' thn = _ := t2
          rw [this]
          rfl
        rw [l1, b1, Option.bind_some, Option.bind_some]
        simp only []
        rw [hC.2.1, g4', g5', Option.bind_some, Option.bind_some]
        simp only []
        rw [c_runsOfLine hV g1 g3 l3, m_runsOfLine hV hM b2 b3 g2 g3, Option.bind_some, Option.bind_some, t1', t2', Option.bind_some, Option.bind_some]
        simp only []
        rw [c_tell2, li0, m_tell 0 (by omega), Option.bind_some, Option.bind_some]
        simp only []
        rw [m_tell 1 (by omega), Option.bind_some, c_runsOfLine hV t3 t5 l3, m_runsOfLine hV hM b2 b3 t4 t5, Option.bind_some, Option.bind_some]
        exact ⟨_, _, rfl, rfl, rfl, AX.two _ _ _ _⟩
end
section
variable {R C : Nat} {kd : Nat → Nat} {cl : Nat → Nat → Int64} {tg : Nat → Nat} {now : Nat → Int64} {cols rows : Int32} {kinds tags : Nat → Int32} {cells : Nat → Int64}
/-- a column in which two rows must be like and aren't -/
def viol (kd : Nat → Nat) (cl : Nat → Nat → Int64) (set : Int32) (r k c : Nat) : Bool := decide (¬ ((set >>> (nI c &&& 31)) &&& (1 : Int32)) = 0) && (pr kd c && decide (¬ cl c r = cl c k))
def lka (C : Nat) (kd : Nat → Nat) (cl : Nat → Nat → Int64) (set : Int32) (r k : Nat) : Bool := decide (fb_ct (viol kd cl set r k) C = 0)
theorem c_isLikeInAll (hV : VT R C kd cl tg) (hC : CT R C kd cl tg cols rows kinds tags cells) (set : Int32) {r k : Nat} (hr : r < R) (hk : k < R) : f_X8_isLikeInAll cols kinds cells set (nI r) (nI k) = some (lka C kd cl set r k) := by
  have h6 := hV.2.1
  have := srch (L_X8_isLikeInAll_3 cols kinds cells set (nI r) (nI k)) (viol kd cl set r k) (r := C) (.inl ()) (.inr false)
    (fun n c hc => by
      rw [L_X8_isLikeInAll_3, hC.1, if_neg (nI_ge hc (by omega)), ← hC.1, c_isProper hV hC hc, c_isLike hV hC hc hr hk]
      simp only [Option.bind_some, ifbd]
      unfold viol pr
      rw [nI_1]
      by_cases h1 : ((set >>> (nI c &&& 31)) &&& (1 : Int32)) = 0
      · rw [if_pos h1]; simp [h1]
      · rw [if_neg h1]
        by_cases h2 : kd c ≤ 10
        · rw [if_pos h2]
          by_cases h3 : cl c r = cl c k
          · rw [if_pos h3]; simp [h3]
          · rw [if_neg h3]; simp [h1, h2, h3]
        · rw [if_neg h2]; simp [h2])
    (fun n => by rw [L_X8_isLikeInAll_3, hC.1, if_pos (nI_le (Nat.le_refl _) (by omega))])
    C fu 0 (by omega) (fu_lt (by omega))
  have h0 : L_X8_isLikeInAll_3 cols kinds cells set (nI r) (nI k) fu 0 = _ := this
  unfold f_X8_isLikeInAll lka
  rw [h0, Option.bind_some]
  have e : (fun j => viol kd cl set r k (0 + j)) = viol kd cl set r k := funext (fun j => by rw [Nat.zero_add])
  rw [e]
  by_cases h : fb_ct (viol kd cl set r k) C = 0
  · rw [if_pos h]; simp [h, sm]
  · rw [if_neg h]; simp [h, sm]
theorem m_alike48 (hV : VT R C kd cl tg) (hM : MT R C kd cl tg now) (set : Int32) {r k : Nat} (hr : r < R) (hk : k < R) : L_X10_alike_48 now (nI r) set (nI k) fu 1 0 = some (b2i (lka C kd cl set r k)) := by
  have h6 := hV.2.1
  exact up_loop (fun n i s => L_X10_alike_48 now (nI r) set (nI k) n s i) (C := C) (fun c => b2i (lka c kd cl set r k)) (res := b2i (lka C kd cl set r k))
    (fun n c hc => by
      show L_X10_alike_48 now (nI r) set (nI k) (n + 1) _ _ = L_X10_alike_48 now (nI r) set (nI k) n (b2i (lka (c + 1) kd cl set r k)) _
      rw [L_X10_alike_48, m_cols hM, Option.bind_some, if_neg (nI_ge hc (by omega)), m_isProper hV hM hc, m_cell hV hM hc hk, m_cell hV hM hc hr]
      simp only [Option.bind_some, ifbd, lg_cmp_eq]
      unfold lka
      rw [fb_ct_succ, nI_1]
      by_cases h0 : fb_ct (viol kd cl set r k) c = 0
      · rw [if_neg (show ¬ b2i (decide (fb_ct (viol kd cl set r k) c = 0)) = 0 by simp [h0, b2i])]
        have hv : viol kd cl set r k c = (decide (¬ ((set >>> (nI c &&& 31)) &&& (1 : Int32)) = 0) && (decide (kd c ≤ 10) && decide (¬ cl c r = cl c k))) := rfl
        rw [h0, hv]
        by_cases h1 : ((set >>> (nI c &&& 31)) &&& (1 : Int32)) = 0
        · rw [if_pos h1]; simp [h1, b2i]
        · rw [if_neg h1]
          by_cases h2 : kd c ≤ 10
          · rw [if_pos h2]
            by_cases h3 : cl c k = cl c r
            · rw [if_pos h3]; simp [h3, b2i]
            · rw [if_neg h3]; simp [h1, h2, show ¬ cl c r = cl c k from fun q => h3 q.symm, b2i]
          · rw [if_neg h2]; simp [h2, b2i]
      · rw [if_pos (show b2i (decide (fb_ct (viol kd cl set r k) c = 0)) = 0 by simp [h0, b2i])]
        simp [h0, b2i])
    (fun n => by
      show L_X10_alike_48 now (nI r) set (nI k) (n + 1) _ _ = _
      rw [L_X10_alike_48, m_cols hM, Option.bind_some, if_pos (nI_le (Nat.le_refl _) (by omega))])
    C fu 0 (by omega) (fu_lt (by omega))
theorem alike_in (hV : VT R C kd cl tg) (hC : CT R C kd cl tg cols rows kinds tags cells) (hM : MT R C kd cl tg now) (set : Int32) {r : Nat} (hr : r < R) : L_X9_alike_28 cols rows kinds cells (nI r) set fu 0 0 = some (pb (lka C kd cl set r) R) ∧ L_X10_alike_33 now (nI r) set fu 0 0 0 = some (pb (lka C kd cl set r) R, nI (fb_ct (lka C kd cl set r) R)) := by
  have h16 := hV.1
  constructor
  · exact up_loop (fun n i s => L_X9_alike_28 cols rows kinds cells (nI r) set n s i) (C := R) (fun i => pb (lka C kd cl set r) i) (res := pb (lka C kd cl set r) R)
      (fun n k hk => by
        show L_X9_alike_28 cols rows kinds cells (nI r) set (n + 1) _ _ = L_X9_alike_28 cols rows kinds cells (nI r) set n (pb (lka C kd cl set r) (k + 1)) _
        rw [L_X9_alike_28, hC.2.1, if_neg (nI_ge hk (by omega)), ← hC.2.1, c_isLikeInAll hV hC set hr hk, Option.bind_some, pb_succ, nI_1]
        cases lka C kd cl set r k
        · rw [ifbf]; rfl
        · rw [ifbt]; rfl)
      (fun n => by
        show L_X9_alike_28 cols rows kinds cells (nI r) set (n + 1) _ _ = _
        rw [L_X9_alike_28, hC.2.1, if_pos (nI_le (Nat.le_refl _) (by omega))])
      R fu 0 (by omega) (fu_lt (by omega))
  · exact up_loop (fun n i (s : Int32 × Int32) => L_X10_alike_33 now (nI r) set n s.1 s.2 i) (C := R) (fun i => (pb (lka C kd cl set r) i, nI (fb_ct (lka C kd cl set r) i))) (res := (pb (lka C kd cl set r) R, nI (fb_ct (lka C kd cl set r) R)))
      (fun n k hk => by
        show L_X10_alike_33 now (nI r) set (n + 1) _ _ _ = L_X10_alike_33 now (nI r) set n (pb (lka C kd cl set r) (k + 1)) (nI (fb_ct (lka C kd cl set r) (k + 1))) _
        rw [L_X10_alike_33, m_rows hM, Option.bind_some, if_neg (nI_ge hk (by omega)), m_alike48 hV hM set hr hk, Option.bind_some, pb_succ, fb_ct_succ, nI_1]
        cases lka C kd cl set r k
        · rw [ifbf, ifbf, or_0, Int32.add_zero]; rfl
        · rw [ifbt, ifbt, nI_1]; rfl)
      (fun n => by
        show L_X10_alike_33 now (nI r) set (n + 1) _ _ _ = _
        rw [L_X10_alike_33, m_rows hM, Option.bind_some, if_pos (nI_le (Nat.le_refl _) (by omega))])
      R fu 0 (by omega) (fu_lt (by omega))
end
section
variable {next size undoMany cols rows asz amany tsz typed : Int32} {kinds tags : Nat → Int32} {undos cells now nu row : Nat → Int64}
theorem op_alike (hT : TT cols rows kinds tags cells now) (hA : AX asz nu amany row) (x1 x2 : Int32) :
    ∃ r q, f_X9_alike cols rows kinds cells asz nu x1 x2 = some r ∧ f_X10_alike amany now row x1 x2 = some q ∧ r.1 = q.1 ∧ AX r.2.1 r.2.2 q.2.1 q.2.2.2 := by
  obtain ⟨R, C, kd, cl, tg, hV, hC, hM⟩ := id hT
  have h16 := hV.1
  unfold f_X9_alike f_X10_alike
  rw [m_isRow hV hM, hC.2.1, c_hasRow, ← hC.2.1]
  have hin : f_X10_in x2 0 63 = if x2 < 0 then some false else if 63 < x2 then some false else some true := rfl
  rw [hin]
  by_cases hx : ixd x1 R = true
  · obtain ⟨a, ha, rfl⟩ := ixd_of (by omega) hx
    rw [hx, Option.bind_some, Option.bind_some, ifbt, ifbt]
    by_cases h1 : x2 < 0
    · rw [if_pos h1, if_pos h1]
      exact ⟨_, _, rfl, rfl, rfl, hA⟩
    · rw [if_neg h1, if_neg h1]
      by_cases h2 : 63 < x2
      · rw [if_neg (Int32.not_le.mpr h2), if_pos h2]
        exact ⟨_, _, rfl, rfl, rfl, hA⟩
      · obtain ⟨e1, e2⟩ := alike_in hV hC hM x2 ha
        rw [if_pos (Int32.not_lt.mp h2), if_neg h2, Option.bind_some, ifbt, e1, e2, Option.bind_some, Option.bind_some]
        simp only []
        rw [c_tell, li0, m_tell 0 (by omega), Option.bind_some, Option.bind_some, bc_pb16 _ h16, Option.bind_some]
        exact ⟨_, _, rfl, rfl, rfl, AX.one _ _ _⟩
  · have hx' : ixd x1 R = false := by simpa using hx
    rw [hx']
    exact ⟨_, _, rfl, rfl, rfl, hA⟩
end
