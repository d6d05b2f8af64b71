/-! cells put and taken -/
theorem rng_of (lo : Nat) {hi : Nat} (hh : hi < 2 ^ 31) (hl : lo < 2 ^ 31) (x : Int32) : f_X10_in x (nI lo) (nI hi) = some false ∨ (f_X10_in x (nI lo) (nI hi) = some true ∧ ∃ b, lo ≤ b ∧ b ≤ hi ∧ x = nI b) := by
  rw [f_in]
  by_cases h1 : x < nI lo
  · left; simp [h1]
  · by_cases h2 : nI hi < x
    · left; simp [h1, h2]
    · right
      refine ⟨by simp [h1, h2], ?_⟩
      rw [Int32.lt_iff_toInt_lt, nI_toInt (by omega)] at h1 h2
      obtain ⟨j, hj, rfl⟩ := nI_of (x := x) (by rw [Int32.lt_iff_toInt_lt]; have : (0 : Int32).toInt = 0 := by decide
                                                omega)
      rw [nI_toInt hj] at h1 h2
      exact ⟨j, by omega, by omega, rfl⟩
theorem nw_c (x : Int32) : f_X3_isNumberWay x = f_X10_in x 0 7 := rfl
theorem nw_of (x : Int32) : f_X10_in x 0 7 = some false ∨ (f_X10_in x 0 7 = some true ∧ ∃ b, b < 8 ∧ x = nI b) := by
  rcases rng_of 0 (hi := 7) (by omega) (by omega) x with h | ⟨h, b, _, hb, e⟩
  · exact Or.inl h
  · exact Or.inr ⟨h, b, by omega, e⟩
theorem way_of (x : Int32) : (f_X10_isWay x = some false ∧ f_X3_puts x = some false) ∨ (f_X10_isWay x = some true ∧ f_X3_puts x = some true ∧ ∃ w, okw w ∧ x = nI w) := by
  have e : f_X3_puts x = f_X10_isWay x := by
    unfold f_X3_puts f_X10_isWay
    rw [nw_c]
    rcases nw_of x with h | ⟨h, _⟩
    · rw [h]
      simp only [Option.bind_some, ifbf]
      rcases rng_of 10 (hi := 21) (by omega) (by omega) x with q | ⟨q, _⟩
      · have q' : f_X10_in x 10 21 = some false := q
        rw [q']
        simp only [Option.bind_some, ifbf]
        exact q'
      · have q' : f_X10_in x 10 21 = some true := q
        rw [q']
        simp only [Option.bind_some, ifbt]
        exact q'
    · rw [h]; rfl
  rw [e]
  unfold f_X10_isWay
  rcases nw_of x with h | ⟨h, b, hb, eb⟩
  · rw [h]
    simp only [Option.bind_some, ifbf]
    rcases rng_of 10 (hi := 21) (by omega) (by omega) x with q | ⟨q, b, hb, hb2, eb⟩
    · have q' : f_X10_in x 10 21 = some false := q
      rw [q']
      exact Or.inl ⟨rfl, rfl⟩
    · have q' : f_X10_in x 10 21 = some true := q
      rw [q']
      exact Or.inr ⟨rfl, rfl, b, ⟨by omega, by omega, by omega⟩, eb⟩
  · rw [h]
    exact Or.inr ⟨rfl, rfl, b, ⟨by omega, by omega, by omega⟩, eb⟩
theorem neg_no : ∀ e, e < 7 → e ≠ 0 → -nI e < 0 := by decide +kernel
theorem pos_no : ∀ e, e < 7 → e ≠ 0 → ¬ nI e ≤ 0 := by decide +kernel
theorem nz_no : ∀ e, e < 7 → e ≠ 0 → ¬ nI e = 0 := by decide +kernel
section
variable {next size undoMany cols rows asz amany : Int32} {sk st : Nat → Nat → Int32} {sc : Nat → Nat → Int64} {scol srow kinds tags : Nat → Int32} {undos cells now nu row : Nat → Int64}
theorem op_put (hT : TT cols rows kinds tags cells now) (hU : UX next size sk st sc scol srow undoMany undos) (was : Nat → Int64) (x1 x2 x3 x4 : Int32) :
    ∃ oc om, f_X9_put cols rows kinds tags cells next size sk st sc scol srow x1 x2 x3 x4 = some oc ∧ f_X10_put undoMany now undos was x1 x2 x3 x4 = some om ∧ oc.1 = om.1 ∧
      TT cols rows kinds tags oc.2.1 om.2.2.2.1 ∧ UX oc.2.2.1 oc.2.2.2.1 oc.2.2.2.2.1 oc.2.2.2.2.2.1 oc.2.2.2.2.2.2.1 oc.2.2.2.2.2.2.2.1 oc.2.2.2.2.2.2.2.2 om.2.2.1 om.2.2.2.2.1 := by
  obtain ⟨sk', st', sc', scol', srow', next', size', um', un', was', -, c1, c2, c3, c4, c5, c6, c7⟩ := chg hT hU was
  obtain ⟨R, C, kd, cl, tg, hV, hC, hM⟩ := id hT
  have h6 := hV.2.1
  have no (hc : f_X9_putTold cols rows kinds cells x1 x2 x3 x4 = some (-1, cells)) (hm : f_X10_put undoMany now undos was x1 x2 x3 x4 = some (-1, 0, undoMany, now, undos, was)) : ∃ oc om, f_X9_put cols rows kinds tags cells next size sk st sc scol srow x1 x2 x3 x4 = some oc ∧ f_X10_put undoMany now undos was x1 x2 x3 x4 = some om ∧ oc.1 = om.1 ∧
      TT cols rows kinds tags oc.2.1 om.2.2.2.1 ∧ UX oc.2.2.1 oc.2.2.2.1 oc.2.2.2.2.1 oc.2.2.2.2.2.1 oc.2.2.2.2.2.2.1 oc.2.2.2.2.2.2.2.1 oc.2.2.2.2.2.2.2.2 om.2.2.1 om.2.2.2.2.1 := by
    refine ⟨(-1, cells, next, size, sk', st', sc', scol', srow'), (-1, 0, undoMany, now, undos, was), ?_, hm, rfl, hT, c7⟩
    unfold f_X9_put
    rw [c1, Option.bind_some, hc, Option.bind_some, held_no (show (-1 : Int32) < 0 by decide), Option.bind_some]
  by_cases hx : ixd x1 C = true
  · obtain ⟨c, hc, rfl⟩ := ixd_of (by omega) hx
    rcases way_of x3 with ⟨w1, w2⟩ | ⟨w1, w2, w, hw, rfl⟩
    · refine no ?_ ?_
      · unfold f_X9_putTold
        rw [hC.1, c_hasCol hV, hx, w2]
        rfl
      · unfold f_X10_put
        rw [m_isCol hV hM, hx, w1]
        rfl
    · obtain ⟨e, cells', now', cl', he, q1, q2, q3, q4, q5, q6⟩ := put_in hV hC hM hc hw x2 x4
      by_cases h0 : e = 0
      · subst h0
        refine ⟨(nI 0, cells', next', size', sk', st', sc', scol', srow'), (0, 0, um', now', un', was'), ?_, ?_, rfl, ⟨R, C, kd, cl', tg, q3, q4, q5⟩, c6⟩
        · unfold f_X9_put
          rw [c1, Option.bind_some, q1, Option.bind_some, show (-nI 0, cells').1 = nI 0 from (by decide : -nI 0 = nI 0), held_yes (by omega) c2, Option.bind_some]
        · unfold f_X10_put
          rw [m_isCol hV hM, hx, w1, c3, q2]
          simp only [Option.bind_some, ifbt]
          rw [if_pos (show nI 0 ≤ 0 by decide), c4, Option.bind_some]
      · obtain ⟨e1, e2⟩ := q6 h0
        refine ⟨(-nI e, cells', next, size, sk', st', sc', scol', srow'), (-nI e, 0, undoMany, now', undos, was'), ?_, ?_, rfl, ⟨R, C, kd, cl', tg, q3, q4, q5⟩, c7⟩
        · unfold f_X9_put
          rw [c1, Option.bind_some, q1, Option.bind_some, held_no (neg_no e (by omega) h0), Option.bind_some]
        · unfold f_X10_put
          rw [m_isCol hV hM, hx, w1, c3, q2]
          simp only [Option.bind_some, ifbt]
          rw [if_neg (pos_no e (by omega) h0)]
  · have hx' : ixd x1 C = false := by simpa using hx
    refine no ?_ ?_
    · unfold f_X9_putTold
      rw [hC.1, c_hasCol hV, hx']
      rfl
    · unfold f_X10_put
      rw [m_isCol hV hM, hx']
      rfl
theorem w8_10 : ∀ w, w < 8 → ¬ nI w = 10 := by decide +kernel
theorem wnt_0 {k w : Nat} {ro : Bool} (h : wnt k ro w = 0) : k ≤ 10 ∧ ro = true ∧ tkb k w = true ∧ (w < 8 → k < 8) := by
  unfold wnt why0 at h
  by_cases h1 : k ≤ 10
  · rw [if_pos h1] at h
    by_cases h2 : w < 8 ∧ 8 ≤ k
    · rw [if_pos h2] at h; omega
    · rw [if_neg h2] at h
      cases ro
      · simp at h
      · by_cases h3 : tkb k w = true
        · exact ⟨h1, rfl, h3, by omega⟩
        · simp [h3] at h
  · rw [if_neg h1, if_neg h1] at h
    split at h <;> omega
theorem wnp_0 {k w : Nat} {ro : Bool} (h : wnp k ro w = 0) : k ≤ 10 ∧ ro = true ∧ chb k w = true ∧ (w < 8 → k < 8) := by
  unfold wnp why0 at h
  by_cases h1 : k ≤ 10
  · rw [if_pos h1] at h
    by_cases h2 : w < 8 ∧ 8 ≤ k
    · rw [if_pos h2] at h; omega
    · rw [if_neg h2] at h
      cases ro
      · simp at h
      · by_cases h3 : chb k w = true
        · exact ⟨h1, rfl, h3, by omega⟩
        · simp [h3] at h
  · rw [if_neg h1, if_neg h1] at h
    split at h <;> omega
theorem wnt_le (k : Nat) (ro : Bool) (w : Nat) : wnt k ro w < 7 := by unfold wnt why0; split <;> (repeat' split) <;> omega
theorem wnp_le (k : Nat) (ro : Bool) (w : Nat) : wnp k ro w < 7 := by unfold wnp why0; split <;> (repeat' split) <;> omega
theorem taken_in {R C : Nat} {kd : Nat → Nat} {cl : Nat → Nat → Int64} {tg : Nat → Nat} (hV : VT R C kd cl tg) (hC : CT R C kd cl tg cols rows kinds tags cells) {c r w : Nat} (hc : c < C) (hr : r < R) (hw : w < 8) (hk : kd c < 8) (h : tkb (kd c) w = true) : ∃ z, f_X8_taken kinds cells (nI c) (nI r) (nI w) = some z ∧ f_X10_widened (cl c r) (nI (kd c)) (nI w) = some z ∧ okc w z := by
  have h6 := hV.2.1
  have hb : wdb (kd c) w = true := by
    unfold tkb at h
    simp only [Bool.or_eq_true, Bool.and_eq_true, decide_eq_true_eq] at h
    exact h.elim (fun e => by omega) (fun e => e.2)
  obtain ⟨z, z1, z2, z3⟩ := F1 (kd c) w hk hw hb (cl c r) (hV.2.2.2.1 c r hc hr)
  refine ⟨z, ?_, z2, z3⟩
  unfold f_X8_taken
  rw [c_cell hV hC hc hr, Option.bind_some, if_neg (w8_10 w hw), gdI (by omega) (by omega), nI_clamp (by omega), hC.2.2.1 c hc, z1, Option.bind_some]
theorem op_take (hT : TT cols rows kinds tags cells now) (hA : AX asz nu amany row) (x1 x2 x3 : Int32) :
    ∃ oc om, f_X9_take cols rows kinds cells asz nu x1 x2 x3 = some oc ∧ f_X10_take amany now row x1 x2 x3 = some om ∧ oc.1 = om.1 ∧ AX oc.2.1 oc.2.2 om.2.1 om.2.2.2 := by
  obtain ⟨R, C, kd, cl, tg, hV, hC, hM⟩ := id hT
  have h6 := hV.2.1
  have h16 := hV.1
  unfold f_X9_take f_X10_take f_X3_takes
  rw [hC.1, c_hasCol hV]
  try rw [← hC.1]
  rw [m_isCol hV hM, nw_c]
  by_cases hx : ixd x1 C = true
  · obtain ⟨c, hc, rfl⟩ := ixd_of (by omega) hx
    rw [hx]
    rcases nw_of x3 with hn | ⟨hn, w, hw, rfl⟩
    · rw [hn]
      simp only [Option.bind_some, ifbf, ifbt]
      by_cases h10 : x3 = 10
      · rw [if_pos h10, if_pos h10, h10, li10, c_whyNotTaken hV hC hc (Or.inr rfl), m_whyTaken hV hM hc (Or.inr rfl)]
        simp only [Option.bind_some, ifbt]
        by_cases h0 : wnt (kd c) (ixd x2 R) 10 = 0
        · obtain ⟨a1, a2, a3, a4⟩ := wnt_0 h0
          obtain ⟨r, hr, rfl⟩ := ixd_of (by omega) a2
          rw [h0, if_pos (show nI 0 = 0 by decide), if_pos (show nI 0 ≤ 0 by decide)]
          unfold f_X8_taken
          rw [c_cell hV hC hc hr, m_cell hV hM hc hr, Option.bind_some, Option.bind_some, if_pos (show nI 10 = 10 by decide), if_pos True.intro, Option.bind_some, Option.bind_some, c_tell, li0, m_tell 0 (by omega)]
          exact ⟨_, _, rfl, rfl, (by decide : -nI 0 = nI 0), AX.one _ _ _⟩
        · have := wnt_le (kd c) (ixd x2 R) 10
          rw [if_neg (nz_no _ this h0), if_neg (pos_no _ this h0)]
          exact ⟨_, _, rfl, rfl, rfl, hA⟩
      · rw [if_neg h10, if_neg h10]
        simp only [Option.bind_some, ifbf]
        exact ⟨_, _, rfl, rfl, rfl, hA⟩
    · rw [hn]
      simp only [Option.bind_some, ifbt]
      rw [c_whyNotTaken hV hC hc (Or.inl hw), m_whyTaken hV hM hc (Or.inl hw), Option.bind_some, Option.bind_some]
      by_cases h0 : wnt (kd c) (ixd x2 R) w = 0
      · obtain ⟨a1, a2, a3, a4⟩ := wnt_0 h0
        obtain ⟨r, hr, rfl⟩ := ixd_of (by omega) a2
        obtain ⟨z, z1, z2, -⟩ := taken_in hV hC hc hr hw (a4 hw) a3
        rw [h0, if_pos (show nI 0 = 0 by decide), if_pos (show nI 0 ≤ 0 by decide), z1, if_neg (w8_10 w hw), m_cell hV hM hc hr, Option.bind_some, Option.bind_some, m_kind hV hM hc, Option.bind_some, z2, Option.bind_some, Option.bind_some, c_tell, li0, m_tell 0 (by omega)]
        exact ⟨_, _, rfl, rfl, (by decide : -nI 0 = nI 0), AX.one _ _ _⟩
      · have := wnt_le (kd c) (ixd x2 R) w
        rw [if_neg (nz_no _ this h0), if_neg (pos_no _ this h0)]
        exact ⟨_, _, rfl, rfl, rfl, hA⟩
  · have hx' : ixd x1 C = false := by simpa using hx
    rw [hx']
    exact ⟨_, _, rfl, rfl, rfl, hA⟩
theorem op_count (hT : TT cols rows kinds tags cells now) (hU : UX next size sk st sc scol srow undoMany undos) (hA : AX asz nu amany row) (tsz : Int32) (x : Int32) :
    ∃ r, f_X9_count cols rows kinds cells size tsz asz x = some r ∧ f_X10_count tsz amany undoMany now x = some (r, 0) := by
  obtain ⟨R, C, kd, cl, tg, hV, hC, hM⟩ := id hT
  obtain ⟨nx, sz, -, -, -, rfl, rfl, -⟩ := id hU
  obtain ⟨n, -, rfl, rfl, -⟩ := id hA
  unfold f_X9_count f_X10_count
  rw [m_cols hM, m_rows hM, m_properBits hV hM, c_properSet hV hC, c_cellsOfNothing hV hC, m_nothings hV hM, hC.1, hC.2.1]
  simp only [Option.bind_some]
  repeat' split
  all_goals exact ⟨_, rfl, rfl⟩
theorem m_whyPut {R C : Nat} {kd : Nat → Nat} {cl : Nat → Nat → Int64} {tg : Nat → Nat} (hV : VT R C kd cl tg) (hM : MT R C kd cl tg now) {c w : Nat} (hc : c < C) (hw : w < 22) (x : Int32) : f_X10_whyNot now (nI c) x (nI w) (b2i (chb (kd c) w)) = some (nI (wnp (kd c) (ixd x R) w)) := m_whyNot hV hM hc hw x _
theorem w8_tk : ∀ w, w < 8 → tk w = w := by decide +kernel
theorem okw8 {w : Nat} (h : w < 8) : okw w := ⟨by omega, by omega, by omega⟩
/-- a thing told by a way goes into a cell that can hold it: both sides -/
theorem store_in {R C : Nat} {kd : Nat → Nat} {cl : Nat → Nat → Int64} {tg : Nat → Nat} (hV : VT R C kd cl tg) (hC : CT R C kd cl tg cols rows kinds tags cells) (hM : MT R C kd cl tg now) {c r w : Nat} (hc : c < C) (hr : r < R) (hk : kd c ≤ 10) (hw : okw w) (hch : chb (kd c) w = true) {z : Int64} (hz3 : w ≠ 21 → okc (tk w) z) (hz4 : w = 21 → z = nothing) :
    ∃ z', f_X8_store kinds cells (nI c) (nI r) (nI (tk w)) z = some (vp_updL cells (c * 16 + r) z') ∧ f_X10_store now (nI c) (nI r) (nI w) z = some (vp_updL now (24 + 16 * c + r) z') ∧
      VT R C kd (up2 cl c r z') tg ∧ CT R C kd (up2 cl c r z') tg cols rows kinds tags (vp_updL cells (c * 16 + r) z') ∧ MT R C kd (up2 cl c r z') tg (vp_updL now (24 + 16 * c + r) z') := by
  obtain ⟨z', hA, hB, hB2, hO⟩ : ∃ z', f_X3_widened (nI (tk w)) (nI (kd c)) z = some z' ∧ (kd c < 8 → ¬ (w = 19 ∨ w = 20 ∨ w = 21) ∧ f_X10_widened z (nI (tk w)) (nI (kd c)) = some z') ∧ (8 ≤ kd c → z' = z) ∧ okc (kd c) z' := by
    by_cases h8 : kd c < 8
    · obtain ⟨q1, q2⟩ := chb_small h8 hw hch
      have hn : ¬ (w = 19 ∨ w = 20 ∨ w = 21) := by
        intro e
        rcases e with rfl | rfl | rfl <;> exact absurd q1 (by decide)
      obtain ⟨z', a1, a2, a3⟩ := F1 (tk w) (kd c) q1 h8 q2 z (hz3 (fun e => hn (Or.inr (Or.inr e))))
      exact ⟨z', a1, fun _ => ⟨hn, a2⟩, fun h => by omega, a3⟩
    · refine ⟨z, c_wide8 (by omega) (by omega) (by have := tk_le w hw.1; omega) z, fun h => absurd h h8, fun _ => rfl, ?_⟩
      rcases chb_big (by omega) (by omega) hw hch with q | ⟨q1, q2⟩ | ⟨q1, q2⟩
      · rw [hz4 q]; exact okc_nothing (by omega)
      · have hne : w ≠ 21 := by rintro rfl; exact absurd q2 (by decide)
        have := hz3 hne
        rw [q2] at this
        rw [q1]; exact okc_48 this
      · have hne : w ≠ 21 := by rintro rfl; have h14 : tk 21 = 14 := by decide
                                omega
        have := hz3 hne
        rw [q2] at this
        exact this
  exact ⟨z', c_store hV hC hc hr hA, m_store hV hM hc hr hw hB hB2, hV.set z' (fun _ => hO), hC.set hV hc hr z', hM.set hV hc hr z'⟩
theorem op_carries (hT : TT cols rows kinds tags cells now) (hU : UX next size sk st sc scol srow undoMany undos) (was : Nat → Int64) (x1 x2 x3 x4 x5 : Int32) :
    ∃ oc om, f_X9_carries cols rows kinds tags cells next size sk st sc scol srow x1 x2 x3 x4 x5 = some oc ∧ f_X10_carries undoMany now undos was x1 x2 x3 x4 x5 = some om ∧ oc.1 = om.1 ∧
      TT cols rows kinds tags oc.2.1 om.2.2.2.1 ∧ UX oc.2.2.1 oc.2.2.2.1 oc.2.2.2.2.1 oc.2.2.2.2.2.1 oc.2.2.2.2.2.2.1 oc.2.2.2.2.2.2.2.1 oc.2.2.2.2.2.2.2.2 om.2.2.1 om.2.2.2.2.1 := by
  obtain ⟨sk', st', sc', scol', srow', next', size', um', un', was', -, c1, c2, c3, c4, c5, c6, c7⟩ := chg hT hU was
  obtain ⟨R, C, kd, cl, tg, hV, hC, hM⟩ := id hT
  have h6 := hV.2.1
  have h16 := hV.1
  unfold f_X9_carries f_X10_carries
  rw [hC.1, c_hasCol hV, c_hasCol hV]
  try rw [← hC.1]
  rw [m_isCol hV hM, m_isCol hV hM, nw_c]
  by_cases hx : ixd x1 C = true
  · obtain ⟨c, hc, rfl⟩ := ixd_of (by omega) hx
    rw [hx]
    by_cases hy : ixd x3 C = true
    · obtain ⟨d, hd, rfl⟩ := ixd_of (by omega) hy
      rw [hy]
      rcases nw_of x5 with hn | ⟨hn, w, hw, rfl⟩
      · rw [hn]
        exact ⟨_, _, rfl, rfl, rfl, hT, hU⟩
      · rw [hn]
        simp only [Option.bind_some, ifbt]
        rw [c_whyNotTaken hV hC hc (Or.inl hw), m_whyTaken hV hM hc (Or.inl hw), Option.bind_some, Option.bind_some]
        by_cases h0 : wnt (kd c) (ixd x2 R) w = 0
        · obtain ⟨a1, a2, a3, a4⟩ := wnt_0 h0
          obtain ⟨r, hr, rfl⟩ := ixd_of (by omega) a2
          obtain ⟨z, z1, z2, z3⟩ := taken_in hV hC hc hr hw (a4 hw) a3
          rw [h0, if_pos (show nI 0 = 0 by decide), if_pos (show nI 0 ≤ 0 by decide), m_cell hV hM hc hr, m_kind hV hM hc, m_kind hV hM hd, c_whyNotPut hV hC hd (okw8 hw)]
          simp only [Option.bind_some]
          rw [z2, Option.bind_some, hold_dec (kd d) (by have := hV.2.2.1 d hd; omega) w (by omega) (by omega) (by omega), Option.bind_some, m_whyPut hV hM hd (by omega), Option.bind_some]
          by_cases h1 : wnp (kd d) (ixd x4 R) w = 0
          · obtain ⟨b1, b2, b3, b4⟩ := wnp_0 h1
            obtain ⟨s, hs, rfl⟩ := ixd_of (by omega) b2
            obtain ⟨z', y1, y2, y3, y4, y5⟩ := store_in hV hC hM hd hs b1 (okw8 hw) b3 (z := z) (fun _ => by rw [w8_tk w hw]; exact z3) (fun e => by omega)
            rw [w8_tk w hw] at y1
            rw [h1, if_pos (show nI 0 = 0 by decide), if_pos (show nI 0 ≤ 0 by decide), c1, c5, z1, c2]
            simp only [Option.bind_some]
            rw [y1, y2]
            exact ⟨_, _, rfl, rfl, rfl, ⟨R, C, kd, _, tg, y3, y4, y5⟩, c6⟩
          · have := wnp_le (kd d) (ixd x4 R) w
            rw [if_neg (nz_no _ this h1), if_neg (pos_no _ this h1)]
            exact ⟨_, _, rfl, rfl, rfl, hT, hU⟩
        · have := wnt_le (kd c) (ixd x2 R) w
          rw [if_neg (nz_no _ this h0), if_neg (pos_no _ this h0)]
          exact ⟨_, _, rfl, rfl, rfl, hT, hU⟩
    · have hy' : ixd x3 C = false := by simpa using hy
      rw [hy']
      exact ⟨_, _, rfl, rfl, rfl, hT, hU⟩
  · have hx' : ixd x1 C = false := by simpa using hx
    rw [hx']
    exact ⟨_, _, rfl, rfl, rfl, hT, hU⟩
theorem w8_lt : ∀ w, w < 8 → ¬ (7 : Int32) < nI w ∧ ¬ (8 : Int32) ≤ nI w := by decide +kernel
theorem or_0 (x : Int32) : x ||| 0 = x := by simp
theorem ways_in {R C : Nat} {kd : Nat → Nat} {cl : Nat → Nat → Int64} {tg : Nat → Nat} (hV : VT R C kd cl tg) (hC : CT R C kd cl tg cols rows kinds tags cells) (hM : MT R C kd cl tg now) {c : Nat} (hc : c < C) : ∀ (k i n : Nat) (a b : Int32), i + k = 8 → k < n → ∃ o, L_X9_ways_20 rows kinds (nI c) n a b (nI i) = some o ∧ L_X10_ways_22 now (nI c) n a b (nI i) = some o := by
  intro k
  induction k with
  | zero =>
    intro i n a b hi hn
    obtain ⟨n, rfl⟩ : ∃ n', n = n' + 1 := ⟨n - 1, by omega⟩
    obtain rfl : i = 8 := by omega
    rw [L_X9_ways_20, L_X10_ways_22, if_pos (by decide), if_pos (by decide)]
    exact ⟨_, rfl, rfl⟩
  | succ k ih =>
    intro i n a b hi hn
    obtain ⟨n, rfl⟩ : ∃ n', n = n' + 1 := ⟨n - 1, by omega⟩
    have hi8 : i < 8 := by omega
    have h13 := hV.2.2.1 c hc
    rw [L_X9_ways_20, L_X10_ways_22, if_neg (w8_lt i hi8).1, if_neg (w8_lt i hi8).2, c_whyNotTaken hV hC hc (Or.inl hi8), m_whyTaken hV hM hc (Or.inl hi8), c_whyNotPut hV hC hc (okw8 hi8), m_kind hV hM hc]
    simp only [Option.bind_some]
    rw [hold_dec (kd c) (by omega) i (by omega) (by omega) (by omega)]
    simp only [Option.bind_some]
    rw [m_whyPut hV hM hc (by omega)]
    simp only [Option.bind_some]
    rw [nI_1]
    by_cases h1 : nI (wnt (kd c) (ixd 0 R) i) = 0
    · rw [if_pos h1, if_pos h1]
      simp only [Option.bind_some]
      by_cases h2 : nI (wnp (kd c) (ixd 0 R) i) = 0
      · rw [if_pos h2, if_pos h2]
        exact ih _ _ _ _ (by omega) (by omega)
      · rw [if_neg h2, if_neg h2, or_0]
        exact ih _ _ _ _ (by omega) (by omega)
    · rw [if_neg h1, if_neg h1]
      simp only [Option.bind_some]
      rw [or_0]
      by_cases h2 : nI (wnp (kd c) (ixd 0 R) i) = 0
      · rw [if_pos h2, if_pos h2]
        exact ih _ _ _ _ (by omega) (by omega)
      · rw [if_neg h2, if_neg h2, or_0]
        exact ih _ _ _ _ (by omega) (by omega)
theorem op_ways (hT : TT cols rows kinds tags cells now) (hA : AX asz nu amany row) (x : Int32) :
    ∃ oc om, f_X9_ways cols rows kinds asz nu x = some oc ∧ f_X10_ways amany now row x = some om ∧ oc.1 = om.1 ∧ AX oc.2.1 oc.2.2 om.2.1 om.2.2.2 := by
  obtain ⟨R, C, kd, cl, tg, hV, hC, hM⟩ := id hT
  have h6 := hV.2.1
  unfold f_X9_ways f_X10_ways
  rw [hC.1, c_hasCol hV]
  try rw [← hC.1]
  rw [m_isCol hV hM]
  by_cases hx : ixd x C = true
  · obtain ⟨c, hc, rfl⟩ := ixd_of (by omega) hx
    rw [hx]
    simp only [Option.bind_some, ifbt]
    obtain ⟨o, o1, o2⟩ := ways_in hV hC hM hc 8 0 fu 0 0 (by omega) (by unfold fu; omega)
    have o1' : L_X9_ways_20 rows kinds (nI c) fu 0 0 0 = some o := o1
    have o2' : L_X10_ways_22 now (nI c) fu 0 0 0 = some o := o2
    rw [o1', o2', Option.bind_some, Option.bind_some, c_tell, li0, m_tell 0 (by omega)]
    exact ⟨_, _, rfl, rfl, rfl, AX.one _ _ _⟩
  · have hx' : ixd x C = false := by simpa using hx
    rw [hx']
    exact ⟨_, _, rfl, rfl, rfl, hA⟩
end
