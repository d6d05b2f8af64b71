/-! a day: read and done, both sides -/
def ps (b : Nat → Nat) : Nat → Nat
  | 0 => 0
  | j + 1 => ps b j + sg (b (ps b j))
theorem w81 : ∀ w, w < 81 → ¬ nI w = -1 := by decide +kernel
theorem gdK {α : Type} {k N : Nat} {e : Option α} (h : k < N) (hk : k < 2 ^ 31) : (if nI k < 0 ∨ N ≤ k then none else e) = e := if_neg (fun q => q.elim (nI_pos hk) (fun q => by omega))
theorem let_dec : ∀ v, v < 103 → 97 ≤ v → nI v - 97 = nI (v - 97) := by decide +kernel
section
variable {n : Nat} {b : Nat → Nat} {signs text : Nat → Int32}
theorem day_read (hn : n ≤ 80) (hb : ∀ p, p < n → b p < 256 ∧ signs p = nI (b p) ∧ text p = bt (b p)) (o : Int32 × Int32 × Int32 × Int32) (ho : o.2.1 = nI n) : ∀ (k j m : Nat) (read : Nat → Int32), ps b j + k = n → j ≤ ps b j → k + 1 < m → (∀ i, i < j → ps b i < n ∧ wa n b (ps b i) = none ∧ RD b read i (ps b i)) →
    (∃ w a x r, w < 81 ∧ L_X9_wrongInDay_2 (nI n) signs m (nI (ps b j)) = some (.inr (nI w)) ∧ L_X10_day_11 text o m (nI j) (nI (ps b j)) (-1) read = some (x, a, nI w, r)) ∨
    (∃ N r, N ≤ 80 ∧ ps b N = n ∧ (∀ i, i < N → ps b i < n ∧ wa n b (ps b i) = none ∧ RD b r i (ps b i)) ∧ L_X9_wrongInDay_2 (nI n) signs m (nI (ps b j)) = some (.inl ()) ∧ L_X10_day_11 text o m (nI j) (nI (ps b j)) (-1) read = some (nI N, nI n, -1, r)) := by
  intro k
  induction k using Nat.strongRecOn with
  | ind k ih =>
    intro j m read hk hj hm hr
    obtain ⟨m, rfl⟩ : ∃ m', m = m' + 1 + 1 := ⟨m - 2, by omega⟩
    by_cases hk0 : k = 0
    · subst hk0
      right
      have e : ps b j = n := by omega
      refine ⟨j, read, by omega, e, hr, ?_, ?_⟩
      · rw [e, L_X9_wrongInDay_2, if_pos (nI_le (Nat.le_refl _) (by omega))]
      · rw [e, L_X10_day_11, m_fine1, Option.bind_some, ifbt, ho, if_pos (nI_le (Nat.le_refl _) (by omega))]
    · have hp : ps b j < n := by omega
      have hmo : L_X10_day_11 text o (m + 1 + 1) (nI j) (nI (ps b j)) (-1) read = (f_X10_readAct (nI n) (nI (ps b j)) (-1) text read (nI (5 * j))).bind (fun o_1496 => (L_X10_day_11 text o (m + 1) (nI j + 1) o_1496.1 o_1496.2.1 o_1496.2.2)) := by
        rw [L_X10_day_11, m_fine1, Option.bind_some, ifbt, ho, if_neg (nI_ge hp (by omega)), nI_5]
      have hco : L_X9_wrongInDay_2 (nI n) signs (m + 1 + 1) (nI (ps b j)) = (if war (wa n b (ps b j)) = (-1 : Int32) then (L_X9_wrongInDay_2 (nI n) signs (m + 1) (nI (ps b j) + mmax 1 (nI (sg (b (ps b j)))))) else some (.inr (war (wa n b (ps b j))))) := by
        rw [L_X9_wrongInDay_2, if_neg (nI_ge hp (by omega)), c_wrongInAct hn hb hp, Option.bind_some, c_signsOfAct hn hb hp, Option.bind_some]
      cases hw : wa n b (ps b j) with
      | some w =>
        left
        have hw81 : w < 81 := by have := wa_w hp hw; omega
        obtain ⟨a, r, e⟩ := m_readAct_bad hn hb hp (show j < 81 by omega) read hw
        refine ⟨w, a, nI j + 1, r, hw81, ?_, ?_⟩
        · rw [hco, hw]
          show (if nI w = (-1 : Int32) then _ else some (Sum.inr (nI w))) = _
          rw [if_neg (w81 w hw81)]
        · rw [hmo, e, Option.bind_some, L_X10_day_11, m_fine0 hw81, Option.bind_some, ifbf]
      | none =>
        obtain ⟨s1, s2⟩ := wa_end hp hw
        obtain ⟨r, e, hRD, hrr⟩ := m_readAct_ok hn hb hp (show j < 81 by omega) read hw
        have e1 : L_X9_wrongInDay_2 (nI n) signs (m + 1 + 1) (nI (ps b j)) = L_X9_wrongInDay_2 (nI n) signs (m + 1) (nI (ps b (j + 1))) := by
          rw [hco, hw]
          show (if (-1 : Int32) = (-1 : Int32) then _ else _) = _
          rw [if_pos rfl, mmax1 _ (by have := sg_le (b (ps b j)); omega) s1, nI_add]
          rfl
        have e2 : L_X10_day_11 text o (m + 1 + 1) (nI j) (nI (ps b j)) (-1) read = L_X10_day_11 text o (m + 1) (nI (j + 1)) (nI (ps b (j + 1))) (-1) r := by
          rw [hmo, e, Option.bind_some, nI_1]
          rfl
        rw [e1, e2]
        have eps : ps b (j + 1) = ps b j + sg (b (ps b j)) := rfl
        refine ih (n - ps b (j + 1)) (by omega) (j + 1) (m + 1) r (by omega) (by omega) (by omega) (fun i hi => ?_)
        by_cases hij : i = j
        · subst hij; exact ⟨hp, hw, hRD⟩
        · obtain ⟨a1, a2, a3⟩ := hr i (by omega)
          exact ⟨a1, a2, a3.cong (show i < j by omega) hrr⟩
theorem c_letterAt (hn : n ≤ 80) (hb : ∀ p, p < n → b p < 256 ∧ signs p = nI (b p) ∧ text p = bt (b p)) {p : Nat} (hc : bw n b 97 6 p = true) : f_X7_letterAt (nI n) signs (nI p) = some (nI (b p - 97)) := by
  have h := bw_p hc
  unfold f_X7_letterAt
  rw [@c_signAt n b signs text hn hb p (by omega), if_pos h.1, Option.bind_some, let_dec _ (by omega) h.2.1]
theorem move_any {cols rows : Int32} {kinds tags : Nat → Int32} {cells now : Nat → Int64} (hT : TT cols rows kinds tags cells now) (x y : Int32) (sw : Bool) (lr lp : Int32) (line lt un : Nat → Int32) (lc : Nat → Int64) (rks dis pro lm : Nat → Int32) (thn : Nat → Int64) :
    (∃ oc z, f_X9_moveTold cols rows kinds tags cells lr lp line lt lc un x y (b2i sw) = some oc ∧ f_X10_refusesTwo now x y = some z ∧ ¬ z = 0 ∧ ¬ 0 ≤ oc.1 ∧ oc.2.1 = tags ∧ oc.2.2.1 = cells) ∨
    (∃ oc om, f_X9_moveTold cols rows kinds tags cells lr lp line lt lc un x y (b2i sw) = some oc ∧ f_X10_refusesTwo now x y = some 0 ∧ f_X10_arrange now rks dis pro lm thn x y (b2i (!sw)) = some om ∧ 0 ≤ oc.1 ∧ om.1 < 120 ∧ TT cols rows kinds oc.2.1 oc.2.2.1 om.2.2.1) := by
  obtain ⟨R, C, kd, cl, tg, hV, hC, hM⟩ := id hT
  have h16 := hV.1
  have mr := m_refuses hV hM x y
  by_cases hx : ixd x R = true
  · by_cases hy : ixd y R = true
    · by_cases hxy : x = y
      · left
        subst hxy
        refine ⟨(-2, tags, cells, lr, lp, line, lt, lc, un), -2, ?_, ?_, by decide, (show ¬ (0 : Int32) ≤ -2 by decide), rfl, rfl⟩
        · unfold f_X9_moveTold
          rw [hC.2.1, c_hasRow, hx]
          simp only [Option.bind_some, ifbt, if_true]
        · rw [mr, if_pos hx, if_pos hx, if_pos rfl]
      · right
        obtain ⟨a, ha, rfl⟩ := ixd_of (by omega) hx
        obtain ⟨c, hc, rfl⟩ := ixd_of (by omega) hy
        obtain ⟨oc, om, e, q1, q2, q3, q4, q5, q6, q7⟩ := move_in hV hC hM ha hc (fun e => hxy (by rw [e])) sw lr lp line lt un lc rks dis pro lm thn
        refine ⟨oc, om, q1, ?_, q2, ?_, q6, q7⟩
        · rw [mr, if_pos hx, if_pos hy, if_neg hxy]
        · rw [q3]; exact nI_pos' (by omega)
    · left
      have hy' : ixd y R = false := by simpa using hy
      refine ⟨(-1, tags, cells, lr, lp, line, lt, lc, un), -1, ?_, ?_, by decide, (show ¬ (0 : Int32) ≤ -1 by decide), rfl, rfl⟩
      · unfold f_X9_moveTold
        rw [hC.2.1, c_hasRow, c_hasRow, hx, hy']
        simp only [Option.bind_some, ifbt, ifbf]
      · rw [mr, if_pos hx, if_neg hy]
  · left
    have hx' : ixd x R = false := by simpa using hx
    refine ⟨(-1, tags, cells, lr, lp, line, lt, lc, un), -1, ?_, ?_, by decide, (show ¬ (0 : Int32) ≤ -1 by decide), rfl, rfl⟩
    · unfold f_X9_moveTold
      rw [hC.2.1, c_hasRow, hx']
      simp only [Option.bind_some, ifbf]
    · rw [mr, if_neg hx]

theorem act_both (hn : n ≤ 80) (hb : ∀ p, p < n → b p < 256 ∧ signs p = nI (b p) ∧ text p = bt (b p)) {cols rows : Int32} {kinds tags : Nat → Int32} {cells now : Nat → Int64} (hT : TT cols rows kinds tags cells now) {p j : Nat} (hp : p < n) (hw : wa n b p = none) (hj : j < 81) {read : Nat → Int32} (hR : RD b read j p) (lr lp : Int32) (line bef lt un : Nat → Int32) (lc : Nat → Int64) (am pm : Int32) (row : Nat → Int64) (rks dis pro lm lthn : Nat → Int32) (thn : Nat → Int64) :
    ∃ oc om, f_X9_doAct cols rows kinds tags cells (nI n) signs lr lp line bef lt lc un (nI p) = some oc ∧ f_X10_act am pm now row read rks dis pro lm thn lthn (nI (5 * j)) = some om ∧ (om.1 = true → 0 ≤ oc.1) ∧ (om.1 = false → ¬ 0 ≤ oc.1) ∧ TT cols rows kinds oc.2.1 oc.2.2.1 om.2.2.2.1 := by
  obtain ⟨r0, r1, r2, r3⟩ := hR
  have ha := @c_signAt n b signs text hn hb p (by omega)
  rw [if_pos hp] at ha
  unfold wa at hw
  by_cases h0 : sg (b p) = 0
  · rw [if_pos h0] at hw; cases hw
  rw [if_neg h0] at hw
  have cl0 := nI_clamp (show 5 * j < 2 ^ 31 by omega)
  have cl1 := nI_clamp (show 5 * j + 1 < 2 ^ 31 by omega)
  have cl2 := nI_clamp (show 5 * j + 2 < 2 ^ 31 by omega)
  have cl3 := nI_clamp (show 5 * j + 3 < 2 ^ 31 by omega)
  have cl4 := nI_clamp (show 5 * j + 4 < 2 ^ 31 by omega)
  rcases sgl_of h0 with hv | hv | hv | hv | hv
  · rw [hv] at hw
    have hw' : orf (fd n b (p + 1) 2) (fd n b (p + 1 + 2) 2) = none := (fd_add n b 2 2 (p + 1)).symm.trans hw
    obtain ⟨w1, w2⟩ := orf_none hw'
    have g1 := fd_none 2 (p + 1) w1
    have g2 := fd_none 2 (p + 1 + 2) w2
    have a1 : f_X7_twoDigitsAt (nI n) signs (nI (p + 1)) = some (nI (v2 b (p + 1))) := c_twoDigits (p := p + 1) hn hb (by omega) (g1 0 (by omega)) (g1 1 (by omega))
    have a2 : f_X7_twoDigitsAt (nI n) signs (nI (p + 3)) = some (nI (v2 b (p + 3))) := c_twoDigits (p := p + 3) hn hb (by omega) (g2 0 (by omega)) (g2 1 (by omega))
    obtain ⟨e1, e2⟩ := r1 (Or.inr hv)
    have hC : ∀ oc, f_X9_moveTold cols rows kinds tags cells lr lp line lt lc un (nI (v2 b (p + 1))) (nI (v2 b (p + 3))) 0 = some oc → f_X9_doAct cols rows kinds tags cells (nI n) signs lr lp line bef lt lc un (nI p) = some (oc.1, oc.2.1, oc.2.2.1, oc.2.2.2.1, oc.2.2.2.2.1, oc.2.2.2.2.2.1, bef, oc.2.2.2.2.2.2.1, oc.2.2.2.2.2.2.2.1, oc.2.2.2.2.2.2.2.2) := by
      intro oc q
      unfold f_X9_doAct
      rw [ha, Option.bind_some, hv, if_pos (by decide), nI_1 p, a1, Option.bind_some, nI_k3 p, a2, Option.bind_some, q, Option.bind_some]
    rcases move_any hT (nI (v2 b (p + 1))) (nI (v2 b (p + 3))) false lr lp line lt un lc rks dis pro lm thn with ⟨oc, z, q1, q2, q3, q4, q5, q6⟩ | ⟨oc, om, q1, q2, q3, q4, q5, q6⟩
    · refine ⟨_, (false, am, pm, now, row, rks, dis, pro, lm, thn, lthn), hC oc q1, ?_, fun h => (by cases h), fun _ => q4, ?_⟩
      · unfold f_X10_act
        rw [nI_1 (5 * j), nI_k2 (5 * j), nI_k3 (5 * j), nI_k4 (5 * j), cl0, cl1, cl2, cl3, cl4, gdK (by omega) (by omega), gdK (by omega) (by omega), gdK (by omega) (by omega), r0, hv, if_neg (by decide), if_neg (by decide), if_neg (by decide), if_neg (by decide), if_neg (by decide), e1, e2, q2, Option.bind_some, if_neg q3]
      · show TT cols rows kinds oc.2.1 oc.2.2.1 now
        rw [q5, q6]
        exact hT
    · refine ⟨_, (true, am, om.2.1, om.2.2.1, row, om.2.2.2.1, om.2.2.2.2.1, om.2.2.2.2.2.1, om.2.2.2.2.2.2.1, om.2.2.2.2.2.2.2, lthn), hC oc q1, ?_, fun _ => q4, fun h => (by cases h), q6⟩
      have q3' : f_X10_arrange now rks dis pro lm thn (nI (v2 b (p + 1))) (nI (v2 b (p + 3))) 1 = some om := q3
      unfold f_X10_act
      rw [nI_1 (5 * j), nI_k2 (5 * j), nI_k3 (5 * j), nI_k4 (5 * j), cl0, cl1, cl2, cl3, cl4, gdK (by omega) (by omega), gdK (by omega) (by omega), gdK (by omega) (by omega), r0, hv, if_neg (by decide), if_neg (by decide), if_neg (by decide), if_neg (by decide), if_neg (by decide), e1, e2, q2, Option.bind_some, if_pos rfl, gdK (by omega) (by omega), if_pos (by decide), Option.bind_some, q3', Option.bind_some, if_neg (Int32.not_le.mpr q5)]
  · rw [hv, if_pos rfl] at hw
    by_cases hc : bw n b 97 6 (p + 1) = true
    rotate_left
    · rw [if_neg hc] at hw; cases hw
    rw [if_pos hc] at hw
    have hcp := bw_p hc
    have hw' : orf (fd n b (p + 2) 2) (fd n b (p + 2 + 2) 4) = none := (fd_add n b 2 4 (p + 2)).symm.trans hw
    obtain ⟨w1, hw2⟩ := orf_none hw'
    have hw'' : orf (fd n b (p + 4) 2) (fd n b (p + 4 + 2) 2) = none := (fd_add n b 2 2 (p + 4)).symm.trans hw2
    obtain ⟨w2, w3⟩ := orf_none hw''
    have g1 := fd_none 2 (p + 2) w1
    have g2 := fd_none 2 (p + 4) w2
    have g3 := fd_none 2 (p + 4 + 2) w3
    have a0 := c_letterAt hn hb hc
    have a1 : f_X7_twoDigitsAt (nI n) signs (nI (p + 2)) = some (nI (v2 b (p + 2))) := c_twoDigits (p := p + 2) hn hb (by omega) (g1 0 (by omega)) (g1 1 (by omega))
    have a2 : f_X7_twoDigitsAt (nI n) signs (nI (p + 4)) = some (nI (v2 b (p + 4))) := c_twoDigits (p := p + 4) hn hb (by omega) (g2 0 (by omega)) (g2 1 (by omega))
    have a3 : f_X7_twoDigitsAt (nI n) signs (nI (p + 6)) = some (nI (v2 b (p + 6))) := c_twoDigits (p := p + 6) hn hb (by omega) (g3 0 (by omega)) (g3 1 (by omega))
    obtain ⟨e1, e2, e3, e4⟩ := r3 hv
    have hC' : ∀ oc, f_X9_putTold cols rows kinds cells (nI (b (p + 1) - 97)) (nI (v2 b (p + 2))) (nI (v2 b (p + 4))) (nI (v2 b (p + 6))) = some oc → f_X9_doAct cols rows kinds tags cells (nI n) signs lr lp line bef lt lc un (nI p) = some (oc.1, tags, oc.2, lr, lp, line, bef, lt, lc, un) := by
      intro oc q
      unfold f_X9_doAct
      rw [ha, Option.bind_some, hv, if_neg (by decide), if_neg (by decide), if_neg (by decide), if_pos (by decide), nI_1 p, a0, Option.bind_some, nI_k2 p, a1, Option.bind_some, nI_k4 p, a2, Option.bind_some, nI_k6 p, a3, Option.bind_some, q, Option.bind_some]
    obtain ⟨R, C, kd, cl, tg, hV, hC, hM⟩ := id hT
    have h6 := hV.2.1
    generalize b (p + 1) - 97 = c at *
    generalize nI (v2 b (p + 2)) = x at *
    generalize nI (v2 b (p + 4)) = y at *
    generalize nI (v2 b (p + 6)) = z at *
    by_cases hx : ixd (nI c) C = true
    · rcases way_of y with ⟨y1, y2⟩ | ⟨y1, y2, k, hk, rfl⟩
      · refine ⟨_, (false, am, pm, now, row, rks, dis, pro, lm, thn, lthn), hC' (-1, cells) ?_, ?_, fun h => (by cases h), fun _ => (show ¬ (0 : Int32) ≤ -1 by decide), hT⟩
        · unfold f_X9_putTold
          rw [hC.1, c_hasCol hV, hx, y2]
          rfl
        · unfold f_X10_act
          rw [nI_1 (5 * j), nI_k2 (5 * j), nI_k3 (5 * j), nI_k4 (5 * j), cl0, cl1, cl2, cl3, cl4, gdK (by omega) (by omega), gdK (by omega) (by omega), gdK (by omega) (by omega), r0, hv, if_pos (by decide), e1, e3, m_isCol hV hM, hx, Option.bind_some, ifbt, gdK (by omega) (by omega), y1, Option.bind_some, ifbf]
      · obtain ⟨c', hc', ec⟩ := ixd_of (by omega) hx
        obtain ⟨e, cells', now', cl', he, q1, q2, q3, q4, q5, q6⟩ := put_in hV hC hM hc' hk x z
        rw [← ec] at q1 q2
        by_cases he0 : e = 0
        · subst he0
          refine ⟨_, (true, am, pm, now', row, rks, dis, pro, lm, thn, lthn), hC' _ q1, ?_, fun _ => (show (0 : Int32) ≤ -nI 0 by decide), fun h => (by cases h), ⟨R, C, kd, cl', tg, q3, q4, q5⟩⟩
          unfold f_X10_act
          rw [nI_1 (5 * j), nI_k2 (5 * j), nI_k3 (5 * j), nI_k4 (5 * j), cl0, cl1, cl2, cl3, cl4, gdK (by omega) (by omega), gdK (by omega) (by omega), gdK (by omega) (by omega), r0, hv, if_pos (by decide), e1, e2, e3, e4, m_isCol hV hM, hx, Option.bind_some, ifbt, gdK (by omega) (by omega), y1, Option.bind_some, ifbt, gdK (by omega) (by omega), gdK (by omega) (by omega), q2, Option.bind_some, if_pos nI_0']
        · refine ⟨_, (false, am, pm, now', row, rks, dis, pro, lm, thn, lthn), hC' _ q1, ?_, fun h => (by cases h), fun _ => Int32.not_le.mpr (neg_no e (by omega) he0), ⟨R, C, kd, cl', tg, q3, q4, q5⟩⟩
          unfold f_X10_act
          rw [nI_1 (5 * j), nI_k2 (5 * j), nI_k3 (5 * j), nI_k4 (5 * j), cl0, cl1, cl2, cl3, cl4, gdK (by omega) (by omega), gdK (by omega) (by omega), gdK (by omega) (by omega), r0, hv, if_pos (by decide), e1, e2, e3, e4, m_isCol hV hM, hx, Option.bind_some, ifbt, gdK (by omega) (by omega), y1, Option.bind_some, ifbt, gdK (by omega) (by omega), gdK (by omega) (by omega), q2, Option.bind_some, if_neg (nI_ne0 (by omega) (by omega))]
    · have hx' : ixd (nI c) C = false := by simpa using hx
      refine ⟨_, (false, am, pm, now, row, rks, dis, pro, lm, thn, lthn), hC' (-1, cells) ?_, ?_, fun h => (by cases h), fun _ => (show ¬ (0 : Int32) ≤ -1 by decide), hT⟩
      · unfold f_X9_putTold
        rw [hC.1, c_hasCol hV, hx']
        rfl
      · unfold f_X10_act
        rw [nI_1 (5 * j), nI_k2 (5 * j), nI_k3 (5 * j), nI_k4 (5 * j), cl0, cl1, cl2, cl3, cl4, gdK (by omega) (by omega), gdK (by omega) (by omega), gdK (by omega) (by omega), r0, hv, if_pos (by decide), e1, m_isCol hV hM, hx', Option.bind_some, ifbf]
  · obtain ⟨R, C, kd, cl, tg, hV, hC, hM⟩ := id hT
    obtain ⟨oc, om, e, q1, q2, q3, q4, q5, q6⟩ := restore_in hV hC hM line lt un lc lm thn
    refine ⟨(oc.1, oc.2.1, oc.2.2.1, oc.2.2.2.1, oc.2.2.2.2.1, oc.2.2.2.2.2.1, bef, oc.2.2.2.2.2.2.1, oc.2.2.2.2.2.2.2.1, oc.2.2.2.2.2.2.2.2), (true, am, pm, om.2.1, row, rks, dis, pro, om.2.2.1, om.2.2.2, lthn), ?_, ?_, fun _ => ?_, fun h => (by cases h), q6⟩
    · unfold f_X9_doAct
      rw [ha, Option.bind_some, hv, if_neg (by decide), if_neg (by decide), if_neg (by decide), if_neg (by decide), if_neg (by decide), if_pos (by decide), q1, Option.bind_some]
    · unfold f_X10_act
      rw [nI_1 (5 * j), nI_k2 (5 * j), nI_k3 (5 * j), nI_k4 (5 * j), cl0, cl1, cl2, cl3, cl4, gdK (by omega) (by omega), gdK (by omega) (by omega), gdK (by omega) (by omega), r0, hv, if_neg (by decide), if_neg (by decide), if_pos (by decide), q2, Option.bind_some, q4, if_neg (nI_pos (by omega))]
    · show 0 ≤ oc.1
      rw [q3]
      exact nI_pos' (by omega)
  · rw [hv] at hw
    have hw' : orf (fd n b (p + 1) 2) (fd n b (p + 1 + 2) 2) = none := (fd_add n b 2 2 (p + 1)).symm.trans hw
    obtain ⟨w1, w2⟩ := orf_none hw'
    have g1 := fd_none 2 (p + 1) w1
    have g2 := fd_none 2 (p + 1 + 2) w2
    have a1 : f_X7_twoDigitsAt (nI n) signs (nI (p + 1)) = some (nI (v2 b (p + 1))) := c_twoDigits (p := p + 1) hn hb (by omega) (g1 0 (by omega)) (g1 1 (by omega))
    have a2 : f_X7_twoDigitsAt (nI n) signs (nI (p + 3)) = some (nI (v2 b (p + 3))) := c_twoDigits (p := p + 3) hn hb (by omega) (g2 0 (by omega)) (g2 1 (by omega))
    obtain ⟨e1, e2⟩ := r1 (Or.inl hv)
    have hC : ∀ oc, f_X9_moveTold cols rows kinds tags cells lr lp line lt lc un (nI (v2 b (p + 1))) (nI (v2 b (p + 3))) 1 = some oc → f_X9_doAct cols rows kinds tags cells (nI n) signs lr lp line bef lt lc un (nI p) = some (oc.1, oc.2.1, oc.2.2.1, oc.2.2.2.1, oc.2.2.2.2.1, oc.2.2.2.2.2.1, bef, oc.2.2.2.2.2.2.1, oc.2.2.2.2.2.2.2.1, oc.2.2.2.2.2.2.2.2) := by
      intro oc q
      unfold f_X9_doAct
      rw [ha, Option.bind_some, hv, if_neg (by decide), if_neg (by decide), if_neg (by decide), if_neg (by decide), if_neg (by decide), if_neg (by decide), if_pos (by decide), nI_1 p, a1, Option.bind_some, nI_k3 p, a2, Option.bind_some, q, Option.bind_some]
    rcases move_any hT (nI (v2 b (p + 1))) (nI (v2 b (p + 3))) true lr lp line lt un lc rks dis pro lm thn with ⟨oc, z, q1, q2, q3, q4, q5, q6⟩ | ⟨oc, om, q1, q2, q3, q4, q5, q6⟩
    · refine ⟨_, (false, am, pm, now, row, rks, dis, pro, lm, thn, lthn), hC oc q1, ?_, fun h => (by cases h), fun _ => q4, ?_⟩
      · unfold f_X10_act
        rw [nI_1 (5 * j), nI_k2 (5 * j), nI_k3 (5 * j), nI_k4 (5 * j), cl0, cl1, cl2, cl3, cl4, gdK (by omega) (by omega), gdK (by omega) (by omega), gdK (by omega) (by omega), r0, hv, if_neg (by decide), if_neg (by decide), if_neg (by decide), if_pos (by decide), e1, e2, q2, Option.bind_some, if_neg q3]
      · show TT cols rows kinds oc.2.1 oc.2.2.1 now
        rw [q5, q6]
        exact hT
    · refine ⟨_, (true, am, om.2.1, om.2.2.1, row, om.2.2.2.1, om.2.2.2.2.1, om.2.2.2.2.2.1, om.2.2.2.2.2.2.1, om.2.2.2.2.2.2.2, lthn), hC oc q1, ?_, fun _ => q4, fun h => (by cases h), q6⟩
      have q3' : f_X10_arrange now rks dis pro lm thn (nI (v2 b (p + 1))) (nI (v2 b (p + 3))) 0 = some om := q3
      unfold f_X10_act
      rw [nI_1 (5 * j), nI_k2 (5 * j), nI_k3 (5 * j), nI_k4 (5 * j), cl0, cl1, cl2, cl3, cl4, gdK (by omega) (by omega), gdK (by omega) (by omega), gdK (by omega) (by omega), r0, hv, if_neg (by decide), if_neg (by decide), if_neg (by decide), if_pos (by decide), e1, e2, q2, Option.bind_some, if_pos rfl, gdK (by omega) (by omega), if_neg (by decide), Option.bind_some, q3', Option.bind_some, if_neg (Int32.not_le.mpr q5)]
  · rw [hv] at hw
    have w1 : fd n b (p + 1) 2 = none := hw
    have g1 := fd_none 2 (p + 1) w1
    have a1 : f_X7_twoDigitsAt (nI n) signs (nI (p + 1)) = some (nI (v2 b (p + 1))) := c_twoDigits (p := p + 1) hn hb (by omega) (g1 0 (by omega)) (g1 1 (by omega))
    have e1 := r2 hv
    rcases blk_of (nI (v2 b (p + 1))) with hx | ⟨hx, t, ht, ht2, et⟩
    · refine ⟨(-1, tags, cells, lr, lp, line, bef, lt, lc, un), (false, am, pm, now, row, rks, dis, pro, lm, thn, lthn), ?_, ?_, fun h => (by cases h), fun _ => (show ¬ (0 : Int32) ≤ -1 by decide), hT⟩
      · unfold f_X9_doAct f_X9_tourTold
        rw [ha, Option.bind_some, hv, if_neg (by decide), if_neg (by decide), if_neg (by decide), if_neg (by decide), if_neg (by decide), if_neg (by decide), if_neg (by decide), if_pos (by decide), nI_1 p, a1, Option.bind_some, blk_c, hx, Option.bind_some, ifbf]
        try rfl
      · unfold f_X10_act
        rw [nI_1 (5 * j), nI_k2 (5 * j), nI_k3 (5 * j), nI_k4 (5 * j), cl0, cl1, cl2, cl3, cl4, gdK (by omega) (by omega), gdK (by omega) (by omega), gdK (by omega) (by omega), r0, hv, if_neg (by decide), if_neg (by decide), if_neg (by decide), if_neg (by decide), if_pos (by decide), e1, hx, Option.bind_some, ifbf]
    · rw [et] at a1 e1 hx
      obtain ⟨R, C, kd, cl, tg, hV, hC, hM⟩ := id hT
      obtain ⟨oc, om, e, v, q1, q2, q3, q4, q5, q6, q7, q8, q9⟩ := tour_in hV hC hM ht ht2 lr lp line bef lt un lc row rks dis pro lm lthn thn
      refine ⟨(oc.1, oc.2.1, oc.2.2.1, oc.2.2.2.1, oc.2.2.2.2.1, oc.2.2.2.2.2.1, oc.2.2.2.2.2.2.1, oc.2.2.2.2.2.2.2.1, oc.2.2.2.2.2.2.2.2.1, oc.2.2.2.2.2.2.2.2.2), (true, om.2.1, om.2.2.1, om.2.2.2.1, om.2.2.2.2.1, om.2.2.2.2.2.1, om.2.2.2.2.2.2.1, om.2.2.2.2.2.2.2.1, om.2.2.2.2.2.2.2.2.1, om.2.2.2.2.2.2.2.2.2.1, om.2.2.2.2.2.2.2.2.2.2), ?_, ?_, fun _ => ?_, fun h => (by cases h), q6⟩
      · unfold f_X9_doAct
        rw [ha, Option.bind_some, hv, if_neg (by decide), if_neg (by decide), if_neg (by decide), if_neg (by decide), if_neg (by decide), if_neg (by decide), if_neg (by decide), if_pos (by decide), nI_1 p, a1, Option.bind_some, q1, Option.bind_some]
      · unfold f_X10_act
        rw [nI_1 (5 * j), nI_k2 (5 * j), nI_k3 (5 * j), nI_k4 (5 * j), cl0, cl1, cl2, cl3, cl4, gdK (by omega) (by omega), gdK (by omega) (by omega), gdK (by omega) (by omega), r0, hv, if_neg (by decide), if_neg (by decide), if_neg (by decide), if_neg (by decide), if_pos (by decide), e1, hx, Option.bind_some, ifbt, q2, Option.bind_some, q4, if_neg (nI_pos (by omega))]
      · show 0 ≤ oc.1
        rw [q3]
        exact nI_pos' (by omega)
theorem day_stop (cols rows : Int32) (kinds : Nat → Int32) (ts : Int32) (sgn : Nat → Int32) (m : Nat) (x2 x4 : Int32) (tags : Nat → Int32) (cells : Nat → Int64) (lr lp : Int32) (line bef lt : Nat → Int32) (lc : Nat → Int64) (un : Nat → Int32) : L_X9_day_39 cols rows kinds ts sgn (m + 1) x2 1 x4 tags cells lr lp line bef lt lc un = some (x2, 1, tags, cells, lr, lp, line, bef, lt, lc, un) := by
  rw [L_X9_day_39, if_neg (show ¬ (1 : Int32) = 0 by decide), ite_self]
theorem day_run (hn : n ≤ 80) (hb : ∀ p, p < n → b p < 256 ∧ signs p = nI (b p) ∧ text p = bt (b p)) {cols rows : Int32} {kinds : Nat → Int32} {N : Nat} (hN : N ≤ 80) (hps : ps b N = n) {w : Int32 × Int32 × Int32 × (Nat → Int32)} (hw : w.1 = nI N) (hr : ∀ i, i < N → ps b i < n ∧ wa n b (ps b i) = none ∧ RD b w.2.2.2 i (ps b i)) : ∀ (k j m : Nat) (tags : Nat → Int32) (cells now : Nat → Int64) (lr lp : Int32) (line bef lt un : Nat → Int32) (lc : Nat → Int64) (am pm : Int32) (row : Nat → Int64) (rks dis pro lm lthn : Nat → Int32) (thn : Nat → Int64), j + k = N → k + 1 < m → TT cols rows kinds tags cells now →
    ∃ wc wm D, D ≤ N ∧ L_X9_day_39 cols rows kinds (nI n) signs m (nI j) 0 (nI (ps b j)) tags cells lr lp line bef lt lc un = some wc ∧ L_X10_day_62 w m (nI j) am pm now row rks dis pro lm thn lthn = some wm ∧ wc.1 = nI D ∧ wm.1 = nI D ∧ wc.2.1 = (if D < N then 1 else 0) ∧ TT cols rows kinds wc.2.2.1 wc.2.2.2.1 wm.2.2.2.1 := by
  intro k
  induction k with
  | zero =>
    intro j m tags cells now lr lp line bef lt un lc am pm row rks dis pro lm lthn thn hk hm hT
    obtain ⟨m, rfl⟩ : ∃ m', m = m' + 1 := ⟨m - 1, by omega⟩
    obtain rfl : j = N := by omega
    refine ⟨(nI j, 0, tags, cells, lr, lp, line, bef, lt, lc, un), (nI j, am, pm, now, row, rks, dis, pro, lm, thn, lthn), j, Nat.le_refl _, ?_, ?_, rfl, rfl, ?_, hT⟩
    · rw [L_X9_day_39, hps, if_pos (nI_le (Nat.le_refl _) (by omega))]
    · rw [L_X10_day_62, hw, if_pos (nI_le (Nat.le_refl _) (by omega))]
    · rw [if_neg (by omega)]
  | succ k ih =>
    intro j m tags cells now lr lp line bef lt un lc am pm row rks dis pro lm lthn thn hk hm hT
    obtain ⟨m, rfl⟩ : ∃ m', m = m' + 1 + 1 := ⟨m - 2, by omega⟩
    obtain ⟨hp, hwa, hRD⟩ := hr j (by omega)
    obtain ⟨oc, om, a1, a2, a3, a4, a5⟩ := act_both hn hb hT hp hwa (show j < 81 by omega) hRD lr lp line bef lt un lc am pm row rks dis pro lm lthn thn
    obtain ⟨s1, s2⟩ := wa_end hp hwa
    have h8 := sg_le (b (ps b j))
    cases hom : om.1 with
    | true =>
      have c0 := a3 hom
      obtain ⟨wc, wm, D, i1, i2, i3, i4, i5, i6, i7⟩ := ih (j + 1) (m + 1) oc.2.1 oc.2.2.1 om.2.2.2.1 oc.2.2.2.1 oc.2.2.2.2.1 oc.2.2.2.2.2.1 oc.2.2.2.2.2.2.1 oc.2.2.2.2.2.2.2.1 oc.2.2.2.2.2.2.2.2.2 oc.2.2.2.2.2.2.2.2.1 om.2.1 om.2.2.1 om.2.2.2.2.1 om.2.2.2.2.2.1 om.2.2.2.2.2.2.1 om.2.2.2.2.2.2.2.1 om.2.2.2.2.2.2.2.2.1 om.2.2.2.2.2.2.2.2.2.2 om.2.2.2.2.2.2.2.2.2.1 (by omega) (by omega) a5
      refine ⟨wc, wm, D, i1, ?_, ?_, i4, i5, i6, i7⟩
      · rw [L_X9_day_39, if_neg (nI_ge hp (by omega)), if_pos rfl, a1, Option.bind_some, if_pos c0, Option.bind_some, c_signsOfAct hn hb hp, Option.bind_some, mmax1 _ (by omega) s1, nI_add, nI_1 j]
        exact i2
      · rw [L_X10_day_62, hw, if_neg (nI_ge (by omega) (by omega)), nI_5, a2, Option.bind_some, hom, ifbt, nI_1 j]
        exact i3
    | false =>
      have c0 := a4 hom
      refine ⟨(nI j, 1, oc.2.1, oc.2.2.1, oc.2.2.2.1, oc.2.2.2.2.1, oc.2.2.2.2.2.1, oc.2.2.2.2.2.2.1, oc.2.2.2.2.2.2.2.1, oc.2.2.2.2.2.2.2.2.1, oc.2.2.2.2.2.2.2.2.2), (nI j, om.2.1, om.2.2.1, om.2.2.2.1, om.2.2.2.2.1, om.2.2.2.2.2.1, om.2.2.2.2.2.2.1, om.2.2.2.2.2.2.2.1, om.2.2.2.2.2.2.2.2.1, om.2.2.2.2.2.2.2.2.2.1, om.2.2.2.2.2.2.2.2.2.2), j, by omega, ?_, ?_, rfl, rfl, ?_, a5⟩
      · rw [L_X9_day_39, if_neg (nI_ge hp (by omega)), if_pos rfl, a1, Option.bind_some, if_neg c0, Option.bind_some, c_signsOfAct hn hb hp, Option.bind_some]
        exact day_stop _ _ _ _ _ _ _ _ _ _ _ _ _ _ _ _ _
      · rw [L_X10_day_62, hw, if_neg (nI_ge (by omega) (by omega)), nI_5, a2, Option.bind_some, hom, ifbf]
      · rw [if_pos (by omega)]
end
section
variable {next size undoMany cols rows asz amany tsz typed : Int32} {sk st : Nat → Nat → Int32} {sc : Nat → Nat → Int64} {scol srow kinds tags signs text : Nat → Int32} {undos cells now nu row : Nat → Int64}
theorem op_day (hT : TT cols rows kinds tags cells now) (hU : UX next size sk st sc scol srow undoMany undos) (hX : TX tsz signs typed text) (hA : AX asz nu amany row) (lr lp : Int32) (line bef lt un : Nat → Int32) (lc : Nat → Int64) (pm : Int32) (read rks dis pro lm lthn : Nat → Int32) (thn was : Nat → Int64) :
    ∃ oc om, f_X9_day cols rows kinds tags cells next size sk st sc scol srow tsz signs asz nu lr lp line bef lt lc un = some oc ∧ f_X10_day typed amany pm undoMany now text row read rks dis pro lm thn lthn undos was = some om ∧ oc.1 = om.1 ∧
      TT cols rows kinds oc.2.1 oc.2.2.1 om.2.2.2.2.2.2.2.2.2.1 ∧ UX oc.2.2.2.1 oc.2.2.2.2.1 oc.2.2.2.2.2.1 oc.2.2.2.2.2.2.1 oc.2.2.2.2.2.2.2.1 oc.2.2.2.2.2.2.2.2.1 oc.2.2.2.2.2.2.2.2.2.1 om.2.2.2.2.2.2.2.2.1 om.2.2.2.2.2.2.2.2.2.2.2.2.2.2.2.2.2.2.1 ∧ TX oc.2.2.2.2.2.2.2.2.2.2.1 signs om.2.1 text ∧ AX oc.2.2.2.2.2.2.2.2.2.2.2.1 oc.2.2.2.2.2.2.2.2.2.2.2.2.1 om.2.2.1 om.2.2.2.2.2.2.2.2.2.2.1 := by
  obtain ⟨sk', st', sc', scol', srow', next', size', um', un', was', -, c1, c2, c3, c4, c5, c6, c7⟩ := chg hT hU was
  obtain ⟨n, b, hn, rfl, rfl, hb⟩ := id hX
  rcases day_read hn hb (0, nI n, 0, -1) rfl n 0 fu read (show 0 + n = n by omega) (Nat.le_refl _) (show n + 1 < fu by unfold fu; omega) (fun i hi => by omega) with ⟨w, a, x, r, hw, k1, k2⟩ | ⟨N, r, hN, hps, hr, k1, k2⟩
  · have k1' : L_X9_wrongInDay_2 (nI n) signs fu 0 = _ := k1
    have k2' : L_X10_day_11 text (0, nI n, 0, -1) fu 0 0 (-1) read = _ := k2
    refine ⟨(-1 - nI w, tags, cells, next, size, sk, st, sc, scol, srow, 0, asz, nu, lr, lp, line, bef, lt, lc, un), (-1 - nI w, 0, amany, 0, nI n, a, nI w, pm, undoMany, now, row, r, rks, dis, pro, lm, thn, lthn, undos, was), ?_, ?_, rfl, hT, hU, TX.nil _ _, hA⟩
    · unfold f_X9_day f_X9_wrongInDay f_X7_clear
      rw [k1', Option.bind_some]
      show ((some (nI w)).bind _) = _
      rw [Option.bind_some, if_neg (w81 w hw), Option.bind_some]
    · unfold f_X10_day f_X10_begin
      rw [Option.bind_some]
      simp only []
      rw [k2', Option.bind_some]
      simp only []
      rw [m_wasRight0 hw, Option.bind_some, ifbf]
  · have k1' : L_X9_wrongInDay_2 (nI n) signs fu 0 = _ := k1
    have k2' : L_X10_day_11 text (0, nI n, 0, -1) fu 0 0 (-1) read = _ := k2
    obtain ⟨wc, wm, D, d1, e1, e2, e3, e4, e5, e6⟩ := day_run (cols := cols) (rows := rows) (kinds := kinds) hn hb hN hps (w := (nI N, nI n, -1, r)) rfl hr N 0 fu tags cells now lr lp line bef lt un lc amany pm row rks dis pro lm lthn thn (by omega) (show N + 1 < fu by unfold fu; omega) hT
    have e1' : L_X9_day_39 cols rows kinds (nI n) signs fu 0 0 0 tags cells lr lp line bef lt lc un = some wc := e1
    have e2' : L_X10_day_62 (nI N, nI n, -1, r) fu 0 amany pm now row rks dis pro lm thn lthn = some wm := e2
    obtain ⟨R, C, kd, cl, tg, hV, hC, hM⟩ := id e6
    obtain ⟨many, rks', dis', pro', lm', n1, n2, n3, n4⟩ := m_runsNow hV hM wm.2.2.2.2.2.1 wm.2.2.2.2.2.2.1 wm.2.2.2.2.2.2.2.1 wm.2.2.2.2.2.2.2.2.1
    have g := c_runsOfAll hV hC
    have tl0 : ∀ (row : Nat → Int64) (v : Int64), f_X10_tell 0 row v = some (nI 1, vp_updL row 0 v) := fun row v => m_tell 0 (by omega) row v
    obtain ⟨z, hz1, hz2⟩ : ∃ z : Int64, wc.2.1.toInt64 = z ∧ (if nI N ≤ nI D then (some (0 : Int64)) else (some (1 : Int64))) = some z := by
      by_cases hDN : D < N
      · refine ⟨1, ?_, ?_⟩
        · rw [e5, if_pos hDN]; rfl
        · rw [if_neg (nI_ge hDN (by omega))]
      · refine ⟨0, ?_, ?_⟩
        · rw [e5, if_neg hDN]; rfl
        · rw [if_pos (nI_le (by omega) (by omega))]
    by_cases hD : D = 0
    · have hD0 : nI D ≤ 0 := by rw [hD]; decide
      refine ⟨(nI D, wc.2.2.1, wc.2.2.2.1, next, size, sk', st', sc', scol', srow', 0, nI 2, vp_updL (vp_updL nu 0 z) 1 (nI (rl C kd cl id R)).toInt64, wc.2.2.2.2.1, wc.2.2.2.2.2.1, wc.2.2.2.2.2.2.1, wc.2.2.2.2.2.2.2.1, wc.2.2.2.2.2.2.2.2.1, wc.2.2.2.2.2.2.2.2.2.1, wc.2.2.2.2.2.2.2.2.2.2), (nI D, 0, nI 2, 0, nI n, nI n, -1, many, undoMany, wm.2.2.2.1, vp_updL (vp_updL wm.2.2.2.2.1 0 z) 1 (nI (rl C kd cl id R)).toInt64, r, rks', dis', pro', lm', wm.2.2.2.2.2.2.2.2.2.1, wm.2.2.2.2.2.2.2.2.2.2, undos, was'), ?_, ?_, rfl, e6, c7, TX.nil _ _, AX.two _ _ _ _⟩
      · unfold f_X9_day f_X9_wrongInDay f_X7_clear
        rw [k1', Option.bind_some]
        show ((some (-1 : Int32)).bind _) = _
        rw [Option.bind_some, if_pos rfl, c1, Option.bind_some, e1', Option.bind_some, Option.bind_some, e3, if_pos hD0, Option.bind_some, g, Option.bind_some, hz1, c_tell2, Option.bind_some]
        try rfl
      · unfold f_X10_day f_X10_begin
        rw [Option.bind_some]
        simp only []
        rw [k2', Option.bind_some]
        simp only []
        rw [m_wasRight1 hn, Option.bind_some, ifbt, c3, Option.bind_some, e2', Option.bind_some, e4, if_pos hD0, Option.bind_some, n1, Option.bind_some, hz2, Option.bind_some, tl0, Option.bind_some, m_tell 1 (by omega), Option.bind_some]
        try rfl
    · have hD0 : ¬ nI D ≤ 0 := nI_ge (a := 0) (by omega) (by omega)
      refine ⟨(nI D, wc.2.2.1, wc.2.2.2.1, next', size', sk', st', sc', scol', srow', 0, nI 2, vp_updL (vp_updL nu 0 z) 1 (nI (rl C kd cl id R)).toInt64, wc.2.2.2.2.1, wc.2.2.2.2.2.1, wc.2.2.2.2.2.2.1, wc.2.2.2.2.2.2.2.1, wc.2.2.2.2.2.2.2.2.1, wc.2.2.2.2.2.2.2.2.2.1, wc.2.2.2.2.2.2.2.2.2.2), (nI D, 0, nI 2, 0, nI n, nI n, -1, many, um', wm.2.2.2.1, vp_updL (vp_updL wm.2.2.2.2.1 0 z) 1 (nI (rl C kd cl id R)).toInt64, r, rks', dis', pro', lm', wm.2.2.2.2.2.2.2.2.2.1, wm.2.2.2.2.2.2.2.2.2.2, un', was'), ?_, ?_, rfl, e6, c6, TX.nil _ _, AX.two _ _ _ _⟩
      · unfold f_X9_day f_X9_wrongInDay f_X7_clear
        rw [k1', Option.bind_some]
        show ((some (-1 : Int32)).bind _) = _
        rw [Option.bind_some, if_pos rfl, c1, Option.bind_some, e1', Option.bind_some, Option.bind_some, e3, if_neg hD0, c2, Option.bind_some, Option.bind_some, g, Option.bind_some, hz1, c_tell2, Option.bind_some]
        try rfl
      · unfold f_X10_day f_X10_begin
        rw [Option.bind_some]
        simp only []
        rw [k2', Option.bind_some]
        simp only []
        rw [m_wasRight1 hn, Option.bind_some, ifbt, c3, Option.bind_some, e2', Option.bind_some, e4, if_neg hD0, c4, Option.bind_some, Option.bind_some, n1, Option.bind_some, hz2, Option.bind_some, tl0, Option.bind_some, m_tell 1 (by omega), Option.bind_some]
        try rfl
end
