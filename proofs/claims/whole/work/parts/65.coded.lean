/-! a column coded as runs -/
section
variable {R C : Nat} {kd : Nat → Nat} {cl : Nat → Nat → Int64} {tg : Nat → Nat} {now : Nat → Int64} {cols rows : Int32} {kinds tags : Nat → Int32} {cells : Nat → Int64}
theorem run_end (hV : VT R C kd cl tg) (hM : MT R C kd cl tg now) {c r : Nat} (hc : c < C) (hr : r < R) : ∀ (k t n : Nat), t + k = R → k < n → r ≤ t → (∀ j, r ≤ j → j < t → cl c j = cl c r) →
    ∃ e, t ≤ e ∧ e ≤ R ∧ (∀ j, r ≤ j → j < e → cl c j = cl c r) ∧ (e = R ∨ ¬ cl c e = cl c r) ∧ L_X10_coded_46 now (nI c) (nI r) n (nI t) = some (nI e) := by
  have h16 := hV.1
  intro k
  induction k with
  | zero =>
    intro t n ht hn hrt ha
    obtain ⟨n, rfl⟩ : ∃ n', n = n' + 1 := ⟨n - 1, by omega⟩
    obtain rfl : t = R := by omega
    refine ⟨t, Nat.le_refl _, Nat.le_refl _, ha, Or.inl rfl, ?_⟩
    rw [L_X10_coded_46, m_rows hM, Option.bind_some, if_pos (nI_le (Nat.le_refl _) (by omega))]
  | succ k ih =>
    intro t n ht hn hrt ha
    obtain ⟨n, rfl⟩ : ∃ n', n = n' + 1 := ⟨n - 1, by omega⟩
    rw [L_X10_coded_46, m_rows hM, Option.bind_some, if_neg (nI_ge (show t < R by omega) (by omega)), m_cell hV hM hc (show t < R by omega), Option.bind_some, m_cell hV hM hc hr, Option.bind_some]
    simp only [lg_cmp_eq]
    by_cases h : cl c t = cl c r
    · obtain ⟨e, e1, e2, e3, e4, e5⟩ := ih (t + 1) n (by omega) (by omega) (by omega) (fun j hj hj2 => by
        by_cases q : j = t
        · subst q; exact h
        · exact ha j hj (by omega))
      exact ⟨e, by omega, e2, e3, e4, by rw [if_pos h, nI_1]; exact e5⟩
    · exact ⟨t, Nat.le_refl _, by omega, ha, Or.inr h, by rw [if_neg h]⟩
theorem run_told (hV : VT R C kd cl tg) (hC : CT R C kd cl tg cols rows kinds tags cells) {c r e : Nat} (hc : c < C) (hre : r < e) (heR : e ≤ R) (ha : ∀ j, r ≤ j → j < e → cl c j = cl c r) (hend : e = R ∨ ¬ cl c e = cl c r) {k : Nat} (hk : k + 1 < 32) (nu : Nat → Int64) (n : Nat) :
    ∀ (d j : Nat), j + 1 + d = e → r ≤ j → L_X9_coded_40 rows cells (nI c) (n + d + 1) (nI r) (nI j) (nI k) nu = L_X9_coded_40 rows cells (nI c) n (nI e) (nI e) (nI (k + 1 + 1)) (vp_updL (vp_updL nu k (cl c r)) (k + 1) (nI e - nI r).toInt64) := by
  have h16 := hV.1
  intro d
  induction d with
  | zero =>
    intro j hj hrj
    have hjR : j < R := by omega
    have hje : j + 1 = e := by omega
    have tell : (f_X8_cell cells (nI c) (nI j)).bind (fun o_2446 => ((f_X0_add (nI k) nu o_2446).bind (fun o_2448 => ((f_X0_add o_2448.1 o_2448.2 ((nI e) - nI r).toInt64).bind (fun o_2450 => (L_X9_coded_40 rows cells (nI c) n (nI e) (nI e) o_2450.1 o_2450.2)))))) = L_X9_coded_40 rows cells (nI c) n (nI e) (nI e) (nI (k + 1 + 1)) (vp_updL (vp_updL nu k (cl c r)) (k + 1) (nI e - nI r).toInt64) := by
      rw [c_cell hV hC hc hjR, Option.bind_some, c_add k (by omega), Option.bind_some]
      simp only []
      rw [c_add (k + 1) (by omega), Option.bind_some, ha j hrj (by omega)]
    show L_X9_coded_40 rows cells (nI c) (n + 1) (nI r) (nI j) (nI k) nu = _
    rw [L_X9_coded_40, hC.2.1, if_neg (nI_ge hjR (by omega)), nI_1, hje]
    by_cases h : e = R
    · rw [if_pos (by rw [h]), ← hC.2.1]
      exact tell
    · have hb : bg cl id c e = true := by
        unfold bg
        have := hend.resolve_left h
        have h2 := ha (e - 1) (by omega) (by omega)
        simp only [Bool.or_eq_true, decide_eq_true_eq, id]
        right
        rw [h2]; exact this
      rw [if_neg (fun q => h ((nI_eq (by omega) (by omega)).mp q)), c_beginsRun hV hC hc (show e < R by omega), hb, Option.bind_some, ifbt, ← hC.2.1]
      exact tell
  | succ d ih =>
    intro j hj hrj
    have hjR : j < R := by omega
    have hb : bg cl id c (j + 1) = false := by
      unfold bg
      have h1 := ha j (by omega) (by omega)
      have h2 := ha (j + 1) (by omega) (by omega)
      simp only [Bool.or_eq_false_iff, decide_eq_false_iff_not, id]
      refine ⟨by omega, fun q => q ?_⟩
      rw [h2, show j + 1 - 1 = j by omega, h1]
    show L_X9_coded_40 rows cells (nI c) (n + d + 1 + 1) (nI r) (nI j) (nI k) nu = _
    rw [L_X9_coded_40, hC.2.1, if_neg (nI_ge hjR (by omega)), nI_1, if_neg (fun q => by have := (nI_eq (by omega) (by omega)).mp q; omega), c_beginsRun hV hC hc (show j + 1 < R by omega), hb, Option.bind_some, ifbf, ← hC.2.1]
    exact ih (j + 1) (by omega) (by omega)
theorem ct_run (p : Nat → Bool) {r : Nat} (h : p r = true) : ∀ d, (∀ j, r < j → j < r + 1 + d → p j = false) → fb_ct p (r + 1 + d) = fb_ct p r + 1
  | 0, _ => by rw [Nat.add_zero, fb_ct_succ, if_pos h]
  | d + 1, hf => by
    show fb_ct p (r + 1 + d + 1) = _
    rw [fb_ct_succ, ct_run p h d (fun j h1 h2 => hf j h1 (by omega)), hf (r + 1 + d) (by omega) (by omega)]
    rfl
theorem coded_in (hV : VT R C kd cl tg) (hC : CT R C kd cl tg cols rows kinds tags cells) (hM : MT R C kd cl tg now) {c : Nat} (hc : c < C) :
    ∀ (k r n m q : Nat) (nu row : Nat → Int64), R ≤ r + k → r ≤ R → k < m → R - r < n → q ≤ 2 * r → (∀ i, i < q → nu i = row i) → (r < R → bg cl id c r = true) →
    ∃ (q' : Nat) (nu' row' : Nat → Int64), q' ≤ 32 ∧ (∀ i, i < q' → nu' i = row' i) ∧ L_X9_coded_40 rows cells (nI c) n (nI r) (nI r) (nI q) nu = some (nI q', nu') ∧ L_X10_coded_35 now (nI c) m (nI (rin cl id c r)) (nI r) (nI q) row = some (nI (rin cl id c R), nI q', row') := by
  have h16 := hV.1
  intro k
  induction k with
  | zero =>
    intro r n m q nu row h1 h2 h3 h4 h5 h6 h7
    obtain ⟨n, rfl⟩ : ∃ n', n = n' + 1 := ⟨n - 1, by omega⟩
    obtain ⟨m, rfl⟩ : ∃ n', m = n' + 1 := ⟨m - 1, by omega⟩
    obtain rfl : r = R := by omega
    refine ⟨q, nu, row, by omega, h6, ?_, ?_⟩
    · rw [L_X9_coded_40, hC.2.1, if_pos (nI_le (Nat.le_refl _) (by omega))]
    · rw [L_X10_coded_35, m_rows hM, Option.bind_some, if_pos (nI_le (Nat.le_refl _) (by omega))]
  | succ k ih =>
    intro r n m q nu row h1 h2 h3 h4 h5 h6 h7
    obtain ⟨m, rfl⟩ : ∃ n', m = n' + 1 := ⟨m - 1, by omega⟩
    by_cases hrR : r < R
    · obtain ⟨e, e1, e2, e3, e4, e5⟩ := run_end hV hM hc hrR (R - r) r fu (by omega) (fu_lt (by omega)) (Nat.le_refl _) (fun j hj hj2 => by omega)
      have hre : r < e := by
        apply Nat.lt_of_le_of_ne e1
        intro q
        subst q
        rcases e4 with h | h
        · omega
        · exact h rfl
      obtain ⟨n', hn'⟩ : ∃ n', n = n' + (e - r - 1) + 1 := ⟨n - (e - r), by omega⟩
      have hbg : e < R → bg cl id c e = true := fun heR => by
        unfold bg
        have := e4.resolve_left (by omega)
        have h2 := e3 (e - 1) (by omega) (by omega)
        simp only [Bool.or_eq_true, decide_eq_true_eq, id]
        right
        rw [h2]; exact this
      have hrin : rin cl id c e = rin cl id c r + 1 := by
        unfold rin
        have := ct_run (bg cl id c) (h7 hrR) (e - r - 1) (fun j hj hj2 => by
          unfold bg
          have q1 := e3 j (by omega) (by omega)
          have q2 := e3 (j - 1) (by omega) (by omega)
          simp only [Bool.or_eq_false_iff, decide_eq_false_iff_not, id]
          refine ⟨by omega, fun q => q ?_⟩
          rw [q1, q2])
        rwa [show r + 1 + (e - r - 1) = e by omega] at this
      obtain ⟨q', nu', row', g1, g2, g3, g4⟩ := ih e n' m (q + 1 + 1) (vp_updL (vp_updL nu q (cl c r)) (q + 1) (nI e - nI r).toInt64) (vp_updL (vp_updL row q (cl c r)) (q + 1) (nI e - nI r).toInt64) (by omega) e2 (by omega) (by omega) (by omega) (fun i hi => by
        unfold vp_updL
        by_cases q1 : i = q + 1
        · rw [if_pos q1, if_pos q1]
        · rw [if_neg q1, if_neg q1]
          by_cases q2 : i = q
          · rw [if_pos q2, if_pos q2]
          · rw [if_neg q2, if_neg q2]; exact h6 i (by omega)) hbg
      refine ⟨q', nu', row', g1, g2, ?_, ?_⟩
      · rw [hn', run_told hV hC hc hre e2 e3 e4 (by omega) nu n' (e - r - 1) r (by omega) (Nat.le_refl _)]
        exact g3
      · rw [L_X10_coded_35, m_rows hM, Option.bind_some, if_neg (nI_ge hrR (by omega)), e5, Option.bind_some, m_cell hV hM hc hrR, Option.bind_some, m_tell q (by omega), Option.bind_some]
        simp only []
        rw [m_tell (q + 1) (by omega), Option.bind_some, nI_1, ← hrin, Int32.sub_add_cancel]
        exact g4
    · have : r = R := by omega
      exact ih r n (m + 1) q nu row (by omega) h2 (by omega) h4 h5 h6 h7
end
section
variable {next size undoMany cols rows asz amany tsz typed : Int32} {kinds tags : Nat → Int32} {undos cells now nu row : Nat → Int64}
theorem op_coded (hT : TT cols rows kinds tags cells now) (hA : AX asz nu amany row) (x : Int32) :
    ∃ r q, f_X9_coded cols rows kinds cells asz nu x = some r ∧ f_X10_coded amany now row x = some q ∧ r.1 = q.1 ∧ AX r.2.1 r.2.2 q.2.1 q.2.2.2 := by
  obtain ⟨R, C, kd, cl, tg, hV, hC, hM⟩ := id hT
  have h16 := hV.1
  have h6 := hV.2.1
  unfold f_X9_coded f_X10_coded
  rw [m_isCol hV hM]
  by_cases hx : ixd x C = true
  · obtain ⟨c, hc, rfl⟩ := ixd_of (by omega) hx
    rw [c_isProper hV hC hc, hC.1, c_hasCol hV, hx, m_isProper hV hM hc]
    simp only [Option.bind_some, ifbt, ifbd]
    by_cases hk : kd c ≤ 10
    · obtain ⟨q', nu', row', g1, g2, g3, g4⟩ := coded_in hV hC hM hc R 0 fu fu 0 nu row (by omega) (by omega) (fu_lt (by omega)) (fu_lt (by omega)) (by omega) (fun i hi => by omega) (fun _ => rfl)
      have g3' : L_X9_coded_40 rows cells (nI c) fu 0 0 0 nu = _ := g3
      have g4' : L_X10_coded_35 now (nI c) fu 0 0 0 row = _ := g4
      rw [if_pos hk, if_pos hk]
      unfold f_X0_clear
      rw [Option.bind_some, g3', g4', Option.bind_some, Option.bind_some, c_runsOf hV hC hc, Option.bind_some]
      exact ⟨_, _, rfl, rfl, rfl, q', g1, rfl, rfl, g2⟩
    · rw [if_neg hk, if_neg hk]
      exact ⟨_, _, rfl, rfl, rfl, hA⟩
  · have hx' : ixd x C = false := by simpa using hx
    rw [hx', c_isProper0 hV hC hx', hC.1, c_hasCol hV, hx']
    exact ⟨_, _, rfl, rfl, rfl, hA⟩
end
