/-! columns compared -/
/-- which cells are the same thing -/
def dbl (a : Nat) (v : Int64) : Int64 := (f_X3_widened (nI a) (nI 7) v).getD 0
def isn (a : Nat) (v : Int64) : Bool := decide (8 ≤ a) && decide (v = nothing)
def num (a : Nat) : Bool := decide (1 ≤ a) && decide (a ≤ 8)
def smw (a : Nat) (v : Int64) (b : Nat) (w : Int64) : Bool := if isn a v || isn b w then isn a v && isn b w else if num a && num b then decide (dbl a v = dbl b w) else decide (a = b) && decide (v = w)
theorem in18_dec : ∀ a, a < 11 → f_X10_in (nI a) 1 8 = some (num a) := by decide +kernel
theorem lt8_dec : ∀ a, a < 11 → (nI a < 8 ↔ a < 8) := by decide +kernel
theorem nI_eq11 {a b : Nat} (ha : a < 11) (hb : b < 11) : nI a = nI b ↔ a = b := by
  have : ∀ a, a < 11 → ∀ b, b < 11 → (nI a = nI b ↔ a = b) := by decide +kernel
  exact this a ha b hb
def grp (a : Nat) (v : Int64) : Nat := if isn a v then 14 else if num a then 4 else a
theorem c_group {a : Nat} (ha : a < 11) (v : Int64) : f_X3_group (nI a) v = some (nI (grp a v)) := by
  have h1 : ∀ a, a < 11 → (if nI a < (1 : Int32) then (some (nI a)) else (if (8 : Int32) < nI a then (some (nI a)) else (some (4 : Int32)))) = some (nI (if num a then 4 else a)) := by decide +kernel
  unfold f_X3_group grp isn
  rw [mbn_dec a (by omega)]
  simp only [Option.bind_some, ifbd, lg_cmp_eq, h1 a ha]
  by_cases h8 : 8 ≤ a
  · rw [if_pos (show 8 ≤ a ∧ a ≤ 10 by omega)]
    show (if v = nothing then _ else _) = _
    by_cases hv : v = nothing
    · rw [if_pos hv, if_pos (by simp [h8, hv])]; rfl
    · rw [if_neg hv]
      simp only [hv, decide_false, Bool.and_false, Bool.false_eq_true, if_false]
  · rw [if_neg (show ¬ (8 ≤ a ∧ a ≤ 10) by omega)]
    simp only [h8, decide_false, Bool.false_and, Bool.false_eq_true, if_false]
theorem grp_eq {a b : Nat} (ha : a < 11) (hb : b < 11) (v w : Int64) : (nI (grp a v) = nI (grp b w)) ↔ ((isn a v && isn b w) || ((!isn a v && !isn b w) && ((num a && num b) || decide (a = b)))) = true := by
  unfold grp
  have : ∀ a, a < 11 → ∀ b, b < 11 → ∀ x y : Bool, (decide (nI (if x then 14 else if num a then 4 else a) = nI (if y then 14 else if num b then 4 else b)) == ((x && y) || ((!x && !y) && ((num a && num b) || decide (a = b))))) = true := by decide +kernel
  have := this a ha b hb (isn a v) (isn b w)
  rw [beq_iff_eq] at this
  rw [← this]
  exact decide_eq_true_iff.symm
theorem grp_4 {a : Nat} (ha : a < 11) (v : Int64) : (nI (grp a v) = 4) ↔ (!isn a v && num a) = true := by
  unfold grp
  have : ∀ a, a < 11 → ∀ x : Bool, (decide (nI (if x then 14 else if num a then 4 else a) = 4) == (!x && num a)) = true := by decide +kernel
  have := this a ha (isn a v)
  rw [beq_iff_eq] at this
  rw [← this]
  exact decide_eq_true_iff.symm
theorem isn_eq {a b : Nat} {v w : Int64} (h1 : isn a v = true) (h2 : isn b w = true) : v = w := by
  unfold isn at h1 h2
  simp only [Bool.and_eq_true, decide_eq_true_eq] at h1 h2
  rw [h1.2, h2.2]
theorem dbl_at {a : Nat} (hn : num a = true) {v : Int64} (hv : okc a v) (hi : isn a v = false) : f_X3_widened (nI a) (nI 7) v = some (dbl a v) ∧ f_X10_worth (nI a) v = some (dbl a v).toUInt64 ∧ okc 7 (dbl a v) := by
  unfold num at hn
  simp only [Bool.and_eq_true, decide_eq_true_eq] at hn
  have : a = 8 → v ≠ nothing := by
    rintro rfl rfl
    exact absurd hi (by decide)
  obtain ⟨z, h1, h2, h3⟩ := F5 a hn.1 hn.2 v hv this
  unfold dbl
  rw [h1]
  exact ⟨rfl, h2, h3⟩
theorem c_same {a b : Nat} (ha : a < 11) (hb : b < 11) {v w : Int64} (hv : okc a v) (hw : okc b w) : f_X3_sameWorth (nI a) v (nI b) w = some (smw a v b w) := by
  unfold f_X3_sameWorth smw
  rw [c_group ha, c_group hb]
  simp only [Option.bind_some, lg_cmp_eq]
  by_cases hg : nI (grp a v) = nI (grp b w)
  · rw [if_pos hg]
    rw [grp_eq ha hb] at hg
    cases h1 : isn a v
    · cases h2 : isn b w
      · rw [h1, h2] at hg
        simp only [Bool.false_and, Bool.false_or, Bool.not_false, Bool.true_and] at hg
        cases h3 : num a
        · rw [if_neg (fun e => by rw [grp_4 ha, h3] at e; simp at e)]
          rw [h3] at hg
          simp only [Bool.false_and, Bool.false_or, decide_eq_true_eq] at hg
          subst hg
          by_cases hvw : v = w <;> simp [hvw]
        · have h4 : num b = true := by
            rw [h3] at hg
            simp only [Bool.true_and, Bool.or_eq_true, decide_eq_true_eq] at hg
            rcases hg with e | e
            · exact e
            · rw [← e]; exact h3
          rw [if_pos ((grp_4 ha v).mpr (by rw [h1, h3]; rfl)), li7, (dbl_at h3 hv h1).1, (dbl_at h4 hw h2).1, h4]
          simp only [Option.bind_some]
          by_cases e : dbl a v = dbl b w <;> simp [e]
      · rw [h1, h2] at hg
        simp at hg
    · cases h2 : isn b w
      · rw [h1, h2] at hg
        simp at hg
      · rw [if_neg (fun e => by rw [grp_4 ha, h1] at e; simp at e), if_pos (isn_eq h1 h2)]
        rfl
  · rw [if_neg hg]
    rw [grp_eq ha hb] at hg
    cases h1 : isn a v
    · cases h2 : isn b w
      · rw [h1, h2] at hg
        simp only [Bool.false_and, Bool.false_or, Bool.not_false, Bool.true_and, Bool.or_eq_true, not_or, Bool.not_eq_true, decide_eq_true_eq] at hg
        simp [hg.1, hg.2]
      · rfl
    · cases h2 : isn b w
      · rfl
      · rw [h1, h2] at hg
        simp at hg
section
variable {R C : Nat} {kd : Nat → Nat} {cl : Nat → Nat → Int64} {tg : Nat → Nat} {now : Nat → Int64} {cols rows : Int32} {kinds tags : Nat → Int32} {cells : Nat → Int64}
theorem c_sameWorth (hV : VT R C kd cl tg) (hC : CT R C kd cl tg cols rows kinds tags cells) {c d r : Nat} (hc : c < C) (hd : d < C) (hr : r < R) (hk : kd c ≤ 10) (hj : kd d ≤ 10) : f_X8_sameWorth kinds cells (nI c) (nI d) (nI r) = some (smw (kd c) (cl c r) (kd d) (cl d r)) := by
  have h6 := hV.2.1
  unfold f_X8_sameWorth
  rw [gdI (by omega) (by omega), c_cell hV hC hc hr, Option.bind_some, gdI (by omega) (by omega), c_cell hV hC hd hr, Option.bind_some, nI_clamp (by omega), nI_clamp (by omega), hC.2.2.1 c hc, hC.2.2.1 d hd, c_same (by omega) (by omega) (hV.2.2.2.1 c r hc hr) (hV.2.2.2.1 d r hd hr), Option.bind_some]
theorem isn_if {a : Nat} (ha : a < 11) (v : Int64) : (if nI a < (8 : Int32) then (some (0 : Int32)) else (((if (lg_cmp v (-9223372036854775808 : Int64)) = 0 then (some (1 : Int32)) else (some (0 : Int32)))).bind (fun x => (some x)))) = some (b2i (isn a v)) := by
  unfold isn
  by_cases h : a < 8
  · rw [if_pos ((lt8_dec a ha).mpr h)]
    simp [show ¬ 8 ≤ a by omega]
    rfl
  · rw [if_neg (fun e => h ((lt8_dec a ha).mp e))]
    simp only [lg_cmp_eq]
    show ((if v = nothing then _ else _ : Option Int32)).bind _ = _
    by_cases hv : v = nothing
    · rw [if_pos hv]
      simp [hv, show 8 ≤ a by omega]
      rfl
    · rw [if_neg hv]
      simp [hv]
      rfl
theorem m_areSame (hV : VT R C kd cl tg) (hM : MT R C kd cl tg now) {c d r : Nat} (hc : c < C) (hd : d < C) (hr : r < R) (hk : kd c ≤ 10) (hj : kd d ≤ 10) : f_X10_areSame now (nI c) (nI d) (nI r) = some (smw (kd c) (cl c r) (kd d) (cl d r)) := by
  have hv := hV.2.2.2.1 c r hc hr
  have hw := hV.2.2.2.1 d r hd hr
  unfold f_X10_areSame
  rw [m_kind hV hM hc, m_kind hV hM hd, m_cell hV hM hc hr, m_cell hV hM hd hr]
  simp only [Option.bind_some]
  generalize kd c = a at *
  generalize kd d = b at *
  generalize cl c r = v at *
  generalize cl d r = w at *
  rw [isn_if (by omega), isn_if (by omega), Option.bind_some, Option.bind_some, in18_dec a (by omega), in18_dec b (by omega), Option.bind_some]
  unfold smw
  cases h1 : isn a v
  · cases h2 : isn b w
    · simp only [b2i_f, if_true, Bool.false_or, Bool.false_eq_true, if_false, Option.bind_some, nI_eq11 (show a < 11 by omega) (show b < 11 by omega), lg_cmp_eq]
      cases h3 : num a
      · rw [ifbf]
        by_cases e : a = b
        · by_cases e2 : v = w <;> simp [e, e2]
        · simp [e]
      · rw [ifbt]
        cases h4 : num b
        · rw [ifbf]
          by_cases e : a = b
          · by_cases e2 : v = w <;> simp [e, e2]
          · simp [e]
        · rw [ifbt, (dbl_at h3 hv h1).2.1, (dbl_at h4 hw h2).2.1]
          simp only [Option.bind_some, F6 (dbl_at h3 hv h1).2.2 (dbl_at h4 hw h2).2.2]
          by_cases e : dbl a v = dbl b w <;> simp [e]
    · rfl
  · cases h2 : isn b w <;> rfl
/-- the first place where it isn't so -/
def fN (p : Nat → Bool) : Nat → Int32
  | 0 => -1
  | n + 1 => if p n then fN p n else if fN p n = -1 then nI n else fN p n
theorem c_sameL (hV : VT R C kd cl tg) (hC : CT R C kd cl tg cols rows kinds tags cells) {c d : Nat} (hc : c < C) (hd : d < C) (hk : kd c ≤ 10) (hj : kd d ≤ 10) : L_X9_same_50 rows kinds cells (nI c) (nI d) fu 0 (-1) 0 = some (nI (fb_ct (fun r => smw (kd c) (cl c r) (kd d) (cl d r)) R), fN (fun r => smw (kd c) (cl c r) (kd d) (cl d r)) R) := by
  have h16 := hV.1
  exact up_loop (fun n i (s : Int32 × Int32) => L_X9_same_50 rows kinds cells (nI c) (nI d) n s.1 s.2 i) (C := R) (fun i => (nI (fb_ct (fun r => smw (kd c) (cl c r) (kd d) (cl d r)) i), fN (fun r => smw (kd c) (cl c r) (kd d) (cl d r)) i)) (res := (nI (fb_ct (fun r => smw (kd c) (cl c r) (kd d) (cl d r)) R), fN (fun r => smw (kd c) (cl c r) (kd d) (cl d r)) R))
    (fun n i hi => by
      show L_X9_same_50 rows kinds cells (nI c) (nI d) (n + 1) _ _ _ = L_X9_same_50 rows kinds cells (nI c) (nI d) n (nI (fb_ct (fun r => smw (kd c) (cl c r) (kd d) (cl d r)) (i + 1))) (fN (fun r => smw (kd c) (cl c r) (kd d) (cl d r)) (i + 1)) _
      rw [L_X9_same_50, hC.2.1, if_neg (nI_ge hi (by omega)), ← hC.2.1, c_sameWorth hV hC hc hd hi hk hj, Option.bind_some, fb_ct_succ, fN, nI_1]
      cases smw (kd c) (cl c i) (kd d) (cl d i)
      · rw [ifbf]
        simp only [Bool.false_eq_true, if_false, Nat.add_zero]
        by_cases e : fN (fun r => smw (kd c) (cl c r) (kd d) (cl d r)) i = -1
        · rw [if_pos e, if_pos e]
        · rw [if_neg e, if_neg e]
      · rw [ifbt]
        simp only [if_true, ← nI_1])
    (fun n => by
      show L_X9_same_50 rows kinds cells (nI c) (nI d) (n + 1) _ _ _ = _
      rw [L_X9_same_50, hC.2.1, if_pos (nI_le (Nat.le_refl _) (by omega))])
    R fu 0 (by omega) (fu_lt (by omega))
theorem nI_m1 : ∀ i, i < 17 → ¬ nI i = -1 ∧ ¬ nI i < 0 ∧ nI (i + 1) - 1 = nI i ∧ nI i + (-1) = nI i - 1 := by decide +kernel
theorem m_sameL (hV : VT R C kd cl tg) (hM : MT R C kd cl tg now) {c d : Nat} (hc : c < C) (hd : d < C) (hk : kd c ≤ 10) (hj : kd d ≤ 10) : ∀ (i n e : Nat) (f : Int32), i ≤ R → i < n → L_X10_same_32 now (nI c) (nI d) n (nI e) f (nI i - 1) = some (nI (e + fb_ct (fun r => smw (kd c) (cl c r) (kd d) (cl d r)) i), if fN (fun r => smw (kd c) (cl c r) (kd d) (cl d r)) i = -1 then f else fN (fun r => smw (kd c) (cl c r) (kd d) (cl d r)) i) := by
  have h16 := hV.1
  intro i
  induction i with
  | zero =>
    intro n e f _ hn
    obtain ⟨n, rfl⟩ : ∃ n', n = n' + 1 := ⟨n - 1, by omega⟩
    rw [L_X10_same_32, if_pos (by decide)]
    rfl
  | succ i ih =>
    intro n e f hi hn
    obtain ⟨n, rfl⟩ : ∃ n', n = n' + 1 := ⟨n - 1, by omega⟩
    obtain ⟨m1, m2, m3, m4⟩ := nI_m1 i (by omega)
    rw [L_X10_same_32, m3, if_neg m2, m_areSame hV hM hc hd (by omega) hk hj, Option.bind_some, fb_ct_succ, fN, m4]
    cases smw (kd c) (cl c i) (kd d) (cl d i)
    · rw [ifbf, ih n e _ (by omega) (by omega)]
      simp only [Bool.false_eq_true, if_false, Nat.add_zero]
      by_cases q : fN (fun r => smw (kd c) (cl c r) (kd d) (cl d r)) i = -1
      · rw [if_pos q, if_neg m1]
      · rw [if_neg q, if_neg q]
    · rw [ifbt, nI_1, ih n (e + 1) f (by omega) (by omega)]
      simp only [if_true]
      rw [show e + 1 + fb_ct (fun r => smw (kd c) (cl c r) (kd d) (cl d r)) i = e + (fb_ct (fun r => smw (kd c) (cl c r) (kd d) (cl d r)) i + 1) by omega]
end
section
variable {next size undoMany cols rows asz amany : Int32} {kinds tags : Nat → Int32} {undos cells now nu row : Nat → Int64}
theorem op_same (hT : TT cols rows kinds tags cells now) (hA : AX asz nu amany row) (x1 x2 : Int32) :
    ∃ oc om, f_X9_same cols rows kinds cells asz nu x1 x2 = some oc ∧ f_X10_same amany now row x1 x2 = some om ∧ oc.1 = om.1 ∧ AX oc.2.1 oc.2.2 om.2.1 om.2.2.2 := by
  obtain ⟨R, C, kd, cl, tg, hV, hC, hM⟩ := id hT
  have h6 := hV.2.1
  have h16 := hV.1
  unfold f_X9_same f_X10_same
  rw [hC.1, c_hasCol hV, c_hasCol hV]
  try rw [← hC.1]
  by_cases hx : ixd x1 C = true
  · rw [hx]
    by_cases hy : ixd x2 C = true
    · rw [hy]
      obtain ⟨c, hc, rfl⟩ := ixd_of (by omega) hx
      obtain ⟨d, hd, rfl⟩ := ixd_of (by omega) hy
      simp only [Option.bind_some, ifbt]
      rw [c_unasked2 hV hC hc hd, m_refBoth hV hM hc hd]
      simp only [Option.bind_some]
      by_cases h0 : why2 (kd c) (kd d) = 0
      · obtain ⟨hk, hj⟩ := why2_0 h0
        have hm := m_sameL hV hM hc hd hk hj R fu 0 (-1) (Nat.le_refl _) (fu_lt (by omega))
        have hm' : L_X10_same_32 now (nI c) (nI d) fu 0 (-1) (nI R - 1) = _ := hm
        rw [h0, if_pos (show nI 0 = 0 by decide), if_pos (show (0 : Int32) ≤ -nI 0 by decide), c_sameL hV hC hc hd hk hj, m_rows hM]
        simp only [Option.bind_some]
        rw [hm']
        simp only [Option.bind_some]
        have e : (if fN (fun r => smw (kd c) (cl c r) (kd d) (cl d r)) R = -1 then -1 else fN (fun r => smw (kd c) (cl c r) (kd d) (cl d r)) R) = fN (fun r => smw (kd c) (cl c r) (kd d) (cl d r)) R := by
          split
          · rename_i q; exact q.symm
          · rfl
        rw [e, Nat.zero_add, c_tell, li0, m_tell 0 (by omega)]
        exact ⟨_, _, rfl, rfl, rfl, AX.one _ _ _⟩
      · have := why2_le (kd c) (kd d)
        rw [if_neg (nz_no _ this h0), if_neg (neg_pos _ this h0)]
        exact ⟨_, _, rfl, rfl, rfl, hA⟩
    · have hy' : ixd x2 C = false := by simpa using hy
      rw [hy', m_refBoth0 hV hM (Or.inr hy')]
      exact ⟨_, _, rfl, rfl, rfl, hA⟩
  · have hx' : ixd x1 C = false := by simpa using hx
    rw [hx', m_refBoth0 hV hM (Or.inl hx')]
    exact ⟨_, _, rfl, rfl, rfl, hA⟩
end
