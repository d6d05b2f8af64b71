/-! the smallest functions, both sides -/
theorem predlt {n : Nat} (hn : n < 2 ^ 30) (x : Int32) : (nI n - 1 < x) ↔ nI n ≤ x := by
  have e : (nI n - 1).toInt = (n : Int) - 1 := by
    have := pk_sub_toInt (a := n) (b := 1) hn (by decide)
    rw [← li1] at this
    exact this
  rw [Int32.lt_iff_toInt_lt, Int32.le_iff_toInt_le, e, nI_toInt (by omega)]
  omega
theorem f_in (x lo hi : Int32) : f_X10_in x lo hi = some (decide (¬ x < lo) && decide (¬ hi < x)) := by
  unfold f_X10_in
  by_cases h1 : x < lo
  · simp [h1]
  · by_cases h2 : hi < x <;> simp [h1, h2]
section
variable {R C : Nat} {kd : Nat → Nat} {cl : Nat → Nat → Int64} {tg : Nat → Nat} {now : Nat → Int64} {cols rows : Int32} {kinds tags : Nat → Int32} {cells : Nat → Int64}
theorem m_rows (hM : MT R C kd cl tg now) : f_X10_rows now = some (nI R) := by
  unfold f_X10_rows
  rw [tn0, hM.1, lN_i]
theorem m_cols (hM : MT R C kd cl tg now) : f_X10_columns now = some (nI C) := by
  unfold f_X10_columns
  rw [tn1, hM.2.1, lN_i]
theorem m_kind (hV : VT R C kd cl tg) (hM : MT R C kd cl tg now) {c : Nat} (hc : c < C) : f_X10_kindOf now (nI c) = some (nI (kd c)) := by
  have h6 := hV.2.1
  unfold f_X10_kindOf
  rw [li2, nI_add, gdI (by omega) (by omega), nI_clamp (by omega), hM.2.2.1 c hc, lN_i]
theorem m_isCol (hV : VT R C kd cl tg) (hM : MT R C kd cl tg now) (x : Int32) : f_X10_isColumn now x = some (ixd x C) := by
  have h6 := hV.2.1
  unfold f_X10_isColumn ixd
  rw [m_cols hM]
  simp only [Option.bind_some, f_in, predlt (show C < 2 ^ 30 by omega) x]
theorem m_isRow (hV : VT R C kd cl tg) (hM : MT R C kd cl tg now) (x : Int32) : f_X10_isRow now x = some (ixd x R) := by
  have h6 := hV.1
  unfold f_X10_isRow ixd
  rw [m_rows hM]
  simp only [Option.bind_some, f_in, predlt (show R < 2 ^ 30 by omega) x]
theorem m_isProper (hV : VT R C kd cl tg) (hM : MT R C kd cl tg now) {c : Nat} (hc : c < C) : f_X10_isProper now (nI c) = some (decide (kd c ≤ 10)) := by
  have h6 := hV.2.1
  have h13 := hV.2.2.1 c hc
  unfold f_X10_isProper
  rw [m_isCol hV hM, ixd_nI (by omega) hc, m_kind hV hM hc]
  simp only [Option.bind_some, ifbt, li10]
  by_cases h : kd c ≤ 10
  · rw [if_neg (nI_nlt h (by omega))]; simp [h]
  · rw [if_pos (nI_lt (by omega) (by omega))]; simp [h]
theorem m_isProper0 (hV : VT R C kd cl tg) (hM : MT R C kd cl tg now) {x : Int32} (h : ixd x C = false) : f_X10_isProper now x = some false := by
  unfold f_X10_isProper
  rw [m_isCol hV hM, h]
  rfl
theorem m_cell (hV : VT R C kd cl tg) (hM : MT R C kd cl tg now) {c r : Nat} (hc : c < C) (hr : r < R) : f_X10_cell now (nI c) (nI r) = some (cl c r) := by
  have h6 := hV.2.1
  have h16 := hV.1
  unfold f_X10_cell f_X10_cellAt
  simp only [Option.bind_some]
  rw [li24, li16, pk_mul, nI_add, nI_add, gdI (by omega) (by omega), nI_clamp (by omega), hM.2.2.2.2 c r hc hr]
theorem c_hasCol (hV : VT R C kd cl tg) (x : Int32) : f_X8_hasColumn (nI C) x = some (ixd x C) := by
  unfold f_X8_hasColumn ixd
  by_cases h1 : x < 0
  · simp [h1]
  · by_cases h2 : nI C ≤ x <;> simp [h1, h2]
theorem c_hasRow (x : Int32) : f_X8_hasRow (nI R) x = some (ixd x R) := by
  unfold f_X8_hasRow ixd
  by_cases h1 : x < 0
  · simp [h1]
  · by_cases h2 : nI R ≤ x <;> simp [h1, h2]
theorem c_isProper (hV : VT R C kd cl tg) (hC : CT R C kd cl tg cols rows kinds tags cells) {c : Nat} (hc : c < C) : f_X8_isProper cols kinds (nI c) = some (decide (kd c ≤ 10)) := by
  have h6 := hV.2.1
  have h13 := hV.2.2.1 c hc
  unfold f_X8_isProper
  rw [hC.1, c_hasCol hV, ixd_nI (by omega) hc]
  simp only [Option.bind_some, ifbt, li10]
  rw [gdI (by omega) (by omega), nI_clamp (by omega), hC.2.2.1 c hc]
  by_cases h : kd c ≤ 10
  · rw [if_neg (nI_nlt h (by omega))]; simp [h]
  · rw [if_pos (nI_lt (by omega) (by omega))]; simp [h]
theorem c_isProper0 (hV : VT R C kd cl tg) (hC : CT R C kd cl tg cols rows kinds tags cells) {x : Int32} (h : ixd x C = false) : f_X8_isProper cols kinds x = some false := by
  unfold f_X8_isProper
  rw [hC.1, c_hasCol hV, h]
  rfl
theorem c_cell (hV : VT R C kd cl tg) (hC : CT R C kd cl tg cols rows kinds tags cells) {c r : Nat} (hc : c < C) (hr : r < R) : f_X8_cell cells (nI c) (nI r) = some (cl c r) := by
  have h6 := hV.2.1
  have h16 := hV.1
  unfold f_X8_cell
  rw [li16, pk_mul, nI_add, gdI (by omega) (by omega), nI_clamp (by omega), hC.2.2.2.2 c r hc hr]
theorem c_isLike (hV : VT R C kd cl tg) (hC : CT R C kd cl tg cols rows kinds tags cells) {c r s : Nat} (hc : c < C) (hr : r < R) (hs : s < R) : f_X8_isLike cells (nI c) (nI r) (nI s) = some (decide (cl c r = cl c s)) := by
  unfold f_X8_isLike
  rw [c_cell hV hC hc hr, c_cell hV hC hc hs]
  simp only [Option.bind_some, lg_cmp_eq]
  by_cases h : cl c r = cl c s <;> simp [h]
end
