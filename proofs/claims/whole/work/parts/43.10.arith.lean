/-! what things of each kind are as numbers: both sides alike -/
/-- the kind of what a way tells -/
def tk (w : Nat) : Nat := if w = 18 then 4 else if w = 19 then 9 else if w = 20 then 10 else if w = 21 then 14 else if w < 10 then w else w - 10
/-- the ways that put -/
def okw (w : Nat) : Prop := w < 22 ∧ w ≠ 8 ∧ w ≠ 9
def chb (k w : Nat) : Bool := (f_X10_canHold (nI k) (nI w)).getD false
def wdb (k w : Nat) : Bool := (f_X10_widens (nI k) (nI w)).getD false
theorem told_dec : ∀ w, w < 22 → f_X3_toldKind (nI w) = some (nI (tk w)) := by decide +kernel
theorem fits_dec0 : ∀ k, k < 11 → ∀ w, w < 22 → (decide (w = 8) || decide (w = 9) || (decide (w < 8) && decide (8 ≤ k)) || decide (f_X3_fits (nI (tk w)) (nI k) = some (chb k w))) = true := by decide +kernel
theorem fits_dec {k w : Nat} (hk : k < 11) (hw : okw w) (h : 8 ≤ w ∨ k < 8) : f_X3_fits (nI (tk w)) (nI k) = some (chb k w) := by
  have := fits_dec0 k hk w hw.1
  simp only [hw.2.1, hw.2.2, decide_false, Bool.false_or, Bool.and_eq_true, Bool.or_eq_true, decide_eq_true_eq] at this
  rcases this with q | q
  · omega
  · exact q
theorem hold_dec : ∀ k, k < 14 → ∀ w, w < 22 → w ≠ 8 → w ≠ 9 → f_X10_canHold (nI k) (nI w) = some (chb k w) := by decide +kernel
theorem wid_decM : ∀ k, k < 8 → ∀ w, w < 8 → f_X10_widens (nI k) (nI w) = some (wdb k w) := by decide +kernel
theorem wid_decC : ∀ k, k < 8 → ∀ w, w < 8 → f_X3_widens (nI k) (nI w) = some (wdb k w) := by decide +kernel
theorem wid_decC8 : ∀ k, k < 14 → 8 ≤ k → ∀ w, w < 22 → f_X3_widens (nI k) (nI w) = some false := by decide +kernel
theorem chb_small0 : ∀ k, k < 8 → ∀ w, w < 22 → (decide (w = 8) || decide (w = 9) || !chb k w || (decide (tk w < 8) && wdb (tk w) k)) = true := by decide +kernel
theorem chb_small {k w : Nat} (hk : k < 8) (hw : okw w) (h : chb k w = true) : tk w < 8 ∧ wdb (tk w) k = true := by
  have := chb_small0 k hk w hw.1
  simp only [h, hw.2.1, hw.2.2, decide_false, Bool.false_or, Bool.not_true, Bool.and_eq_true, decide_eq_true_eq] at this
  exact this
theorem chb_big0 : ∀ k, k < 11 → ∀ w, w < 22 → (decide (k < 8) || decide (w = 8) || decide (w = 9) || !chb k w || decide (w = 21) || (decide (k = 8) && decide (tk w = 4)) || (decide (9 ≤ k) && decide (tk w = k))) = true := by decide +kernel
theorem chb_big {k w : Nat} (hk : k < 11) (h8 : 8 ≤ k) (hw : okw w) (h : chb k w = true) : w = 21 ∨ (k = 8 ∧ tk w = 4) ∨ (9 ≤ k ∧ tk w = k) := by
  have := chb_big0 k hk w hw.1
  simp only [h, hw.2.1, hw.2.2, show ¬ k < 8 by omega, decide_false, Bool.false_or, Bool.not_true, Bool.and_eq_true, Bool.or_eq_true, decide_eq_true_eq] at this
  omega
/-- the number by which cells of a kind are ordered -/
def wt (k : Nat) (v : Int64) : Int64 := (f_X3_weight (nI k) v).getD 0
