/-! floats and doubles: what the rest uses -/
theorem F1 : ∀ a b, a < 8 → b < 8 → wdb a b = true → ∀ v, okc a v → ∃ z, f_X3_widened (nI a) (nI b) v = some z ∧ f_X10_widened v (nI a) (nI b) = some z ∧ okc b z := G1
theorem F2 : ∀ w, okw w → ∀ x : Int32, ∃ z, f_X3_told (nI w) x = some z ∧ f_X10_thingOf (nI w) x = some z ∧ (w ≠ 21 → okc (tk w) z) ∧ (w = 21 → z = nothing) := G2
theorem F3w : ∀ k, k < 14 → ∀ v, okc k v → f_X3_weight (nI k) v = some (wt k v) := G3w
theorem F3i : ∀ k, k < 11 → ∀ v w, okc k v → okc k w → wt k v = wt k w → v = w := G3i
theorem F3l : ∀ k, k < 11 → ∀ v w, okc k v → okc k w → f_X10_isLesser (nI k) v w = some (decide (wt k v < wt k w)) := G3l
theorem F5 : ∀ a, 1 ≤ a → a ≤ 8 → ∀ v, okc a v → (a = 8 → v ≠ nothing) → ∃ z : Int64, f_X3_widened (nI a) (nI 7) v = some z ∧ f_X10_worth (nI a) v = some z.toUInt64 ∧ okc 7 z := G5
theorem F6 {z y : Int64} (hz : okc 7 z) (hy : okc 7 y) : Op.cmpValue (FP.dcmp z.toUInt64 y.toUInt64) .l = 0 ↔ z = y := G6 hz hy
