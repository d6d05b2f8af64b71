/-! a cell put -/
theorem kow_dec : ∀ w, w < 22 → w ≠ 8 → w ≠ 9 → f_X10_kindOfWay (nI w) = some (if w = 19 ∨ w = 20 ∨ w = 21 then -1 else nI (tk w)) := by decide +kernel
theorem tk_le : ∀ w, w < 22 → tk w ≤ 14 := by decide +kernel
theorem okc_nothing {k : Nat} (h : 8 ≤ k) : okc k nothing := ⟨by omega, by omega, by omega, by omega, by omega, by omega, by omega, by omega, fun _ => Or.inl rfl, fun _ => Or.inl rfl, fun _ => Or.inl rfl⟩
theorem okc_48 {z : Int64} (h : okc 4 z) : okc 8 z := ⟨by omega, by omega, by omega, by omega, by omega, by omega, by omega, by omega, fun _ => Or.inr (h.2.2.2.2.1 rfl), by omega, by omega⟩
theorem c_wide8 {a k : Nat} (hk : 8 ≤ k) (hk2 : k < 14) (ha : a < 15) (z : Int64) : f_X3_widened (nI a) (nI k) z = some z := by
  unfold f_X3_widened
  rw [li6, li7]
  by_cases h : nI a = nI k
  · rw [if_pos h]
  · rw [if_neg h, if_neg (fun e => by have := (nI_eq (by omega) (by omega)).mp e; omega), if_neg (fun e => by have := (nI_eq (by omega) (by omega)).mp e; omega)]
section
variable {R C : Nat} {kd : Nat → Nat} {cl : Nat → Nat → Int64} {tg : Nat → Nat} {now : Nat → Int64} {cols rows : Int32} {kinds tags : Nat → Int32} {cells : Nat → Int64}
theorem c_store (hV : VT R C kd cl tg) (hC : CT R C kd cl tg cols rows kinds tags cells) {c r a : Nat} (hc : c < C) (hr : r < R) {v z : Int64} (hz : f_X3_widened (nI a) (nI (kd c)) v = some z) : f_X8_store kinds cells (nI c) (nI r) (nI a) v = some (vp_updL cells (c * 16 + r) z) := by
  have h6 := hV.2.1
  have h16 := hV.1
  unfold f_X8_store
  rw [gdI (by omega) (by omega), nI_clamp (show c < 2 ^ 31 by omega), hC.2.2.1 c hc, hz]
  simp only [Option.bind_some]
  rw [li16, pk_mul, nI_add, gdI (by omega) (by omega), nI_clamp (by omega)]
theorem m_store (hV : VT R C kd cl tg) (hM : MT R C kd cl tg now) {c r w : Nat} (hc : c < C) (hr : r < R) (hw' : okw w) {v z : Int64} (h8 : kd c < 8 → ¬ (w = 19 ∨ w = 20 ∨ w = 21) ∧ f_X10_widened v (nI (tk w)) (nI (kd c)) = some z) (h9 : 8 ≤ kd c → z = v) : f_X10_store now (nI c) (nI r) (nI w) v = some (vp_updL now (24 + 16 * c + r) z) := by
  have h6 := hV.2.1
  have h16 := hV.1
  have h13 := hV.2.2.1 c hc
  unfold f_X10_store f_X10_cellAt
  have hw := hw'.1
  rw [kow_dec w hw hw'.2.1 hw'.2.2, m_kind hV hM hc]
  simp only [Option.bind_some]
  rw [li24, li16, pk_mul, nI_add, nI_add, li8]
  simp only [gdI (show 24 + 16 * c + r < 120 by omega) (show 120 < 2 ^ 31 by omega)]
  rw [nI_clamp (show 24 + 16 * c + r < 2 ^ 31 by omega)]
  by_cases hk : kd c < 8
  · obtain ⟨q1, q2⟩ := h8 hk
    rw [if_neg q1, if_neg, if_pos (nI_lt hk (by omega)), q2]
    · rfl
    · have := tk_le w hw
      intro e
      have := congrArg Int32.toInt e
      rw [nI_toInt (by omega)] at this
      have h1 : (-1 : Int32).toInt = -1 := by decide
      rw [h1] at this
      omega
  · rw [h9 (by omega)]
    rw [if_neg (show ¬ nI (kd c) < nI 8 from nI_nlt (by omega) (by omega))]
    simp only [ite_self]
/-- one cell put, in a column and by a way that there are: both sides -/
theorem put_in (hV : VT R C kd cl tg) (hC : CT R C kd cl tg cols rows kinds tags cells) (hM : MT R C kd cl tg now) {c w : Nat} (hc : c < C) (hw : okw w) (x v : Int32) :
    ∃ (e : Nat) (cells' now' : Nat → Int64) (cl' : Nat → Nat → Int64), e ≤ 6 ∧ f_X9_putTold cols rows kinds cells (nI c) x (nI w) v = some (-nI e, cells') ∧ f_X10_puts now (nI c) x (nI w) v = some (nI e, now') ∧
      VT R C kd cl' tg ∧ CT R C kd cl' tg cols rows kinds tags cells' ∧ MT R C kd cl' tg now' ∧ (e ≠ 0 → cells' = cells ∧ now' = now) := by
  have h6 := hV.2.1
  have h16 := hV.1
  have h13 := hV.2.2.1 c hc
  have hp : f_X3_puts (nI w) = some true := by
    have : ∀ w, w < 22 → w ≠ 8 → w ≠ 9 → f_X3_puts (nI w) = some true := by decide +kernel
    exact this w hw.1 hw.2.1 hw.2.2
  have hwm : f_X10_whyNot now (nI c) x (nI w) (b2i (chb (kd c) w)) = some (nI (wnp (kd c) (ixd x R) w)) := by
    rw [m_whyNot hV hM hc hw.1]; rfl
  have hle : wnp (kd c) (ixd x R) w ≤ 6 := by unfold wnp why0; split <;> (repeat' split) <;> omega
  by_cases h0 : wnp (kd c) (ixd x R) w = 0
  · have hk : kd c ≤ 10 := by
      unfold wnp why0 at h0
      by_cases h : kd c ≤ 10
      · exact h
      · rw [if_neg h, if_neg h] at h0
        split at h0 <;> omega
    have hx : ixd x R = true := by
      unfold wnp at h0
      rw [if_pos hk] at h0
      by_cases hx : ixd x R = true
      · exact hx
      · rw [if_neg hx] at h0; split at h0 <;> omega
    have hch : chb (kd c) w = true := by
      unfold wnp at h0
      rw [if_pos hk, if_pos hx] at h0
      by_cases hx : chb (kd c) w = true
      · exact hx
      · rw [if_neg hx] at h0; split at h0 <;> omega
    obtain ⟨r, hr, rfl⟩ := ixd_of (by omega) hx
    obtain ⟨z, hz1, hz2, hz3, hz4⟩ := F2 w hw v
    obtain ⟨z', hA, hB, hB2, hO⟩ : ∃ z', f_X3_widened (nI (tk w)) (nI (kd c)) z = some z' ∧ (kd c < 8 → ¬ (w = 19 ∨ w = 20 ∨ w = 21) ∧ f_X10_widened z (nI (tk w)) (nI (kd c)) = some z') ∧ (8 ≤ kd c → z' = z) ∧ okc (kd c) z' := by
      by_cases h8 : kd c < 8
      · obtain ⟨q1, q2⟩ := chb_small h8 hw hch
        have hn : ¬ (w = 19 ∨ w = 20 ∨ w = 21) := by
          intro e
          rcases e with rfl | rfl | rfl <;> exact absurd q1 (by decide)
        obtain ⟨z', a1, a2, a3⟩ := F1 (tk w) (kd c) q1 h8 q2 z (hz3 (fun e => hn (Or.inr (Or.inr e))))
        exact ⟨z', a1, fun _ => ⟨hn, a2⟩, fun h => by omega, a3⟩
      · refine ⟨z, c_wide8 (by omega) (by omega) (by have := tk_le w hw.1; omega) z, fun h => absurd h h8, fun _ => rfl, ?_⟩
        rcases chb_big (by omega) (by omega) hw hch with q | ⟨q1, q2⟩ | ⟨q1, q2⟩
        · rw [hz4 q]; exact okc_nothing (by omega)
        · have hne : w ≠ 21 := by rintro rfl; exact absurd q2 (by decide)
          have := hz3 hne
          rw [q2] at this
          rw [q1]; exact okc_48 this
        · have hne : w ≠ 21 := by rintro rfl; have h14 : tk 21 = 14 := by decide
                                  omega
          have := hz3 hne
          rw [q2] at this
          exact this
    refine ⟨0, vp_updL cells (c * 16 + r) z', vp_updL now (24 + 16 * c + r) z', up2 cl c r z', by omega, ?_, ?_, hV.set z' (fun _ => hO), hC.set hV hc hr z', hM.set hV hc hr z', fun h => absurd rfl h⟩
    · unfold f_X9_putTold
      rw [hC.1, c_hasCol hV, ixd_nI (by omega) hc, hp]
      try rw [← hC.1]
      rw [c_whyNotPut hV hC hc hw, h0]
      simp only [Option.bind_some, ifbt, told_dec w hw.1, hz1, c_store hV hC hc hr hA]
      rfl
    · unfold f_X10_puts
      rw [m_kind hV hM hc]
      simp only [Option.bind_some, hold_dec (kd c) (by omega) w hw.1 hw.2.1 hw.2.2]
      rw [hwm, h0]
      simp only [Option.bind_some, hz2, m_store hV hM hc hr hw hB hB2]
      rfl
  · refine ⟨wnp (kd c) (ixd x R) w, cells, now, cl, hle, ?_, ?_, hV, hC, hM, fun _ => ⟨rfl, rfl⟩⟩
    · unfold f_X9_putTold
      rw [hC.1, c_hasCol hV, ixd_nI (by omega) hc, hp]
      try rw [← hC.1]
      rw [c_whyNotPut hV hC hc hw]
      simp only [Option.bind_some, ifbt]
      rw [if_neg (nI_ne0 (by omega) (by omega))]
    · unfold f_X10_puts
      rw [m_kind hV hM hc]
      simp only [Option.bind_some, hold_dec (kd c) (by omega) w hw.1 hw.2.1 hw.2.2]
      rw [hwm]
      simp only [Option.bind_some]
      rw [if_neg (nI_ne0 (by omega) (by omega))]
end
