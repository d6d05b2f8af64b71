/-! why a cell can't be put or taken; a cell put -/
def why0 (k : Nat) : Nat := if k ≤ 10 then 0 else if k = 11 then 2 else 3
def wnp (k : Nat) (ro : Bool) (w : Nat) : Nat := if k ≤ 10 then (if w < 8 ∧ 8 ≤ k then 4 else if ro then (if chb k w then 0 else 6) else 5) else why0 k
/-- what may be taken by a way -/
def tkb (k w : Nat) : Bool := decide (w = 10) || (decide (k < 8) && wdb k w)
def wnt (k : Nat) (ro : Bool) (w : Nat) : Nat := if k ≤ 10 then (if w < 8 ∧ 8 ≤ k then 4 else if ro then (if tkb k w then 0 else 6) else 5) else why0 k
theorem numw_dec : ∀ w, w < 22 → f_X3_isNumberWay (nI w) = some (decide (w < 8)) := by decide +kernel
theorem li3 : (3 : Int32) = nI 3 := by decide
theorem li4 : (4 : Int32) = nI 4 := by decide
theorem li5 : (5 : Int32) = nI 5 := by decide
def up2 (cl : Nat → Nat → Int64) (c r : Nat) (z : Int64) : Nat → Nat → Int64 := fun c' r' => if c' = c ∧ r' = r then z else cl c' r'
section
variable {R C : Nat} {kd : Nat → Nat} {cl : Nat → Nat → Int64} {tg : Nat → Nat} {now : Nat → Int64} {cols rows : Int32} {kinds tags : Nat → Int32} {cells : Nat → Int64}
theorem CT.set (hV : VT R C kd cl tg) (hC : CT R C kd cl tg cols rows kinds tags cells) {c r : Nat} (hc : c < C) (hr : r < R) (z : Int64) : CT R C kd (up2 cl c r z) tg cols rows kinds tags (vp_updL cells (c * 16 + r) z) := by
  refine ⟨hC.1, hC.2.1, hC.2.2.1, hC.2.2.2.1, fun c' r' hc' hr' => ?_⟩
  have h16 := hV.1
  unfold vp_updL up2
  by_cases h : c' = c ∧ r' = r
  · rw [if_pos (by rw [h.1, h.2]), if_pos h]
  · rw [if_neg (by omega), if_neg h]
    exact hC.2.2.2.2 c' r' hc' hr'
theorem MT.set (hV : VT R C kd cl tg) (hM : MT R C kd cl tg now) {c r : Nat} (hc : c < C) (hr : r < R) (z : Int64) : MT R C kd (up2 cl c r z) tg (vp_updL now (24 + 16 * c + r) z) := by
  have h16 := hV.1
  have h6 := hV.2.1
  refine ⟨?_, ?_, fun c' hc' => ?_, fun r' hr' => ?_, fun c' r' hc' hr' => ?_⟩
  · unfold vp_updL; rw [if_neg (by omega)]; exact hM.1
  · unfold vp_updL; rw [if_neg (by omega)]; exact hM.2.1
  · unfold vp_updL; rw [if_neg (by omega)]; exact hM.2.2.1 c' hc'
  · unfold vp_updL; rw [if_neg (by omega)]; exact hM.2.2.2.1 r' hr'
  · unfold vp_updL up2
    by_cases h : c' = c ∧ r' = r
    · rw [if_pos (by rw [h.1, h.2]), if_pos h]
    · rw [if_neg (by omega), if_neg h]
      exact hM.2.2.2.2 c' r' hc' hr'
theorem VT.set (hV : VT R C kd cl tg) {c r : Nat} (z : Int64) (hz : c < C → okc (kd c) z) : VT R C kd (up2 cl c r z) tg := by
  refine ⟨hV.1, hV.2.1, hV.2.2.1, fun c' r' hc' hr' => ?_, hV.2.2.2.2⟩
  unfold up2
  by_cases h : c' = c ∧ r' = r
  · rw [if_pos h, h.1]; exact hz (h.1 ▸ hc')
  · rw [if_neg h]; exact hV.2.2.2.1 c' r' hc' hr'
theorem c_whyUnasked (hV : VT R C kd cl tg) (hC : CT R C kd cl tg cols rows kinds tags cells) {c : Nat} (hc : c < C) : f_X8_whyUnasked kinds (nI c) = some (nI (why0 (kd c))) := by
  have h6 := hV.2.1
  have h13 := hV.2.2.1 c hc
  unfold f_X8_whyUnasked why0
  rw [gdI (by omega) (by omega), gdI (by omega) (by omega), nI_clamp (by omega), hC.2.2.1 c hc, li10, li11]
  by_cases h : kd c ≤ 10
  · rw [if_neg (nI_nlt h (by omega)), if_pos h]; rfl
  · rw [if_pos (nI_lt (by omega) (by omega)), if_neg h]
    by_cases h2 : kd c = 11
    · rw [if_pos (by rw [h2]), if_pos h2]; rfl
    · rw [if_neg (fun e => h2 ((nI_eq (by omega) (by omega)).mp e)), if_neg h2]; rfl
theorem m_whyNoRow (hV : VT R C kd cl tg) (hM : MT R C kd cl tg now) {c : Nat} (hc : c < C) : f_X10_whyNoRow now (nI c) = some (nI (why0 (kd c))) := by
  have h13 := hV.2.2.1 c hc
  unfold f_X10_whyNoRow why0
  rw [m_kind hV hM hc]
  simp only [Option.bind_some]
  rw [li11, li12]
  by_cases h2 : kd c = 11
  · rw [if_pos (by rw [h2]), if_neg (by omega), if_pos h2]; rfl
  · rw [if_neg (fun e => h2 ((nI_eq (by omega) (by omega)).mp e))]
    by_cases h : kd c ≤ 10
    · rw [if_pos (nI_lt (by omega) (by omega)), if_pos h]; rfl
    · rw [if_neg (nI_nlt (by omega) (by omega)), if_neg h, if_neg h2]; rfl
theorem c_whyNoCell (hV : VT R C kd cl tg) (hC : CT R C kd cl tg cols rows kinds tags cells) {c w : Nat} (hc : c < C) (hw : w < 22) (x : Int32) : f_X8_whyNoCell rows kinds (nI c) x (nI w) = some (nI (if kd c ≤ 10 then (if w < 8 ∧ 8 ≤ kd c then 4 else if ixd x R then 0 else 5) else why0 (kd c))) := by
  have h6 := hV.2.1
  have h13 := hV.2.2.1 c hc
  unfold f_X8_whyNoCell
  rw [c_whyUnasked hV hC hc, hC.2.1]
  simp only [Option.bind_some, numw_dec w hw, c_hasRow, ifb, decide_eq_true_eq]
  by_cases h : kd c ≤ 10
  · rw [if_pos h, if_pos (by unfold why0; rw [if_pos h]; rfl)]
    by_cases h8 : w < 8
    · rw [if_pos h8, gdI (by omega) (by omega), nI_clamp (by omega), hC.2.2.1 c hc, li7]
      by_cases h7 : kd c ≤ 7
      · rw [if_pos (nI_le h7 (by omega)), if_neg (show ¬ (w < 8 ∧ 8 ≤ kd c) by omega)]
        by_cases hx : ixd x R = true <;> simp [hx, li0, li5]
      · rw [if_neg (nI_ge (by omega) (by omega)), if_pos (show w < 8 ∧ 8 ≤ kd c by omega)]; rfl
    · rw [if_neg h8, if_neg (show ¬ (w < 8 ∧ 8 ≤ kd c) by omega)]
      by_cases hx : ixd x R = true <;> simp [hx, li0, li5]
  · rw [if_neg h, if_neg]
    unfold why0
    rw [if_neg h, li0]
    by_cases h2 : kd c = 11
    · rw [if_pos h2]; decide
    · rw [if_neg h2]; decide
theorem c_whyNotPut (hV : VT R C kd cl tg) (hC : CT R C kd cl tg cols rows kinds tags cells) {c w : Nat} (hc : c < C) (hw : okw w) (x : Int32) : f_X8_whyNotPut rows kinds (nI c) x (nI w) = some (nI (wnp (kd c) (ixd x R) w)) := by
  have h6 := hV.2.1
  have h13 := hV.2.2.1 c hc
  unfold f_X8_whyNotPut wnp
  rw [c_whyNoCell hV hC hc hw.1]
  simp only [Option.bind_some, told_dec w hw.1]
  rw [gdI (by omega) (by omega), nI_clamp (by omega), hC.2.2.1 c hc]
  by_cases h : kd c ≤ 10
  · rw [if_pos h, if_pos h]
    by_cases h8 : w < 8 ∧ 8 ≤ kd c
    · rw [if_pos h8, if_pos h8]; rfl
    · rw [if_neg h8, if_neg h8]
      by_cases hx : ixd x R = true
      · rw [if_pos hx, if_pos hx, if_pos nI_0', fits_dec (by omega) hw (by omega)]
        simp only [Option.bind_some, ifb]
        by_cases hch : chb (kd c) w = true <;> simp [hch, li0, li6]
      · rw [if_neg hx, if_neg hx]; rfl
  · rw [if_neg h, if_neg h, if_neg]
    unfold why0
    rw [if_neg h, li0]
    by_cases h2 : kd c = 11
    · rw [if_pos h2]; decide
    · rw [if_neg h2]; decide
theorem c_whyNotTaken (hV : VT R C kd cl tg) (hC : CT R C kd cl tg cols rows kinds tags cells) {c w : Nat} (hc : c < C) (hw : w < 8 ∨ w = 10) (x : Int32) : f_X8_whyNotTaken rows kinds (nI c) x (nI w) = some (nI (wnt (kd c) (ixd x R) w)) := by
  have h6 := hV.2.1
  have h13 := hV.2.2.1 c hc
  unfold f_X8_whyNotTaken wnt
  rw [c_whyNoCell hV hC hc (by omega)]
  simp only [Option.bind_some]
  rw [gdI (by omega) (by omega), nI_clamp (by omega), hC.2.2.1 c hc, li10]
  by_cases h : kd c ≤ 10
  · rw [if_pos h, if_pos h]
    by_cases h8 : w < 8 ∧ 8 ≤ kd c
    · rw [if_pos h8, if_pos h8]; rfl
    · rw [if_neg h8, if_neg h8]
      by_cases hx : ixd x R = true
      · rw [if_pos hx, if_pos hx, if_pos nI_0']
        by_cases hw10 : w = 10
        · rw [if_pos (by rw [hw10])]
          simp [tkb, hw10, li0]
        · rw [if_neg (fun e => hw10 ((nI_eq (by omega) (by omega)).mp e)), wid_decC (kd c) (by omega) w (by omega)]
          simp only [Option.bind_some, ifb]
          by_cases hch : wdb (kd c) w = true <;> simp [tkb, hch, hw10, li0, li6, show kd c < 8 by omega]
      · rw [if_neg hx, if_neg hx]; rfl
  · rw [if_neg h, if_neg h, if_neg]
    unfold why0
    rw [if_neg h, li0]
    by_cases h2 : kd c = 11
    · rw [if_pos h2]; decide
    · rw [if_neg h2]; decide
theorem m_whyNot (hV : VT R C kd cl tg) (hM : MT R C kd cl tg now) {c w : Nat} (hc : c < C) (hw : w < 22) (x : Int32) (b : Bool) : f_X10_whyNot now (nI c) x (nI w) (b2i b) = some (nI (if kd c ≤ 10 then (if w < 8 ∧ 8 ≤ kd c then 4 else if ixd x R then (if b then 0 else 6) else 5) else why0 (kd c))) := by
  have h13 := hV.2.2.1 c hc
  unfold f_X10_whyNot
  rw [m_whyNoRow hV hM hc, m_kind hV hM hc, m_isRow hV hM]
  simp only [Option.bind_some, ifb, li8]
  by_cases h : kd c ≤ 10
  · rw [if_pos h, if_pos (by unfold why0; rw [if_pos h]; decide)]
    by_cases h8 : 8 ≤ w
    · rw [if_pos (nI_le h8 (by omega)), if_neg (show ¬ (w < 8 ∧ 8 ≤ kd c) by omega)]
      by_cases hx : ixd x R = true <;> cases b <;> simp [hx, li0, li5, li6]
    · rw [if_neg (nI_ge (by omega) (by omega))]
      by_cases h7 : kd c < 8
      · rw [if_pos (nI_lt h7 (by omega)), if_neg (show ¬ (w < 8 ∧ 8 ≤ kd c) by omega)]
        by_cases hx : ixd x R = true <;> cases b <;> simp [hx, li0, li5, li6]
      · rw [if_neg (nI_nlt (by omega) (by omega)), if_pos (show w < 8 ∧ 8 ≤ kd c by omega)]; rfl
  · rw [if_neg h, if_neg]
    unfold why0
    rw [if_neg h]
    by_cases h2 : kd c = 11
    · rw [if_pos h2]; decide
    · rw [if_neg h2]; decide
theorem m_whyTaken (hV : VT R C kd cl tg) (hM : MT R C kd cl tg now) {c w : Nat} (hc : c < C) (hw : w < 8 ∨ w = 10) (x : Int32) : f_X10_whyTaken now (nI c) x (nI w) = some (nI (wnt (kd c) (ixd x R) w)) := by
  have h13 := hV.2.2.1 c hc
  have key : (if nI w = 10 then some 1 else (f_X10_kindOf now (nI c)).bind fun o_457 => (if 8 ≤ o_457 then some 0 else (f_X10_kindOf now (nI c)).bind fun o_469 => (f_X10_widens o_469 (nI w)).bind fun o_471 => (if b2i o_471 = 0 then some (0 : Int32) else some 1).bind fun v_473 => some v_473).bind fun v_459 => some v_459) = some (b2i (tkb (kd c) w)) := by
    rw [m_kind hV hM hc, li10, li8]
    simp only [Option.bind_some]
    by_cases hw10 : w = 10
    · rw [if_pos (by rw [hw10])]; simp [tkb, hw10, b2i]
    · rw [if_neg (fun e => hw10 ((nI_eq (by omega) (by omega)).mp e))]
      by_cases h8 : 8 ≤ kd c
      · rw [if_pos (nI_le h8 (by omega))]; simp [tkb, hw10, b2i, show ¬ kd c < 8 by omega]
      · rw [if_neg (nI_ge (by omega) (by omega)), wid_decM (kd c) (by omega) w (by omega)]
        simp only [Option.bind_some, ifb]
        by_cases hch : wdb (kd c) w = true <;> simp [tkb, hch, hw10, b2i, show kd c < 8 by omega]
  unfold f_X10_whyTaken
  rw [key]
  simp only [Option.bind_some]
  rw [m_whyNot hV hM hc (by omega)]
  rfl
end
