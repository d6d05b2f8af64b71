/-! sheets, columns copied, columns compared -/
def why2 (k j : Nat) : Nat := if why0 k = 0 then why0 j else why0 k
theorem why0_le (k : Nat) : why0 k < 7 := by unfold why0; split <;> (repeat' split) <;> omega
theorem why2_le (k j : Nat) : why2 k j < 7 := by unfold why2; split <;> exact why0_le _
theorem why0_0 {k : Nat} (h : why0 k = 0) : k ≤ 10 := by
  unfold why0 at h
  by_cases e : k ≤ 10
  · exact e
  · rw [if_neg e] at h; split at h <;> omega
theorem why2_0 {k j : Nat} (h : why2 k j = 0) : k ≤ 10 ∧ j ≤ 10 := by
  unfold why2 at h
  by_cases e : why0 k = 0
  · rw [if_pos e] at h; exact ⟨why0_0 e, why0_0 h⟩
  · rw [if_neg e] at h; exact absurd h e
theorem neg_pos : ∀ e, e < 7 → e ≠ 0 → ¬ (0 : Int32) ≤ -nI e := by decide +kernel
/-- the way by which a cell's thing is put elsewhere -/
def ow (k : Nat) (v : Int64) : Nat := if k < 8 then 10 + k else if v = nothing then 21 else if k = 8 then 14 else if k = 9 then 19 else 20
theorem ow_ok (k : Nat) (v : Int64) (hk : k ≤ 10) : okw (ow k v) ∧ 10 ≤ ow k v := by
  unfold ow okw
  (repeat' split) <;> omega
theorem tk_10 : ∀ k, k < 8 → tk (10 + k) = k := by decide +kernel
theorem okc_84 {z : Int64} (h : okc 8 z) (hn : z ≠ nothing) : okc 4 z := ⟨by omega, by omega, by omega, by omega, fun _ => (h.2.2.2.2.2.2.2.2.1 rfl).resolve_left hn, by omega, by omega, by omega, by omega, by omega, by omega⟩
theorem ow_okc {k : Nat} {v : Int64} (hk : k ≤ 10) (h : okc k v) : (ow k v ≠ 21 → okc (tk (ow k v)) v) ∧ (ow k v = 21 → v = nothing) := by
  unfold ow
  by_cases h8 : k < 8
  · rw [if_pos h8, tk_10 k h8]
    exact ⟨fun _ => h, fun e => by omega⟩
  · rw [if_neg h8]
    by_cases hn : v = nothing
    · rw [if_pos hn]
      exact ⟨fun e => absurd rfl e, fun _ => hn⟩
    · rw [if_neg hn]
      by_cases k8 : k = 8
      · rw [if_pos k8]
        subst k8
        exact ⟨fun _ => okc_84 h hn, fun e => by omega⟩
      · rw [if_neg k8]
        by_cases k9 : k = 9
        · rw [if_pos k9]
          subst k9
          exact ⟨fun _ => h, fun e => by omega⟩
        · rw [if_neg k9]
          obtain rfl : k = 10 := by omega
          exact ⟨fun _ => h, fun e => by omega⟩
theorem c_ownWay {k : Nat} (hk : k ≤ 10) (v : Int64) : f_X3_ownWay (nI k) v = some (nI (ow k v)) := by
  unfold f_X3_ownWay ow
  by_cases h8 : k < 8
  · rw [if_neg (show ¬ (7 : Int32) < nI k from (w8_lt k h8).1), if_pos h8, li10, nI_add]
  · have : (7 : Int32) < nI k := by
      have : ∀ k, k < 11 → (decide (k < 8) || decide ((7 : Int32) < nI k)) = true := by decide +kernel
      have := this k (by omega)
      simpa [h8] using this
    rw [if_pos this, if_neg h8]
    simp only [lg_cmp_eq]
    show (if v = nothing then _ else _) = _
    by_cases hn : v = nothing
    · rw [if_pos hn, if_pos hn]; rfl
    · rw [if_neg hn, if_neg hn]
      rcases (show k = 8 ∨ k = 9 ∨ k = 10 by omega) with rfl | rfl | rfl <;> rfl
section
variable {R C : Nat} {kd : Nat → Nat} {cl : Nat → Nat → Int64} {tg : Nat → Nat} {now : Nat → Int64} {cols rows : Int32} {kinds tags : Nat → Int32} {cells : Nat → Int64}
theorem m_wayOf (hV : VT R C kd cl tg) (hM : MT R C kd cl tg now) {c r : Nat} (hc : c < C) (hr : r < R) (hk : kd c ≤ 10) : f_X10_wayOf now (nI c) (nI r) = some (nI (ow (kd c) (cl c r))) := by
  unfold f_X10_wayOf ow
  rw [m_kind hV hM hc, m_cell hV hM hc hr]
  simp only [Option.bind_some, lg_cmp_eq]
  by_cases h8 : kd c < 8
  · rw [if_neg (show ¬ (8 : Int32) ≤ nI (kd c) from (w8_lt _ h8).2), if_pos h8, li10, nI_add]
  · have : (8 : Int32) ≤ nI (kd c) := by
      have : ∀ k, k < 11 → (decide (k < 8) || decide ((8 : Int32) ≤ nI k)) = true := by decide +kernel
      have := this (kd c) (by omega)
      simpa [h8] using this
    rw [if_pos this, if_neg h8]
    show (if cl c r = nothing then _ else _) = _
    by_cases hn : cl c r = nothing
    · rw [if_pos hn, if_pos hn]; rfl
    · rw [if_neg hn, if_neg hn]
      rcases (show kd c = 8 ∨ kd c = 9 ∨ kd c = 10 by omega) with e | e | e <;> rw [e] <;> rfl
theorem c_unasked2 (hV : VT R C kd cl tg) (hC : CT R C kd cl tg cols rows kinds tags cells) {c d : Nat} (hc : c < C) (hd : d < C) : f_X8_whyUnaskedOfBoth kinds (nI c) (nI d) = some (nI (why2 (kd c) (kd d))) := by
  unfold f_X8_whyUnaskedOfBoth why2
  rw [c_whyUnasked hV hC hc, c_whyUnasked hV hC hd]
  simp only [Option.bind_some]
  by_cases h : why0 (kd c) = 0
  · rw [if_pos h, h, if_pos (show nI 0 = 0 by decide)]
  · rw [if_neg h, if_neg (nz_no _ (why0_le _) h)]
theorem m_refBoth (hV : VT R C kd cl tg) (hM : MT R C kd cl tg now) {c d : Nat} (hc : c < C) (hd : d < C) : f_X10_refusesBoth now (nI c) (nI d) = some (-nI (why2 (kd c) (kd d))) := by
  have h6 := hV.2.1
  unfold f_X10_refusesBoth why2
  rw [m_isCol hV hM, m_isCol hV hM, ixd_nI (by omega) hc, ixd_nI (by omega) hd, m_whyNoRow hV hM hc, m_whyNoRow hV hM hd]
  simp only [Option.bind_some, ifbt]
  by_cases h : why0 (kd c) = 0
  · rw [if_pos h, h, if_pos (show nI 0 ≤ 0 by decide)]
  · rw [if_neg h, if_neg (pos_no _ (why0_le _) h)]
theorem m_refBoth0 (hV : VT R C kd cl tg) (hM : MT R C kd cl tg now) {x y : Int32} (h : ixd x C = false ∨ ixd y C = false) : f_X10_refusesBoth now x y = some (-1) := by
  unfold f_X10_refusesBoth
  rw [m_isCol hV hM, m_isCol hV hM]
  cases h1 : ixd x C
  · rfl
  · rw [h1] at h
    rw [h.resolve_left (by decide)]
    rfl
/-- one cell copied: both sides -/
theorem copy_in (hV : VT R C kd cl tg) (hC : CT R C kd cl tg cols rows kinds tags cells) (hM : MT R C kd cl tg now) {c d r : Nat} (hc : c < C) (hd : d < C) (hr : r < R) (hk : kd c ≤ 10) (hj : kd d ≤ 10) :
    (f_X8_copyCell rows kinds cells (nI c) (nI d) (nI r) = some (false, cells) ∧ f_X10_canHold (nI (kd d)) (nI (ow (kd c) (cl c r))) = some false) ∨
    ∃ z, f_X8_copyCell rows kinds cells (nI c) (nI d) (nI r) = some (true, vp_updL cells (d * 16 + r) z) ∧ f_X10_canHold (nI (kd d)) (nI (ow (kd c) (cl c r))) = some true ∧
      f_X10_store now (nI d) (nI r) (nI (ow (kd c) (cl c r))) (cl c r) = some (vp_updL now (24 + 16 * d + r) z) ∧
      VT R C kd (up2 cl d r z) tg ∧ CT R C kd (up2 cl d r z) tg cols rows kinds tags (vp_updL cells (d * 16 + r) z) ∧ MT R C kd (up2 cl d r z) tg (vp_updL now (24 + 16 * d + r) z) := by
  have h6 := hV.2.1
  have h16 := hV.1
  obtain ⟨hw, hw10⟩ := ow_ok (kd c) (cl c r) hk
  obtain ⟨z3, z4⟩ := ow_okc hk (hV.2.2.2.1 c r hc hr)
  generalize hwd : ow (kd c) (cl c r) = w at *
  have hp : wnp (kd d) true w = if chb (kd d) w then 0 else 6 := by
    unfold wnp
    rw [if_pos hj, if_neg (show ¬ (w < 8 ∧ 8 ≤ kd d) by omega), if_pos rfl]
  have hcm : f_X8_copyCell rows kinds cells (nI c) (nI d) (nI r) = if nI (if chb (kd d) w then 0 else 6) = 0 then (f_X8_store kinds cells (nI d) (nI r) (nI (tk w)) (cl c r)).bind (fun o => some (true, o)) else some (false, cells) := by
    unfold f_X8_copyCell
    rw [c_cell hV hC hc hr, Option.bind_some, gdI (by omega) (by omega), nI_clamp (by omega), hC.2.2.1 c hc, c_ownWay hk, hwd, Option.bind_some, c_whyNotPut hV hC hd hw, ixd_nI (by omega) hr, hp, Option.bind_some, told_dec w hw.1]
    rfl
  cases hch : chb (kd d) w
  · left
    rw [hcm, hch, hold_dec (kd d) (by omega) w hw.1 hw.2.1 hw.2.2, hch]
    exact ⟨if_neg (by decide), rfl⟩
  · right
    obtain ⟨z', y1, y2, y3, y4, y5⟩ := store_in hV hC hM hd hr hj hw hch z3 z4
    refine ⟨z', ?_, ?_, y2, y3, y4, y5⟩
    · rw [hcm, hch, y1]; exact if_pos (by decide)
    · rw [hold_dec (kd d) (by omega) w hw.1 hw.2.1 hw.2.2, hch]
theorem copies_in {c d : Nat} (hc : c < C) (hd : d < C) (hk : kd c ≤ 10) (hj : kd d ≤ 10) : ∀ (k i n : Nat) (p : Nat → Bool) (e : Nat) (cl : Nat → Nat → Int64) (cells now : Nat → Int64), VT R C kd cl tg → CT R C kd cl tg cols rows kinds tags cells → MT R C kd cl tg now → i + k = R → k < n → e + fb_ct p i = i →
    ∃ (p' : Nat → Bool) (e' : Nat) (cl' : Nat → Nat → Int64) (cells' now' : Nat → Int64), VT R C kd cl' tg ∧ CT R C kd cl' tg cols rows kinds tags cells' ∧ MT R C kd cl' tg now' ∧ e' + fb_ct p' R = R ∧
      L_X9_copies_63 rows kinds (nI c) (nI d) n (pb p i) (nI i) cells = some (pb p' R, cells') ∧ L_X10_copies_40 (nI c) (nI d) n (nI e) (pb p i) (nI i) now = some (nI e', pb p' R, now') := by
  intro k
  induction k with
  | zero =>
    intro i n p e cl cells now hV hC hM hi hn he
    have h16 := hV.1
    obtain ⟨n, rfl⟩ : ∃ n', n = n' + 1 := ⟨n - 1, by omega⟩
    obtain rfl : i = R := by omega
    refine ⟨p, e, cl, cells, now, hV, hC, hM, he, ?_, ?_⟩
    · rw [L_X9_copies_63, hC.2.1, if_pos (nI_le (Nat.le_refl _) (by omega))]
    · rw [L_X10_copies_40, m_rows hM, Option.bind_some, if_pos (nI_le (Nat.le_refl _) (by omega))]
  | succ k ih =>
    intro i n p e cl cells now hV hC hM hi hn he
    have h16 := hV.1
    have h6 := hV.2.1
    obtain ⟨n, rfl⟩ : ∃ n', n = n' + 1 := ⟨n - 1, by omega⟩
    have hir : i < R := by omega
    have hx (b : Bool) : pb (fun j => if j = i then b else p j) (i + 1) = if b then pb p i ||| ((1 : Int32) <<< (nI i &&& 31)) else pb p i := by
      rw [pb_succ, pb_cong (q := p) (fun j hj => if_neg (by omega)), if_pos rfl]
    have hy (b : Bool) : fb_ct (fun j => if j = i then b else p j) (i + 1) = fb_ct p i + if b then 1 else 0 := by
      rw [fb_ct_succ, fb_ct_cong (q := p) (fun j hj => if_neg (by omega)), if_pos rfl]
    rcases copy_in hV hC hM hc hd hir hk hj with ⟨a1, a2⟩ | ⟨z, a1, a2, a3, a4, a5, a6⟩
    · obtain ⟨p', e', cl', cells', now', q1, q2, q3, q4, q5, q6⟩ := ih (i + 1) n (fun j => if j = i then true else p j) e cl cells now hV hC hM (by omega) (by omega) (by rw [hy]; simp only [if_true]; omega)
      refine ⟨p', e', cl', cells', now', q1, q2, q3, q4, ?_, ?_⟩
      · rw [L_X9_copies_63, hC.2.1, if_neg (nI_ge hir (by omega)), ← hC.2.1, a1]
        simp only [Option.bind_some, ifbf]
        rw [nI_1, ← q5, hx]
        rfl
      · rw [L_X10_copies_40, m_rows hM, Option.bind_some, if_neg (nI_ge hir (by omega)), m_wayOf hV hM hc hir hk, m_kind hV hM hd]
        simp only [Option.bind_some]
        rw [a2]
        simp only [Option.bind_some, ifbf]
        rw [nI_1, ← q6, hx]
        rfl
    · obtain ⟨p', e', cl', cells', now', q1, q2, q3, q4, q5, q6⟩ := ih (i + 1) n (fun j => if j = i then false else p j) (e + 1) _ _ _ a4 a5 a6 (by omega) (by omega) (by rw [hy]; simp only [Bool.false_eq_true, if_false]; omega)
      refine ⟨p', e', cl', cells', now', q1, q2, q3, q4, ?_, ?_⟩
      · rw [L_X9_copies_63, hC.2.1, if_neg (nI_ge hir (by omega)), ← hC.2.1, a1]
        simp only [Option.bind_some, ifbt]
        rw [nI_1, ← q5, hx]
        rfl
      · rw [L_X10_copies_40, m_rows hM, Option.bind_some, if_neg (nI_ge hir (by omega)), m_wayOf hV hM hc hir hk, m_kind hV hM hd]
        simp only [Option.bind_some]
        rw [a2, m_cell hV hM hc hir]
        simp only [Option.bind_some, ifbt]
        rw [a3]
        simp only [Option.bind_some]
        rw [nI_1, nI_1, ← q6, hx]
        rfl
end
section
variable {next size undoMany cols rows asz amany : Int32} {sk st : Nat → Nat → Int32} {sc : Nat → Nat → Int64} {scol srow kinds tags : Nat → Int32} {undos cells now nu row : Nat → Int64}
theorem op_copies (hT : TT cols rows kinds tags cells now) (hU : UX next size sk st sc scol srow undoMany undos) (hA : AX asz nu amany row) (was : Nat → Int64) (x1 x2 : Int32) :
    ∃ oc om, f_X9_copies cols rows kinds tags cells next size sk st sc scol srow asz nu x1 x2 = some oc ∧ f_X10_copies amany undoMany now row undos was x1 x2 = some om ∧ oc.1 = om.1 ∧
      TT cols rows kinds tags oc.2.1 om.2.2.2.2.1 ∧ UX oc.2.2.1 oc.2.2.2.1 oc.2.2.2.2.1 oc.2.2.2.2.2.1 oc.2.2.2.2.2.2.1 oc.2.2.2.2.2.2.2.1 oc.2.2.2.2.2.2.2.2.1 om.2.2.2.1 om.2.2.2.2.2.2.1 ∧ AX oc.2.2.2.2.2.2.2.2.2.1 oc.2.2.2.2.2.2.2.2.2.2 om.2.1 om.2.2.2.2.2.1 := by
  obtain ⟨sk', st', sc', scol', srow', next', size', um', un', was', -, c1, c2, c3, c4, c5, c6, c7⟩ := chg hT hU was
  obtain ⟨R, C, kd, cl, tg, hV, hC, hM⟩ := id hT
  have h6 := hV.2.1
  have h16 := hV.1
  unfold f_X9_copies f_X10_copies
  rw [hC.1, c_hasCol hV, c_hasCol hV]
  try rw [← hC.1]
  by_cases hxy : x1 = x2
  · subst hxy
    rw [if_pos rfl, if_pos rfl]
    cases h : ixd x1 C
    · exact ⟨_, _, rfl, rfl, rfl, hT, hU, hA⟩
    · exact ⟨_, _, rfl, rfl, rfl, hT, hU, hA⟩
  · rw [if_neg hxy, if_neg hxy]
    by_cases hx : ixd x1 C = true
    · rw [hx]
      by_cases hy : ixd x2 C = true
      · rw [hy]
        obtain ⟨c, hc, rfl⟩ := ixd_of (by omega) hx
        obtain ⟨d, hd, rfl⟩ := ixd_of (by omega) hy
        simp only [Option.bind_some, ifbt]
        rw [c_unasked2 hV hC hc hd, m_refBoth hV hM hc hd]
        simp only [Option.bind_some]
        by_cases h0 : why2 (kd c) (kd d) = 0
        · obtain ⟨hk, hj⟩ := why2_0 h0
          obtain ⟨p', e', cl', cells', now', q1, q2, q3, q4, q5, q6⟩ := copies_in (cols := cols) (rows := rows) (kinds := kinds) (tags := tags) hc hd hk hj R 0 fu (fun _ => false) 0 cl cells now hV hC hM (by omega) (by unfold fu; omega) rfl
          have q5' : L_X9_copies_63 rows kinds (nI c) (nI d) fu 0 0 cells = _ := q5
          have q6' : L_X10_copies_40 (nI c) (nI d) fu 0 0 0 now = _ := q6
          rw [h0, if_pos (show nI 0 = 0 by decide), if_pos (show (0 : Int32) ≤ -nI 0 by decide), c1, c5, c2]
          simp only [Option.bind_some]
          rw [q5', q6']
          simp only [Option.bind_some]
          rw [c_tell, li0, m_tell 0 (by omega), bc_pb16 _ h16]
          refine ⟨_, _, rfl, rfl, ?_, ⟨R, C, kd, cl', tg, q1, q2, q3⟩, c6, AX.one _ _ _⟩
          show rows - nI (fb_ct p' R) = nI e'
          rw [hC.2.1, ← q4, ← nI_add]
          have : fb_ct p' (e' + fb_ct p' R) = fb_ct p' R := by rw [q4]
          rw [this]
          exact Int32.add_sub_cancel _ _
        · have := why2_le (kd c) (kd d)
          rw [if_neg (nz_no _ this h0), if_neg (neg_pos _ this h0)]
          exact ⟨_, _, rfl, rfl, rfl, hT, hU, hA⟩
      · have hy' : ixd x2 C = false := by simpa using hy
        rw [hy', m_refBoth0 hV hM (Or.inr hy')]
        exact ⟨_, _, rfl, rfl, rfl, hT, hU, hA⟩
    · have hx' : ixd x1 C = false := by simpa using hx
      rw [hx', m_refBoth0 hV hM (Or.inl hx')]
      exact ⟨_, _, rfl, rfl, rfl, hT, hU, hA⟩
end
section
variable {R C : Nat} {kd : Nat → Nat} {cl : Nat → Nat → Int64} {tg : Nat → Nat} {now : Nat → Int64} {cols rows : Int32} {kinds tags : Nat → Int32} {cells : Nat → Int64}
theorem sheet_in {c w : Nat} (hc : c < C) (hw : okw w) {N : Nat} (hN : N ≤ 16) (x3 f step : Int32) : ∀ (k i n : Nat) (e : Int32) (cl : Nat → Nat → Int64) (cells now : Nat → Int64), VT R C kd cl tg → CT R C kd cl tg cols rows kinds tags cells → MT R C kd cl tg now → i + k = N → k < n →
    ∃ (e' : Int32) (cl' : Nat → Nat → Int64) (cells' now' : Nat → Int64), VT R C kd cl' tg ∧ CT R C kd cl' tg cols rows kinds tags cells' ∧ MT R C kd cl' tg now' ∧
      L_X9_sheet_58 cols rows kinds (nI c) (nI w) x3 (nI N) f step n e (nI i) cells = some (e', cells') ∧ L_X10_sheet_64 (nI c) (nI w) x3 (nI N) step n e (f + nI i * step) (nI i) now = some (e', now') := by
  intro k
  induction k with
  | zero =>
    intro i n e cl cells now hV hC hM hi hn
    obtain ⟨n, rfl⟩ : ∃ n', n = n' + 1 := ⟨n - 1, by omega⟩
    obtain rfl : i = N := by omega
    refine ⟨e, cl, cells, now, hV, hC, hM, ?_, ?_⟩
    · rw [L_X9_sheet_58, if_pos (nI_le (Nat.le_refl _) (by omega))]
    · rw [L_X10_sheet_64, if_pos (nI_le (Nat.le_refl _) (by omega))]
  | succ k ih =>
    intro i n e cl cells now hV hC hM hi hn
    obtain ⟨n, rfl⟩ : ∃ n', n = n' + 1 := ⟨n - 1, by omega⟩
    have hiN : i < N := by omega
    obtain ⟨v, hv⟩ : ∃ v, f_X9_entry x3 (f + nI i * step) = some v := by
      unfold f_X9_entry
      split
      · exact ⟨_, rfl⟩
      · split <;> exact ⟨_, rfl⟩
    have hvm : (if x3 = 0 then (some (to_b (f + nI i * step))) else ((if x3 = (1 : Int32) then (some (to_s (f + nI i * step))) else (some (f + nI i * step))).bind (fun v_369 => (some v_369)))) = some v := by
      rw [← hv]
      unfold f_X9_entry
      split
      · rfl
      · split <;> rfl
    obtain ⟨q, cells', now', cl', hq, q1, q2, q3, q4, q5, q6⟩ := put_in hV hC hM hc hw (nI i) v
    have es : f + nI i * step + step = f + nI (i + 1) * step := by
      rw [← nI_add, Int32.add_mul, show nI 1 = 1 from rfl, Int32.one_mul, Int32.add_assoc]
    obtain ⟨e', cl2, cells2, now2, r1, r2, r3, r4, r5⟩ := ih (i + 1) n (if q = 0 then e + 1 else e) cl' cells' now' q3 q4 q5 (by omega) (by omega)
    refine ⟨e', cl2, cells2, now2, r1, r2, r3, ?_, ?_⟩
    · rw [L_X9_sheet_58, if_neg (nI_ge hiN (by omega)), hv, Option.bind_some, q1, Option.bind_some, nI_1, ← r4]
      by_cases h0 : q = 0
      · subst h0
        rw [if_pos (show (-nI 0, cells').1 = 0 from (by decide : -nI 0 = 0)), if_pos rfl]
      · rw [if_neg (show ¬ (-nI q, cells').1 = 0 from fun e => absurd (show -nI q < 0 from neg_no q (by omega) h0) (by rw [show -nI q = 0 from e]; decide)), if_neg h0]
    · rw [L_X10_sheet_64, if_neg (nI_ge hiN (by omega)), hvm, Option.bind_some, q2, Option.bind_some, nI_1, ← r5, es]
      by_cases h0 : q = 0
      · subst h0
        rw [if_pos (show (nI 0, now').1 = 0 from (by decide : nI 0 = 0)), if_pos rfl]
      · rw [if_neg (show ¬ (nI q, now').1 = 0 from nz_no q (by omega) h0), if_neg h0]
end
section
variable {next size undoMany cols rows asz amany : Int32} {sk st : Nat → Nat → Int32} {sc : Nat → Nat → Int64} {scol srow kinds tags : Nat → Int32} {undos cells now nu row : Nat → Int64}
theorem op_sheet (hT : TT cols rows kinds tags cells now) (x1 x2 x3 x4 x5 x6 : Int32) :
    ∃ oc om, f_X9_sheet cols rows kinds cells x1 x2 x3 x4 x5 x6 = some oc ∧ f_X10_sheet now x1 x2 x3 x4 x5 x6 = some om ∧ oc.1 = om.1 ∧ TT cols rows kinds tags oc.2 om.2.2 := by
  obtain ⟨R, C, kd, cl, tg, hV, hC, hM⟩ := id hT
  have h6 := hV.2.1
  unfold f_X9_sheet f_X10_sheet
  rw [hC.1, c_hasCol hV]
  try rw [← hC.1]
  rw [m_isCol hV hM]
  by_cases hx : ixd x1 C = true
  · rw [hx]
    obtain ⟨c, hc, rfl⟩ := ixd_of (by omega) hx
    have hin : f_X10_in x3 0 3 = if x3 < 0 then some false else if 3 < x3 then some false else some true := rfl
    rw [hin]
    simp only [Option.bind_some, ifbt]
    rcases way_of x2 with ⟨w1, w2⟩ | ⟨w1, w2, w, hw, rfl⟩
    · rw [w1, w2]
      simp only [Option.bind_some, ifbf, ite_self]
      exact ⟨_, _, rfl, rfl, rfl, hT⟩
    · rw [w1, w2]
      simp only [Option.bind_some, ifbt]
      by_cases h1 : x3 < 0
      · rw [if_pos h1, if_pos h1]
        exact ⟨_, _, rfl, rfl, rfl, hT⟩
      · rw [if_neg h1, if_neg h1]
        by_cases h2 : 3 < x3
        · rw [if_pos h2, if_pos h2]
          exact ⟨_, _, rfl, rfl, rfl, hT⟩
        · rw [if_neg h2, if_neg h2]
          simp only [Option.bind_some, ifbt]
          by_cases h3 : x4 ≤ 16
          · rw [if_pos h3, if_pos h3]
            by_cases h4 : x3 = 3
            · rw [if_pos h4, if_pos h4]
              exact ⟨_, _, rfl, rfl, rfl, hT⟩
            · rw [if_neg h4, if_neg h4]
              by_cases h5 : 0 ≤ x4
              · rw [if_pos h5, if_pos h5]
                obtain ⟨N, hN, rfl⟩ := nI_of (x := x4) (by rw [Int32.le_iff_toInt_le] at h5; rw [Int32.lt_iff_toInt_lt]; omega)
                have hN16 : N ≤ 16 := by
                  rw [Int32.le_iff_toInt_le, nI_toInt hN] at h3
                  have : (16 : Int32).toInt = 16 := by decide
                  omega
                obtain ⟨e', cl2, cells2, now2, r1, r2, r3, r4, r5⟩ := sheet_in (cols := cols) (rows := rows) (kinds := kinds) (tags := tags) hc hw hN16 x3 x5 x6 N 0 fu 0 cl cells now hV hC hM (by omega) (by unfold fu; omega)
                have r4' : L_X9_sheet_58 cols rows kinds (nI c) (nI w) x3 (nI N) x5 x6 fu 0 0 cells = _ := r4
                have r5' : L_X10_sheet_64 (nI c) (nI w) x3 (nI N) x6 fu 0 x5 0 now = some (e', now2) := by
                  rw [← r5, show nI 0 = 0 from rfl, Int32.zero_mul, Int32.add_zero]
                rw [r4', r5']
                exact ⟨_, _, rfl, rfl, rfl, ⟨R, C, kd, cl2, tg, r1, r2, r3⟩⟩
              · rw [if_neg h5, if_neg h5]
                exact ⟨_, _, rfl, rfl, rfl, hT⟩
          · rw [if_neg h3, if_neg h3]
            exact ⟨_, _, rfl, rfl, rfl, hT⟩
  · have hx' : ixd x1 C = false := by simpa using hx
    rw [hx']
    exact ⟨_, _, rfl, rfl, rfl, hT⟩
end
