/-! what things are as numbers: both sides alike -/
theorem rngI {a : Nat} (h1 : 1 ≤ a) (h5 : a ≤ 5) {v : Int64} (h : okc a v) : -2147490090450944 ≤ v.toInt ∧ v.toInt ≤ 2147490090450944 := by
  obtain ⟨o0, o1, o2, o3, o4, o5, -⟩ := h
  rcases (show a = 1 ∨ a = 2 ∨ a = 3 ∨ a = 4 ∨ a = 5 by omega) with rfl | rfl | rfl | rfl | rfl
  · have := o1 rfl; omega
  · have := o2 rfl; omega
  · have := o3 rfl; omega
  · have := o4 rfl; omega
  · exact o5 rfl
theorem okI {b : Nat} (h3 : 3 ≤ b) (h5 : b ≤ 5) {v : Int64} (hr : (b = 3 → -32768 ≤ v.toInt ∧ v.toInt ≤ 32767) ∧ (b = 4 → -2147483648 ≤ v.toInt ∧ v.toInt ≤ 2147483647) ∧ (b = 5 → -2147490090450944 ≤ v.toInt ∧ v.toInt ≤ 2147490090450944)) : okc b v :=
  ⟨by omega, by omega, by omega, hr.1, hr.2.1, hr.2.2, by omega, by omega, by omega, by omega, by omega⟩
theorem wdb_low0 : ∀ a, a < 8 → ∀ b, b < 6 → (!wdb a b || (decide (a = b) || (decide (1 ≤ a) && (decide (a < b) && (decide (3 ≤ b) && (decide (a ≠ 2) || decide (4 ≤ b))))))) = true := by decide +kernel
theorem wdb_low (a : Nat) (ha : a < 8) (b : Nat) (hb : b < 6) (h : wdb a b = true) : a = b ∨ (1 ≤ a ∧ a < b ∧ 3 ≤ b ∧ (a = 2 → 4 ≤ b)) := by
  have := wdb_low0 a ha b hb
  simp only [h, Bool.not_true, Bool.false_or, Bool.or_eq_true, Bool.and_eq_true, decide_eq_true_eq] at this
  omega
theorem wdb_high0 : ∀ a, a < 8 → ∀ b, b < 8 → (!wdb a b || (decide (b < 6) || (decide (a = b) || ((decide (1 ≤ a) && decide (a ≤ 5)) || (decide (a = 6) && decide (b = 7)))))) = true := by decide +kernel
theorem wdb_high (a : Nat) (ha : a < 8) (b : Nat) (hb : b < 8) (hb6 : 6 ≤ b) (h : wdb a b = true) : a = b ∨ (1 ≤ a ∧ a ≤ 5) ∨ (a = 6 ∧ b = 7) := by
  have := wdb_high0 a ha b hb
  simp only [h, Bool.not_true, Bool.false_or, Bool.or_eq_true, Bool.and_eq_true, decide_eq_true_eq] at this
  omega
theorem c_wid_eq (a : Nat) (v : Int64) : f_X3_widened (nI a) (nI a) v = some v ∧ f_X10_widened v (nI a) (nI a) = some v := by
  unfold f_X3_widened f_X10_widened
  rw [if_pos rfl, if_pos rfl]
  exact ⟨rfl, rfl⟩
theorem b_no1 : ∀ b, b < 6 → ¬ nI b = 6 := by decide +kernel
theorem b_no2 : ∀ b, b < 6 → ¬ nI b = 7 := by decide +kernel
theorem b_no3 : ∀ b, b < 6 → ¬ (6 : Int32) ≤ nI b := by decide +kernel
theorem c_wid_low (a : Nat) (ha : a < 8) (b : Nat) (hb : b < 6) (h : a ≠ b) : ¬ nI a = nI b ∧ ¬ nI b = 6 ∧ ¬ nI b = 7 ∧ ¬ (6 : Int32) ≤ nI b := ⟨fun q => h ((nI_eq (by omega) (by omega)).mp q), b_no1 b hb, b_no2 b hb, b_no3 b hb⟩
theorem a_no : ∀ a, a < 9 → a ≠ 6 → a ≠ 7 → ¬ nI a = 6 ∧ ¬ nI a = 7 := by decide +kernel
theorem n6 : nI 6 = (6 : Int32) ∧ nI 7 = (7 : Int32) := by decide
theorem fL_of (n : Nat) : (nI n).toInt64 = fL n := rfl
theorem G1 : ∀ a b, a < 8 → b < 8 → wdb a b = true → ∀ v, okc a v → ∃ z, f_X3_widened (nI a) (nI b) v = some z ∧ f_X10_widened v (nI a) (nI b) = some z ∧ okc b z := by
  intro a b ha hb hw v hv
  by_cases hab : a = b
  · subst hab
    exact ⟨v, (c_wid_eq a v).1, (c_wid_eq a v).2, hv⟩
  by_cases h6 : b < 6
  · have hl := (wdb_low a ha b h6 hw).resolve_left hab
    obtain ⟨q1, q2, q3, q4⟩ := c_wid_low a ha b h6 hab
    refine ⟨v, ?_, ?_, ?_⟩
    · unfold f_X3_widened; rw [if_neg q1, if_neg q2, if_neg q3]
    · unfold f_X10_widened; rw [if_neg q1, if_neg q4]
    · obtain ⟨o0, o1, o2, o3, o4, o5, -⟩ := hv
      refine okI hl.2.2.1 (by omega) ⟨fun e => ?_, fun e => ?_, fun e => ?_⟩
      · have := o1 (by omega); omega
      · rcases (show a = 1 ∨ a = 2 ∨ a = 3 by omega) with q | q | q
        · have := o1 q; omega
        · have := o2 q; omega
        · have := o3 q; omega
      · rcases (show a = 1 ∨ a = 2 ∨ a = 3 ∨ a = 4 by omega) with q | q | q | q
        · have := o1 q; omega
        · have := o2 q; omega
        · have := o3 q; omega
        · have := o4 q; omega
  · have hne : ¬ nI a = nI b := fun q => hab ((nI_eq (by omega) (by omega)).mp q)
    have hge : (6 : Int32) ≤ nI b := by rw [← n6.1]; exact nI_le (by omega) (by omega)
    rcases (wdb_high a ha b hb (by omega) hw).resolve_left hab with ⟨h1, h5⟩ | ⟨rfl, rfl⟩
    · have hr := rngI h1 h5 hv
      obtain ⟨q1, q2⟩ := a_no a (by omega) (by omega) (by omega)
      rcases (show b = 6 ∨ b = 7 by omega) with rfl | rfl
      · obtain ⟨n, g1, g2, g3, g4⟩ := n_lf (x := v) (by omega)
        refine ⟨fL n, ?_, ?_, okc_6 g1 g2⟩
        · unfold f_X3_widened; rw [if_neg hne, if_pos n6.1, if_neg q1, if_pos n6.1, g3]; rfl
        · unfold f_X10_widened; rw [if_neg hne, if_pos hge, if_pos n6.1, g4, m_f2i g1 g2]; rfl
      · obtain ⟨n, g1, g2, g3, g4⟩ := n_ld (x := v) (by omega)
        refine ⟨lN n, ?_, ?_, okc_7 g1 g2⟩
        · unfold f_X3_widened; rw [if_neg hne, if_neg (by decide), if_pos n6.2, if_neg q1, if_neg (by decide), g3]; rfl
        · unfold f_X10_widened; rw [if_neg hne, if_pos hge, if_neg (by decide), if_neg q1, g4, Option.bind_some, m_d2l g1 g2]; rfl
    · obtain ⟨n, g1, rfl, g2⟩ := okc_6of hv
      obtain ⟨k1, k2⟩ := fdN_ok g1 g2
      refine ⟨lN (fdN n), ?_, ?_, okc_7 k1 k2⟩
      · unfold f_X3_widened; rw [if_neg hne, if_neg (by decide), if_pos n6.2, if_pos n6.1, c_d2f g1 g2]; rfl
      · unfold f_X10_widened
        rw [if_neg hne, if_pos hge, if_neg (by decide), if_pos n6.1, (fL_32 g1).1, sn32 g1 g2, if_neg (by decide)]
        have e : FP.f2d (nI n).toUInt32 = UInt64.ofNat (fdN n) := m_f2d g1 g2
        rw [e, if_neg (not_not_intro (dgd k1 k2)), Option.bind_some, m_d2l k1 k2]
        rfl
theorem G5 : ∀ a, 1 ≤ a → a ≤ 8 → ∀ v, okc a v → (a = 8 → v ≠ nothing) → ∃ z : Int64, f_X3_widened (nI a) (nI 7) v = some z ∧ f_X10_worth (nI a) v = some z.toUInt64 ∧ okc 7 z := by
  intro a h1 h8 v hv hn
  by_cases h7 : a = 7
  · subst h7
    obtain ⟨n, g1, rfl, g2⟩ := okc_7of hv
    refine ⟨lN n, (c_wid_eq 7 _).1, ?_, hv⟩
    unfold f_X10_worth
    rw [if_neg (by decide), if_pos n6.2, sn64 g1 g2, if_neg (by decide)]
  by_cases h6 : a = 6
  · subst h6
    obtain ⟨n, g1, rfl, g2⟩ := okc_6of hv
    obtain ⟨k1, k2⟩ := fdN_ok g1 g2
    refine ⟨lN (fdN n), ?_, ?_, okc_7 k1 k2⟩
    · unfold f_X3_widened; rw [if_neg (by decide), if_neg (by decide), if_pos n6.2, if_pos n6.1, c_d2f g1 g2]; rfl
    · unfold f_X10_worth
      rw [if_pos n6.1, (fL_32 g1).1, sn32 g1 g2, if_neg (by decide)]
      have e : FP.f2d (nI n).toUInt32 = UInt64.ofNat (fdN n) := m_f2d g1 g2
      rw [e, if_neg (not_not_intro (dgd k1 k2))]
      rfl
  · have hr : -2147490090450944 ≤ v.toInt ∧ v.toInt ≤ 2147490090450944 := by
      by_cases h5 : a ≤ 5
      · exact rngI h1 h5 hv
      · have e : a = 8 := by omega
        have := (hv.2.2.2.2.2.2.2.2.1 e).resolve_left (hn e)
        omega
    obtain ⟨q1, q2⟩ := a_no a (by omega) h6 h7
    have hne : ¬ nI a = nI 7 := fun q => h7 ((nI_eq (by omega) (by omega)).mp q)
    obtain ⟨n, g1, g2, g3, g4⟩ := n_ld (x := v) (by omega)
    refine ⟨lN n, ?_, ?_, okc_7 g1 g2⟩
    · unfold f_X3_widened; rw [if_neg hne, if_neg (by decide), if_pos n6.2, if_neg q1, if_neg (by decide), g3]; rfl
    · unfold f_X10_worth
      rw [if_neg q1, if_neg q2, g4]
      rfl
theorem dcmpN {n m : Nat} (hn : n < 2 ^ 64) (hm : m < 2 ^ 64) (kn : dok n) (km : dok m) : FP.dcmp (lN n).toUInt64 (lN m).toUInt64 = some (if sw n < sw m then .lt else if n = m then .eq else .gt) := by
  show FP.Core.cmp FP.Core.b64 (UInt64.ofNat n).toNat (UInt64.ofNat m).toNat = _
  rw [u64n hn, u64n hm]
  exact fp_ord hn hm kn km
theorem G6 {z y : Int64} (hz : okc 7 z) (hy : okc 7 y) : Op.cmpValue (FP.dcmp z.toUInt64 y.toUInt64) .l = 0 ↔ z = y := by
  obtain ⟨n, g1, rfl, g2⟩ := okc_7of hz
  obtain ⟨m, k1, rfl, k2⟩ := okc_7of hy
  rw [dcmpN g1 k1 g2 k2]
  by_cases h1 : sw n < sw m
  · rw [if_pos h1]
    refine ⟨fun q => absurd q (by decide), fun q => ?_⟩
    have := congrArg (fun z : Int64 => z.toBitVec.toNat) q
    rw [wb_tn g1, wb_tn k1] at this
    subst this
    omega
  · rw [if_neg h1]
    by_cases h2 : n = m
    · rw [if_pos h2, h2]
      exact ⟨fun _ => rfl, fun _ => rfl⟩
    · rw [if_neg h2]
      refine ⟨fun q => absurd q (by decide), fun q => ?_⟩
      have := congrArg (fun z : Int64 => z.toBitVec.toNat) q
      rw [wb_tn g1, wb_tn k1] at this
      exact absurd this h2
/-! told -/
theorem toldC_of {w : Nat} (hw : w < 22) (x : Int32) : f_X3_told (nI w) x = (some (nI (tk w))).bind (fun o_1701 => (if o_1701 = 0 then (some (x &&& (1 : Int32)).toInt64) else (if o_1701 = 1 then (some (to_b x).toInt64) else (if o_1701 = 2 then (some (to_c x).toInt64) else (if o_1701 = 3 then (some (to_s x).toInt64) else (if o_1701 = 4 then (some (x).toInt64) else (if o_1701 = 5 then (some ((x).toInt64 * (1000003 : Int64))) else (if o_1701 = 6 then ((f_X1_nearestFloat (x).toInt64 (2 : Int32)).bind (fun o_1710 => (some o_1710))) else (if o_1701 = 7 then ((f_X1_nearestDouble (x).toInt64 (3 : Int32)).bind (fun o_1713 => (some o_1713))) else (if o_1701 = 8 then (some (x).toInt64) else (if o_1701 = 9 then ((f_X3_textNumber (x &&& (2147483647 : Int32))).bind (fun o_1717 => (some o_1717))) else (if o_1701 = 10 then (some (x).toInt64) else (if o_1701 = 11 then (some (x).toInt64) else (if o_1701 = 12 then (some (x).toInt64) else (if o_1701 = 13 then (some (x).toInt64) else (if o_1701 = 14 then (some (-9223372036854775808 : Int64)) else (some (x).toInt64))))))))))))))))) := by
  rw [← told_dec w hw]
  rfl
theorem r64 (x : Int32) : -2147483648 ≤ x.toInt64.toInt ∧ x.toInt64.toInt ≤ 2147483647 := by
  rw [Int32.toInt_toInt64]
  have := fb_rng x
  omega
theorem to_c_rng (x : Int32) : 0 ≤ (to_c x).toInt64.toInt ∧ (to_c x).toInt64.toInt ≤ 65535 := by
  have h : x.toUInt32.toUInt16.toUInt32.toNat < 65536 := by
    rw [UInt16.toNat_toUInt32]
    exact UInt16.toNat_lt _
  have e : to_c x = nI x.toUInt32.toUInt16.toUInt32.toNat := by
    unfold to_c
    show _ = (UInt32.ofNat x.toUInt32.toUInt16.toUInt32.toNat).toInt32
    rw [UInt32.ofNat_toNat]
  rw [Int32.toInt_toInt64, e, nI_toInt (by omega)]
  omega
theorem bit_rng (x : Int32) : (x &&& 1).toInt64 = 0 ∨ (x &&& 1).toInt64 = 1 := by
  rw [pk_and x 1 (by decide)]
  rcases (show x.toBitVec.toNat % 2 ^ 1 = 0 ∨ x.toBitVec.toNat % 2 ^ 1 = 1 by omega) with h | h
  · left; rw [h]; decide
  · right; rw [h]; decide
theorem told_k {k : Nat} (hk : k < 8) (x : Int32) : ∃ z, (∀ w, w < 22 → tk w = k → f_X3_told (nI w) x = some z) ∧ f_X10_toldBy (nI k) x = some z ∧ okc k z := by
  rcases (show k = 0 ∨ k = 1 ∨ k = 2 ∨ k = 3 ∨ k = 4 ∨ k = 5 ∨ k = 6 ∨ k = 7 by omega) with rfl | rfl | rfl | rfl | rfl | rfl | rfl | rfl
  · refine ⟨(x &&& 1).toInt64, fun w hw e => ?_, ?_, ⟨fun _ => bit_rng x, by omega, by omega, by omega, by omega, by omega, by omega, by omega, by omega, by omega, by omega⟩⟩
    · rw [toldC_of hw, e, Option.bind_some, if_pos (by decide)]
    · unfold f_X10_toldBy; rw [if_pos (by decide)]
  · refine ⟨(to_b x).toInt64, fun w hw e => ?_, ?_, ⟨by omega, fun _ => ?_, by omega, by omega, by omega, by omega, by omega, by omega, by omega, by omega, by omega⟩⟩
    · rw [toldC_of hw, e, Option.bind_some, if_neg (by decide), if_pos (by decide)]
    · unfold f_X10_toldBy; rw [if_neg (by decide), if_pos (by decide)]
    · rw [Int32.toInt_toInt64]
      have := fb_byte_rng x
      unfold to_b
      omega
  · refine ⟨(to_c x).toInt64, fun w hw e => ?_, ?_, ⟨by omega, by omega, fun _ => to_c_rng x, by omega, by omega, by omega, by omega, by omega, by omega, by omega, by omega⟩⟩
    · rw [toldC_of hw, e, Option.bind_some, if_neg (by decide), if_neg (by decide), if_pos (by decide)]
    · unfold f_X10_toldBy; rw [if_neg (by decide), if_neg (by decide), if_pos (by decide)]
  · refine ⟨(to_s x).toInt64, fun w hw e => ?_, ?_, ⟨by omega, by omega, by omega, fun _ => ?_, by omega, by omega, by omega, by omega, by omega, by omega, by omega⟩⟩
    · rw [toldC_of hw, e, Option.bind_some, if_neg (by decide), if_neg (by decide), if_neg (by decide), if_pos (by decide)]
    · unfold f_X10_toldBy; rw [if_neg (by decide), if_neg (by decide), if_neg (by decide), if_pos (by decide)]
    · rw [Int32.toInt_toInt64]
      have := fb_short_rng x
      unfold to_s
      omega
  · refine ⟨x.toInt64, fun w hw e => ?_, ?_, ⟨by omega, by omega, by omega, by omega, fun _ => r64 x, by omega, by omega, by omega, by omega, by omega, by omega⟩⟩
    · rw [toldC_of hw, e, Option.bind_some, if_neg (by decide), if_neg (by decide), if_neg (by decide), if_neg (by decide), if_pos (by decide)]
    · unfold f_X10_toldBy; rw [if_neg (by decide), if_neg (by decide), if_neg (by decide), if_neg (by decide), if_pos (by decide)]
  · refine ⟨x.toInt64 * 1000003, fun w hw e => ?_, ?_, ⟨by omega, by omega, by omega, by omega, by omega, fun _ => ?_, by omega, by omega, by omega, by omega, by omega⟩⟩
    · rw [toldC_of hw, e, Option.bind_some, if_neg (by decide), if_neg (by decide), if_neg (by decide), if_neg (by decide), if_neg (by decide), if_pos (by decide)]
    · unfold f_X10_toldBy; rw [if_neg (by decide), if_neg (by decide), if_neg (by decide), if_neg (by decide), if_neg (by decide), if_pos (by decide)]
    · have hx := r64 x
      have hm : (1000003 : Int64).toInt = 1000003 := by decide
      rw [fb_mulL (by rw [hm]; omega) (by rw [hm]; omega), hm]
      omega
  · obtain ⟨n, g1, g2, g3, g4⟩ := n_f4 x
    refine ⟨fL n, fun w hw e => ?_, ?_, okc_6 g1 g2⟩
    · rw [toldC_of hw, e, Option.bind_some, if_neg (by decide), if_neg (by decide), if_neg (by decide), if_neg (by decide), if_neg (by decide), if_neg (by decide), if_pos (by decide), g3]; rfl
    · unfold f_X10_toldBy
      rw [if_neg (by decide), if_neg (by decide), if_neg (by decide), if_neg (by decide), if_neg (by decide), if_neg (by decide), if_pos (by decide), g4, if_neg (not_not_intro (fgd g1 g2)), m_f2i g1 g2]
      rfl
  · obtain ⟨n, g1, g2, g3, g4⟩ := n_d8 x
    refine ⟨lN n, fun w hw e => ?_, ?_, okc_7 g1 g2⟩
    · rw [toldC_of hw, e, Option.bind_some, if_neg (by decide), if_neg (by decide), if_neg (by decide), if_neg (by decide), if_neg (by decide), if_neg (by decide), if_neg (by decide), if_pos (by decide), g3]; rfl
    · unfold f_X10_toldBy
      rw [if_neg (by decide), if_neg (by decide), if_neg (by decide), if_neg (by decide), if_neg (by decide), if_neg (by decide), if_neg (by decide), g4, if_neg (not_not_intro (dgd g1 g2)), m_d2l g1 g2]
      rfl
theorem kow_dec' : ∀ w, w < 22 → w ≠ 8 → w ≠ 9 → f_X10_kindOfWay (nI w) = some (if w = 19 ∨ w = 20 ∨ w = 21 then -1 else nI (tk w)) := by decide +kernel
theorem tk_w1 : ∀ w, w < 19 → w ≠ 8 → w ≠ 9 → tk w < 8 := by decide +kernel
theorem tk_w2 : ∀ w, w < 19 → ¬ nI w = 19 := by decide +kernel
theorem tk_w3 : ∀ w, w < 19 → ¬ nI w = 20 := by decide +kernel
theorem tk_w4 : ∀ w, w < 19 → ¬ nI w = 21 := by decide +kernel
theorem tk_w (w : Nat) (h8 : w ≠ 8) (h9 : w ≠ 9) (h : w < 19) : tk w < 8 ∧ ¬ nI w = 19 ∧ ¬ nI w = 20 ∧ ¬ nI w = 21 := ⟨tk_w1 w h h8 h9, tk_w2 w h, tk_w3 w h, tk_w4 w h⟩
theorem G2 : ∀ w, okw w → ∀ x : Int32, ∃ z, f_X3_told (nI w) x = some z ∧ f_X10_thingOf (nI w) x = some z ∧ (w ≠ 21 → okc (tk w) z) ∧ (w = 21 → z = nothing) := by
  intro w hw x
  by_cases h19 : w < 19
  · obtain ⟨h1, h2, h3, h4⟩ := tk_w w hw.2.1 hw.2.2 h19
    obtain ⟨z, g1, g2, g3⟩ := told_k h1 x
    refine ⟨z, g1 w hw.1 rfl, ?_, fun _ => g3, fun q => by omega⟩
    unfold f_X10_thingOf
    rw [if_neg h2, if_neg h3, if_neg h4, kow_dec' w hw.1 hw.2.1 hw.2.2, if_neg (by omega), Option.bind_some, g2]
    rfl
  · have := hw.1
    rcases (show w = 19 ∨ w = 20 ∨ w = 21 by omega) with rfl | rfl | rfl
    · have hu := pk_and x (m := 2147483647) 31 (by decide)
      have hlt : x.toBitVec.toNat % 2 ^ 31 < 2 ^ 31 := Nat.mod_lt _ (by omega)
      generalize x.toBitVec.toNat % 2 ^ 31 = u at *
      have e : ((x &&& (2147483647 : Int32)) - (x &&& (2147483647 : Int32)) / (26 : Int32) * (26 : Int32)) + ((26 : Int32) * (((x &&& (2147483647 : Int32)) / (26 : Int32)) - ((x &&& (2147483647 : Int32)) / (26 : Int32)) / (3 : Int32) * (3 : Int32))) = nI (u % 26 + 26 * (u / 26 % 3)) := by
        rw [hu, show (26 : Int32) = nI 26 from by decide, show (3 : Int32) = nI 3 from by decide, pk_rem hlt (by omega) (by omega), pk_div hlt (by omega) (by omega), pk_rem (by omega) (by omega) (by omega), pk_mul, nI_add]
      refine ⟨(nI (u % 26 + 26 * (u / 26 % 3))).toInt64, ?_, ?_, fun _ => ⟨fun q => absurd q (by decide), fun q => absurd q (by decide), fun q => absurd q (by decide), fun q => absurd q (by decide), fun q => absurd q (by decide), fun q => absurd q (by decide), fun q => absurd q (by decide), fun q => absurd q (by decide), fun q => absurd q (by decide), fun _ => Or.inr ?_, fun q => absurd q (by decide)⟩, fun q => by omega⟩
      · rw [toldC_of (by omega), show tk 19 = 9 from rfl, Option.bind_some, if_neg (by decide), if_neg (by decide), if_neg (by decide), if_neg (by decide), if_neg (by decide), if_neg (by decide), if_neg (by decide), if_neg (by decide), if_neg (by decide), if_pos (by decide)]
        unfold f_X3_textNumber
        rw [e]
        rfl
      · unfold f_X10_thingOf f_X10_textOf
        rw [if_pos (by decide), e]
        rfl
      · rw [Int32.toInt_toInt64, nI_toInt (by omega)]
        omega
    · refine ⟨x.toInt64, ?_, ?_, fun _ => ⟨fun q => absurd q (by decide), fun q => absurd q (by decide), fun q => absurd q (by decide), fun q => absurd q (by decide), fun q => absurd q (by decide), fun q => absurd q (by decide), fun q => absurd q (by decide), fun q => absurd q (by decide), fun q => absurd q (by decide), fun q => absurd q (by decide), fun _ => Or.inr (r64 x)⟩, fun q => by omega⟩
      · rw [toldC_of (by omega), show tk 20 = 10 from rfl, Option.bind_some, if_neg (by decide), if_neg (by decide), if_neg (by decide), if_neg (by decide), if_neg (by decide), if_neg (by decide), if_neg (by decide), if_neg (by decide), if_neg (by decide), if_neg (by decide), if_pos (by decide)]
      · unfold f_X10_thingOf
        rw [if_neg (by decide), if_pos (by decide)]
    · refine ⟨nothing, ?_, ?_, fun q => absurd rfl q, fun _ => rfl⟩
      · rw [toldC_of (by omega), show tk 21 = 14 from rfl, Option.bind_some, if_neg (by decide), if_neg (by decide), if_neg (by decide), if_neg (by decide), if_neg (by decide), if_neg (by decide), if_neg (by decide), if_neg (by decide), if_neg (by decide), if_neg (by decide), if_neg (by decide), if_neg (by decide), if_neg (by decide), if_neg (by decide), if_pos (by decide)]
        rfl
      · unfold f_X10_thingOf
        rw [if_neg (by decide), if_neg (by decide), if_pos (by decide)]
        rfl
