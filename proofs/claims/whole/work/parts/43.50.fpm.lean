/-! floats and doubles: both sides alike -/
def fok (n : Nat) : Prop := n = 0 ∨ (0 < n / 2 ^ 23 % 256 ∧ n / 2 ^ 23 % 256 < 255)
theorem u32n {n : Nat} (h : n < 2 ^ 32) : (UInt32.ofNat n).toNat = n := Nat.mod_eq_of_lt h
theorem u64n {n : Nat} (h : n < 2 ^ 64) : (UInt64.ofNat n).toNat = n := Nat.mod_eq_of_lt h
theorem cmp_self (a : Int) : compare a a = .eq := by
  show (if a < a then Ordering.lt else if a = a then .eq else .gt) = _
  rw [if_neg (by omega), if_pos rfl]
theorem dec32 {n : Nat} (hn : n < 2 ^ 32) (h : fok n) : ∃ s c q, FP.Core.decode FP.Core.b32 n = .fin s c q := by
  rcases h with rfl | ⟨h1, h2⟩
  · exact ⟨false, 0, -149, by decide +kernel⟩
  · have d := fp_dec (f := FP.Core.b32) (P := 23) rfl (s := decide (2 ^ 31 ≤ n)) (E := n / 2 ^ 23 % 256) (m := n % 2 ^ 23) h1 h2 (by omega)
    have e : ((decide (2 ^ 31 ≤ n)).toNat * FP.Core.b32.exps + n / 2 ^ 23 % 256) * 2 ^ 23 + n % 2 ^ 23 = n := by
      show ((decide (2 ^ 31 ≤ n)).toNat * 256 + n / 2 ^ 23 % 256) * 2 ^ 23 + n % 2 ^ 23 = n
      by_cases c : 2 ^ 31 ≤ n
      · rw [decide_eq_true c]
        show (1 * 256 + n / 2 ^ 23 % 256) * 2 ^ 23 + n % 2 ^ 23 = n
        omega
      · rw [decide_eq_false c]
        show (0 * 256 + n / 2 ^ 23 % 256) * 2 ^ 23 + n % 2 ^ 23 = n
        omega
    rw [e] at d
    exact ⟨_, _, _, d⟩
theorem m_f2i {n : Nat} (hn : n < 2 ^ 32) (h : fok n) : f_Jxf58ca_floatToIntBits_5c35a (UInt32.ofNat n) = some (nI n) := by
  obtain ⟨s, c, q, e⟩ := dec32 hn h
  have e2 : FP.fcmp (UInt32.ofNat n) (UInt32.ofNat n) = some .eq := by
    show FP.Core.cmp FP.Core.b32 (UInt32.ofNat n).toNat (UInt32.ofNat n).toNat = _
    rw [u32n hn]
    unfold FP.Core.cmp
    rw [e]
    simp only [FP.Core.order]
    rw [cmp_self]
  unfold f_Jxf58ca_floatToIntBits_5c35a f_Jxf58ca_isNaN_12338
  rw [e2]
  rfl
theorem m_d2l {n : Nat} (hn : n < 2 ^ 64) (h : dok n) : f_Jxe99ae_doubleToLongBits_ccdee (UInt64.ofNat n) = some (lN n) := by
  have e2 : FP.dcmp (UInt64.ofNat n) (UInt64.ofNat n) = some .eq := by
    show FP.Core.cmp FP.Core.b64 (UInt64.ofNat n).toNat (UInt64.ofNat n).toNat = _
    rw [u64n hn, fp_ord hn hn h h, if_neg (by omega), if_pos rfl]
  unfold f_Jxe99ae_doubleToLongBits_ccdee f_Jxe99ae_isNaN_b9ae7
  rw [e2]
  rfl
theorem fgd {n : Nat} (hn : n < 2 ^ 32) (h : fok n) : UInt32.ofNat n &&& 0x7fffffff ≤ 0x7f800000 := by
  rw [UInt32.le_iff_toNat_le, UInt32.toNat_and, u32n hn]
  show n &&& (2 ^ 31 - 1) ≤ 2139095040
  rw [Nat.and_two_pow_sub_one_eq_mod]
  rcases h with rfl | h <;> omega
theorem dgd {n : Nat} (hn : n < 2 ^ 64) (h : dok n) : UInt64.ofNat n &&& 0x7fffffffffffffff ≤ 0x7ff0000000000000 := by
  rw [UInt64.le_iff_toNat_le, UInt64.toNat_and, u64n hn]
  show n &&& (2 ^ 63 - 1) ≤ 9218868437227405312
  rw [Nat.and_two_pow_sub_one_eq_mod]
  rcases h with rfl | h <;> omega
theorem q32 : FP.Core.Fmt.qmin FP.Core.b32 = -149 ∧ FP.Core.Fmt.qmax FP.Core.b32 = 104 ∧ FP.Core.Fmt.exps FP.Core.b32 = 256 := by decide
theorem q64 : FP.Core.Fmt.qmin FP.Core.b64 = -1074 ∧ FP.Core.Fmt.qmax FP.Core.b64 = 971 ∧ FP.Core.Fmt.exps FP.Core.b64 = 2048 := by decide
theorem m_int32 {i : Int} (hi : i ≠ 0) (hb : i.natAbs < 2 ^ 52) : FP.Core.fromInt FP.Core.b32 i = (decide (i < 0)).toNat * 2 ^ 31 + FBt 23 126 0 i.natAbs ∧ FP.Core.div FP.Core.b32 (FP.Core.fromInt FP.Core.b32 i) 1082130432 = (decide (i < 0)).toNat * 2 ^ 31 + FBt 23 126 2 i.natAbs := by
  have ht := log2_bd (show 0 < i.natAbs by omega) hb
  obtain ⟨a1, a2⟩ := fp_div (f := FP.Core.b32) (P := 23) (K := 126) (h := 2) rfl (by rw [q32.1]; decide) hi (by omega) (by rw [q32.2.2]; omega) (by rw [q32.2.1]; omega) (k := 1082130432) (by decide +kernel)
  rw [q32.2.2] at a1 a2
  unfold FBt
  exact ⟨by rw [a1]; omega, by rw [a2]; omega⟩
theorem m_int64 {i : Int} (hi : i ≠ 0) (hb : i.natAbs < 2 ^ 52) : FP.Core.fromInt FP.Core.b64 i = (decide (i < 0)).toNat * 2 ^ 63 + FBt 52 1022 0 i.natAbs ∧ FP.Core.div FP.Core.b64 (FP.Core.fromInt FP.Core.b64 i) 4620693217682128896 = (decide (i < 0)).toNat * 2 ^ 63 + FBt 52 1022 3 i.natAbs := by
  have ht := log2_bd (show 0 < i.natAbs by omega) hb
  obtain ⟨a1, a2⟩ := fp_div (f := FP.Core.b64) (P := 52) (K := 1022) (h := 3) rfl (by rw [q64.1]; decide) hi (by omega) (by rw [q64.2.2]; omega) (by rw [q64.2.1]; omega) (k := 4620693217682128896) (by decide +kernel)
  rw [q64.2.2] at a1 a2
  unfold FBt
  exact ⟨by rw [a1]; omega, by rw [a2]; omega⟩
theorem ti0 {x : Int64} (h : x ≠ 0) : x.toInt ≠ 0 := fun q => h (Int64.toInt_inj.mp (by rw [q]; decide))
/-- a whole number as a float, and as a double -/
theorem n_lf {x : Int64} (hb : x.toInt.natAbs < 2 ^ 52) : ∃ n, n < 2 ^ 32 ∧ fok n ∧ f_X1_nearestFloat x 0 = some (fL n) ∧ FP.l2f x = UInt32.ofNat n := by
  obtain ⟨n, h1, h2, h3, h4, h5⟩ := c_nF hb (show 0 < 4 by omega)
  refine ⟨n, h1, h2, h3, ?_⟩
  by_cases h0 : x = 0
  · rw [h4 h0, h0]; decide +kernel
  · show UInt32.ofNat (FP.Core.fromInt FP.Core.b32 x.toInt) = _
    rw [h5 h0, (m_int32 (ti0 h0) hb).1]
theorem n_ld {x : Int64} (hb : x.toInt.natAbs < 2 ^ 52) : ∃ n, n < 2 ^ 64 ∧ dok n ∧ f_X1_nearestDouble x 0 = some (lN n) ∧ FP.l2d x = UInt64.ofNat n := by
  obtain ⟨n, h1, h2, h3, h4, h5⟩ := c_nD hb (show 0 < 4 by omega)
  refine ⟨n, h1, h2, h3, ?_⟩
  by_cases h0 : x = 0
  · rw [h4 h0, h0]; decide +kernel
  · show UInt64.ofNat (FP.Core.fromInt FP.Core.b64 x.toInt) = _
    rw [h5 h0, (m_int64 (ti0 h0) hb).1]
theorem i_bd (x : Int32) : x.toInt64.toInt.natAbs < 2 ^ 52 := by
  rw [Int32.toInt_toInt64]
  have := fb_rng x
  omega
theorem n_f4 (x : Int32) : ∃ n, n < 2 ^ 32 ∧ fok n ∧ f_X1_nearestFloat x.toInt64 2 = some (fL n) ∧ FP.fdiv (FP.i2f x) 1082130432 = UInt32.ofNat n := by
  obtain ⟨n, h1, h2, h3, h4, h5⟩ := c_nF (i_bd x) (show 2 < 4 by omega)
  refine ⟨n, h1, h2, h3, ?_⟩
  by_cases h0 : x.toInt64 = 0
  · have h0' : x = 0 := Int32.toInt_inj.mp (by rw [← Int32.toInt_toInt64, h0]; decide)
    rw [h4 h0, h0']; decide +kernel
  · have hb := i_bd x
    have hi := ti0 h0
    have e := (m_int32 hi hb).2
    have e1 := (m_int32 hi hb).1
    have h5' := h5 h0
    rw [Int32.toInt_toInt64] at e e1 hb hi h5'
    have hlt : FP.Core.fromInt FP.Core.b32 x.toInt < 2 ^ 32 := by
      rw [e1]
      have := (FBt_F (h := 0) (show 0 < x.toInt.natAbs by omega) hb (by omega)).2.2
      cases decide (x.toInt < 0)
      · show 0 * 2 ^ 31 + _ < _; omega
      · show 1 * 2 ^ 31 + _ < _; omega
    show UInt32.ofNat (FP.Core.div FP.Core.b32 (UInt32.ofNat (FP.Core.fromInt FP.Core.b32 x.toInt)).toNat (1082130432 : UInt32).toNat) = _
    rw [u32n hlt, h5']
    show UInt32.ofNat (FP.Core.div FP.Core.b32 (FP.Core.fromInt FP.Core.b32 x.toInt) 1082130432) = _
    rw [e]
theorem n_d8 (x : Int32) : ∃ n, n < 2 ^ 64 ∧ dok n ∧ f_X1_nearestDouble x.toInt64 3 = some (lN n) ∧ FP.ddiv (FP.i2d x) 4620693217682128896 = UInt64.ofNat n := by
  obtain ⟨n, h1, h2, h3, h4, h5⟩ := c_nD (i_bd x) (show 3 < 4 by omega)
  refine ⟨n, h1, h2, h3, ?_⟩
  by_cases h0 : x.toInt64 = 0
  · have h0' : x = 0 := Int32.toInt_inj.mp (by rw [← Int32.toInt_toInt64, h0]; decide)
    rw [h4 h0, h0']; decide +kernel
  · have hb := i_bd x
    have hi := ti0 h0
    have e := (m_int64 hi hb).2
    have e1 := (m_int64 hi hb).1
    have h5' := h5 h0
    rw [Int32.toInt_toInt64] at e e1 hb hi h5'
    have hlt : FP.Core.fromInt FP.Core.b64 x.toInt < 2 ^ 64 := by
      rw [e1]
      have := (FBt_D (h := 0) (show 0 < x.toInt.natAbs by omega) hb (by omega)).2.2
      cases decide (x.toInt < 0)
      · show 0 * 2 ^ 63 + _ < _; omega
      · show 1 * 2 ^ 63 + _ < _; omega
    show UInt64.ofNat (FP.Core.div FP.Core.b64 (UInt64.ofNat (FP.Core.fromInt FP.Core.b64 x.toInt)).toNat (4620693217682128896 : UInt64).toNat) = _
    rw [u64n hlt, h5']
    show UInt64.ofNat (FP.Core.div FP.Core.b64 (FP.Core.fromInt FP.Core.b64 x.toInt) 4620693217682128896) = _
    rw [e]
/-- a float as a double -/
def fdN (n : Nat) : Nat := if n = 0 then 0 else n / 2 ^ 31 * 2 ^ 63 + (n % 2 ^ 31 * 2 ^ 29 + 896 * 2 ^ 52)
theorem fdN_ok {n : Nat} (hn : n < 2 ^ 32) (h : fok n) : fdN n < 2 ^ 64 ∧ dok (fdN n) := by
  unfold fdN
  by_cases h0 : n = 0
  · rw [if_pos h0]; exact ⟨by omega, Or.inl rfl⟩
  · rw [if_neg h0]
    have h' := h.resolve_left h0
    exact ⟨by omega, Or.inr (by omega)⟩
theorem m_f2d {n : Nat} (hn : n < 2 ^ 32) (h : fok n) : FP.f2d (UInt32.ofNat n) = UInt64.ofNat (fdN n) := by
  obtain ⟨s, c, q, e⟩ := dec32 hn h
  have e2 : FP.Core.fIsNaN (UInt32.ofNat n) = false := by
    show decide (FP.Core.decode FP.Core.b32 (UInt32.ofNat n).toNat = .nan) = false
    rw [u32n hn, e]
    exact decide_eq_false (fun z => by cases z)
  unfold FP.f2d
  rw [e2, if_neg (by decide)]
  show UInt64.ofNat (FP.Core.convert FP.Core.b32 FP.Core.b64 (UInt32.ofNat n).toNat) = _
  rw [u32n hn]
  unfold fdN
  by_cases h0 : n = 0
  · rw [if_pos h0, h0]; decide +kernel
  · rw [if_neg h0]
    have h' := h.resolve_left h0
    have d := fp_conv (s := decide (2 ^ 31 ≤ n)) (E := n / 2 ^ 23 % 256) (m := n % 2 ^ 23) h'.1 h'.2 (by omega)
    congr 1
    by_cases c : 2 ^ 31 ≤ n
    · rw [decide_eq_true c] at d
      rw [show ((true.toNat * 256 + n / 2 ^ 23 % 256) * 2 ^ 23 + n % 2 ^ 23) = n by show (1 * 256 + n / 2 ^ 23 % 256) * 2 ^ 23 + n % 2 ^ 23 = n; omega] at d
      rw [d]
      show (1 * 2048 + (n / 2 ^ 23 % 256 + 896)) * 2 ^ 52 + n % 2 ^ 23 * 2 ^ 29 = _
      omega
    · rw [decide_eq_false c] at d
      rw [show ((false.toNat * 256 + n / 2 ^ 23 % 256) * 2 ^ 23 + n % 2 ^ 23) = n by show (0 * 256 + n / 2 ^ 23 % 256) * 2 ^ 23 + n % 2 ^ 23 = n; omega] at d
      rw [d]
      show (0 * 2048 + (n / 2 ^ 23 % 256 + 896)) * 2 ^ 52 + n % 2 ^ 23 * 2 ^ 29 = _
      omega
theorem sshr23 (x : Int64) : (x >>> ((23 : Int32).toInt64 &&& 63)).toInt = x.toInt / 2 ^ 23 := by
  show (x.toBitVec.sshiftRight ((((23 : Int32).toInt64 &&& 63).toBitVec.smod 64).toNat)).toInt = _
  rw [show (((23 : Int32).toInt64 &&& 63).toBitVec.smod 64).toNat = 23 from by decide +kernel, BitVec.toInt_sshiftRight, Int.shiftRight_eq_div_pow]
  rfl
theorem lN_of_toInt {x : Int64} {n : Nat} (hn : n < 2 ^ 64) (h : x.toInt = (n : Int) ∨ x.toInt = (n : Int) - 2 ^ 64) : x = lN n := by
  have hr := fb_rngL x
  refine Int64.toInt_inj.mp ?_
  rw [lN_ti hn]
  split <;> omega
theorem c_d2f {n : Nat} (hn : n < 2 ^ 32) (h : fok n) : f_X1_doubleOfFloat (fL n) = some (lN (fdN n)) := by
  have hL := fL_eq hn
  unfold f_X1_doubleOfFloat
  by_cases h0 : n = 0
  · subst h0
    rw [if_pos ((lg_cmp_eq _ _).mpr (by decide))]
    rfl
  · have h' := h.resolve_left h0
    obtain ⟨N, hN, hNe, hN2⟩ : ∃ N, N < 2 ^ 64 ∧ fL n = lN N ∧ (N = n ∧ n < 2 ^ 31 ∨ N = n + 18446744069414584320 ∧ 2 ^ 31 ≤ n) := by
      by_cases c : n < 2 ^ 31
      · rw [if_pos c] at hL; exact ⟨n, by omega, hL, Or.inl ⟨rfl, c⟩⟩
      · rw [if_neg c] at hL; exact ⟨_, by omega, hL, Or.inr ⟨rfl, by omega⟩⟩
    have z : (0 : Int64).toInt = 0 := by decide
    have ti := lN_ti hN
    have hne : ¬ lg_cmp (fL n) 0 = 0 := fun q => by
      have := congrArg Int64.toInt ((lg_cmp_eq _ _).mp q)
      rw [hNe, ti, z] at this
      split at this <;> omega
    have hsg : 0 ≤ lg_cmp (fL n) 0 ↔ n < 2 ^ 31 := by
      rw [lg_cmp_ge, Int64.le_iff_toInt_le, z, hNe, ti]
      split <;> omega
    have e1 : (fL n >>> ((23 : Int32).toInt64 &&& 63)) &&& 255 = lN (n / 2 ^ 23 % 256) := by
      obtain ⟨q, hq, hqe⟩ := wb_of (fL n >>> ((23 : Int32).toInt64 &&& 63))
      have t1 := sshr23 (fL n)
      rw [hqe, hNe, ti, lN_ti hq] at t1
      rw [hqe, show (255 : Int64) = lN (2 ^ 8 - 1) from by decide, wb_mask hq (by omega)]
      congr 1
      split at t1 <;> split at t1 <;> omega
    have e2 : fL n &&& 8388607 = lN (n % 2 ^ 23) := by
      rw [hNe, show (8388607 : Int64) = lN (2 ^ 23 - 1) from by decide, wb_mask hN (by omega)]
      congr 1
      omega
    rw [if_neg hne, e1, e2, show (1023 : Int64) = lN 1023 from by decide, show (127 : Int64) = lN 127 from by decide, lN_add, lN_sub (by omega), show (52 : Int32) = nI 52 from by decide, show (29 : Int32) = nI 29 from by decide, wb_shl _ (show 52 < 64 by omega), wb_shl _ (show 29 < 64 by omega), g_or (k := 52) rfl (by omega) (by omega)]
    unfold fdN
    rw [if_neg h0]
    by_cases c : n < 2 ^ 31
    · rw [if_pos (hsg.mpr c), show (n / 2 ^ 23 % 256 + 1023 - 127) * 2 ^ 52 + n % 2 ^ 23 * 2 ^ 29 = n / 2 ^ 31 * 2 ^ 63 + (n % 2 ^ 31 * 2 ^ 29 + 896 * 2 ^ 52) by omega]
    · rw [if_neg (fun q => c (hsg.mp q)), show (-9223372036854775808 : Int64) = lN (1 * 2 ^ 63) from by decide +kernel, g_or' (k := 63) rfl (by omega) (by omega), show (n / 2 ^ 23 % 256 + 1023 - 127) * 2 ^ 52 + n % 2 ^ 23 * 2 ^ 29 + 1 * 2 ^ 63 = n / 2 ^ 31 * 2 ^ 63 + (n % 2 ^ 31 * 2 ^ 29 + 896 * 2 ^ 52) by omega]
theorem sn32 {n : Nat} (hn : n < 2 ^ 32) (h : fok n) : vn_sni2f (nI n) = false := by
  unfold vn_sni2f
  have := fgd hn h
  have e : ¬ ((nI n).toUInt32 &&& 0x7fffffff > 0x7f800000) := fun q => by
    have q' : (0x7f800000 : UInt32) < UInt32.ofNat n &&& 0x7fffffff := q
    exact absurd this (UInt32.not_le.mpr q')
  rw [decide_eq_false e, Bool.false_and]
theorem sn64 {n : Nat} (hn : n < 2 ^ 64) (h : dok n) : vn_snl2d (lN n) = false := by
  unfold vn_snl2d
  have := dgd hn h
  have e : ¬ ((lN n).toUInt64 &&& 0x7fffffffffffffff > 0x7ff0000000000000) := fun q => by
    have q' : (0x7ff0000000000000 : UInt64) < UInt64.ofNat n &&& 0x7fffffffffffffff := q
    exact absurd this (UInt64.not_le.mpr q')
  rw [decide_eq_false e, Bool.false_and]
