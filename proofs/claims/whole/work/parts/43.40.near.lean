/-! the class's own floats and doubles -/
theorem log2_div {m k : Nat} (h : 2 ^ k ≤ m) : (m / 2 ^ k).log2 = m.log2 - k := by
  have hp := Nat.two_pow_pos k
  have hm : m ≠ 0 := by omega
  have hk : k ≤ m.log2 := (Nat.le_log2 hm).mpr h
  have h1 : 1 ≤ m / 2 ^ k := (Nat.le_div_iff_mul_le hp).mpr (by omega)
  refine (Nat.log2_eq_iff (by omega)).mpr ⟨?_, ?_⟩
  · rw [Nat.le_div_iff_mul_le hp, ← Nat.pow_add, Nat.sub_add_cancel hk]; exact Nat.log2_self_le hm
  · rw [Nat.div_lt_iff_lt_mul hp, ← Nat.pow_add, show m.log2 - k + 1 + k = m.log2 + 1 by omega]; exact Nat.lt_log2_self
theorem log2_bd {m k : Nat} (h0 : 0 < m) (h : m < 2 ^ k) : m.log2 < k := (Nat.log2_lt (by omega)).mpr h
def nlzS (x v : Int32) : Option Int32 := if x < (16 : Int32) then (if x < (4 : Int32) then (some (v - (ius x (1 : Int32)))) else (some ((v + (-2)) - (ius (ius x (2 : Int32)) (1 : Int32))))) else (if (ius x (4 : Int32)) < (4 : Int32) then (some ((v + (-4)) - (ius (ius x (4 : Int32)) (1 : Int32)))) else (some (((v + (-4)) + (-2)) - (ius (ius (ius x (4 : Int32)) (2 : Int32)) (1 : Int32)))))
theorem nlzS_31 : ∀ x, x < 256 → 0 < x → nlzS (nI x) 31 = some (nI (31 - x.log2)) := by decide +kernel
theorem nlzS_23 : ∀ x, x < 256 → 0 < x → nlzS (nI x) (31 + (-8)) = some (nI (23 - x.log2)) := by decide +kernel
theorem nlzS_15 : ∀ x, x < 256 → 0 < x → nlzS (nI x) 15 = some (nI (15 - x.log2)) := by decide +kernel
theorem nlzS_7 : ∀ x, x < 256 → 0 < x → nlzS (nI x) (15 + (-8)) = some (nI (7 - x.log2)) := by decide +kernel
theorem nI_neg {m : Nat} (h1 : 2 ^ 31 ≤ m) (h2 : m < 2 ^ 32) : nI m < 0 := by
  have c := BitVec.toInt_eq_toNat_cond (nI m).toBitVec
  rw [pk_tn h2] at c
  rw [Int32.lt_iff_toInt_lt]
  show (nI m).toBitVec.toInt < 0
  rw [c]
  split <;> omega
theorem nlz6 {m : Nat} (h0 : 0 < m) (h : m < 2 ^ 32) : f_J6_numberOfLeadingZeros_0f7a4 (nI m) = some (nI (31 - m.log2)) := by
  have h65 : (65536 : Int32) = nI 65536 := by decide
  have h256 : (256 : Int32) = nI 256 := by decide
  unfold f_J6_numberOfLeadingZeros_0f7a4
  by_cases hs : m < 2 ^ 31
  · rw [if_pos (show 0 < nI m by rw [← nI_0]; exact nI_lt h0 hs)]
    have e16 : ius (nI m) 16 = nI (m / 2 ^ 16) := pk_ushrN (by omega) 16 16 (by decide)
    by_cases c1 : m < 65536
    · rw [h65, if_pos (nI_lt c1 (by omega)), Option.bind_some]
      simp only []
      by_cases c2 : m < 256
      · rw [h256, if_pos (nI_lt c2 (by omega)), Option.bind_some]
        exact nlzS_31 m c2 h0
      · have e8 : ius (nI m) 8 = nI (m / 2 ^ 8) := pk_ushrN (by omega) 8 8 (by decide)
        rw [h256, if_neg (nI_nlt (by omega) (by omega)), Option.bind_some, e8]
        have l1 := log2_div (m := m) (k := 8) (by omega)
        have l2 := log2_bd h0 (show m < 2 ^ 16 by omega)
        have l3 : 8 ≤ m.log2 := (Nat.le_log2 (by omega)).mpr (by omega)
        have := nlzS_23 (m / 2 ^ 8) (by omega) (by omega)
        rw [l1, show 23 - (m.log2 - 8) = 31 - m.log2 by omega] at this
        exact this
    · rw [h65, if_neg (nI_nlt (by omega) (by omega)), Option.bind_some, e16]
      simp only []
      have l3 : 16 ≤ m.log2 := (Nat.le_log2 (by omega)).mpr (by omega)
      have l2 := log2_bd h0 hs
      by_cases c2 : m / 2 ^ 16 < 256
      · rw [h256, if_pos (nI_lt c2 (by omega)), Option.bind_some]
        have l1 := log2_div (m := m) (k := 16) (by omega)
        have := nlzS_15 (m / 2 ^ 16) c2 (by omega)
        rw [l1, show 15 - (m.log2 - 16) = 31 - m.log2 by omega] at this
        exact this
      · have e8 : ius (nI (m / 2 ^ 16)) 8 = nI (m / 2 ^ 16 / 2 ^ 8) := pk_ushrN (by omega) 8 8 (by decide)
        rw [h256, if_neg (nI_nlt (by omega) (by omega)), Option.bind_some, e8]
        have l1 := log2_div (m := m) (k := 24) (by omega)
        have l4 : 24 ≤ m.log2 := (Nat.le_log2 (by omega)).mpr (by omega)
        have := nlzS_7 (m / 2 ^ 16 / 2 ^ 8) (by omega) (by omega)
        rw [show m / 2 ^ 16 / 2 ^ 8 = m / 2 ^ 24 by omega] at *
        rw [l1, show 7 - (m.log2 - 24) = 31 - m.log2 by omega] at this
        exact this
  · have hn := nI_neg (m := m) (by omega) h
    have l : m.log2 = 31 := (Nat.log2_eq_iff (by omega)).mpr ⟨by omega, by omega⟩
    rw [if_neg (fun q => absurd (Int32.lt_trans q hn) (Int32.lt_irrefl)), if_neg (fun q => by rw [q] at hn; exact absurd hn (by decide)), l]
    rfl
theorem nlz13 {n : Nat} (h0 : 0 < n) (h : n < 2 ^ 63) : f_J13_numberOfLeadingZeros_95d88 (lN n) = some (nI (63 - n.log2)) := by
  unfold f_J13_numberOfLeadingZeros_95d88
  have e : lus (lN n) 32 = lN (n / 2 ^ 32) := wb_shr (n := n) (k := 32) (by omega) (by omega)
  rw [e, lN_i, lN_i]
  by_cases c : n < 2 ^ 32
  · have z : n / 2 ^ 32 = 0 := Nat.div_eq_of_lt c
    have l := log2_bd h0 c
    rw [z, if_pos nI_0, nlz6 h0 c, Option.bind_some, show (32 : Int32) = nI 32 from by decide, nI_add, show 32 + (31 - n.log2) = 63 - n.log2 by omega]
  · have l1 := log2_div (m := n) (k := 32) (by omega)
    have l2 := log2_bd h0 h
    have l3 : 32 ≤ n.log2 := (Nat.le_log2 (by omega)).mpr (by omega)
    rw [if_neg (nI_ne0 (by omega) (by omega)), nlz6 (by omega) (by omega), Option.bind_some, l1, show 31 - (n.log2 - 32) = 63 - n.log2 by omega]
theorem nI_63 (t : Nat) (h : t ≤ 63) : (63 : Int32) - nI (63 - t) = nI t := by
  rw [show (63 : Int32) = nI 63 from by decide, pk_sub (by omega), show 63 - (63 - t) = t by omega]
theorem exF : ∀ t, t < 64 → ∀ h, h < 4 → nI t - nI h + 127 - 1 = nI (t + 126 - h) := by decide +kernel
theorem exD : ∀ t, t < 64 → ∀ h, h < 4 → nI t - nI h + 1023 - 1 = nI (t + 1022 - h) := by decide +kernel
theorem spF : ∀ t, t < 64 → t ≤ 23 → nI t - 23 ≤ 0 ∧ -(nI t - 23) = nI (23 - t) := by decide +kernel
theorem spF2 : ∀ t, t < 64 → 23 < t → ¬ nI t - 23 ≤ 0 ∧ nI t - 23 = nI (t - 23) ∧ nI (t - 23) - 1 = nI (t - 23 - 1) := by decide +kernel
theorem spD : ∀ t, t < 64 → t ≤ 52 → nI t - 52 ≤ 0 ∧ -(nI t - 52) = nI (52 - t) := by decide +kernel
theorem sg_of {x : Int64} (h1 : x ≠ 0) (hb : x.toInt.natAbs < 2 ^ 52) : ¬ lg_cmp x 0 = 0 ∧ (if 0 ≤ lg_cmp x 0 then some x else some (-x)) = some (lN x.toInt.natAbs) ∧ (0 ≤ lg_cmp x 0 ↔ ¬ x.toInt < 0) ∧ x.toInt ≠ 0 := by
  have z : (0 : Int64).toInt = 0 := by decide
  refine ⟨fun q => h1 ((lg_cmp_eq _ _).mp q), ?_, ?_, fun q => h1 (Int64.toInt_inj.mp (by rw [q, z]))⟩
  · by_cases c : 0 ≤ lg_cmp x 0
    · rw [if_pos c]
      have c' : (0 : Int64).toInt ≤ x.toInt := Int64.le_iff_toInt_le.mp ((lg_cmp_ge _ _).mp c)
      rw [z] at c'
      congr 1
      exact Int64.toInt_inj.mp (by rw [pk_lT (by omega)]; omega)
    · rw [if_neg c]
      have c' : ¬ (0 : Int64).toInt ≤ x.toInt := fun q => c ((lg_cmp_ge _ _).mpr (Int64.le_iff_toInt_le.mpr q))
      rw [z] at c'
      congr 1
      refine Int64.toInt_inj.mp ?_
      rw [pk_lT (by omega), Int64.toInt_neg, fb_bmodL (by omega) (by omega)]
      omega
  · rw [lg_cmp_ge, Int64.le_iff_toInt_le, z]; omega
/-- the bits but for that of the sign -/
def FBt (P K h n : Nat) : Nat := (n.log2 + K - h) * 2 ^ P + dgt P n
theorem c_nearF {x : Int64} (h1 : x ≠ 0) (hb : x.toInt.natAbs < 2 ^ 52) {h : Nat} (hh : h < 4) : f_X1_nearest x (nI h) 23 127 = some (lN (FBt 23 126 h x.toInt.natAbs)) := by
  obtain ⟨a1, a2, -, a3⟩ := sg_of h1 hb
  have n0 : 0 < x.toInt.natAbs := by omega
  unfold f_X1_nearest
  rw [if_neg a1, a2, Option.bind_some]
  generalize x.toInt.natAbs = n at *
  have ht := log2_bd n0 hb
  have t2 := Nat.log2_self_le (show n ≠ 0 by omega)
  have t3 : n < 2 ^ (n.log2 + 1) := Nat.lt_log2_self
  have hd : (1 : Int64) = lN 1 := by decide
  rw [nlz13 n0 (by omega), Option.bind_some]
  rw [nI_63 _ (by omega), exF _ (by omega) _ hh, show (23 : Int32) = nI 23 from by decide, nI_l (show n.log2 + 126 - h < 2 ^ 31 by omega), wb_shl _ (show 23 < 64 by omega), ← show (23 : Int32) = nI 23 from by decide]
  unfold FBt dgt
  by_cases c : n.log2 ≤ 23
  · obtain ⟨s1, s2⟩ := spF n.log2 (by omega) c
    rw [if_pos s1, Option.bind_some, if_pos s1, s2, wb_shl _ (show 23 - n.log2 < 64 by omega), lN_add, if_pos c]
  · obtain ⟨s1, s2, s3⟩ := spF2 n.log2 (by omega) (by omega)
    have hu : lus (lN n) (nI (n.log2 - 23)) = lN (n / 2 ^ (n.log2 - 23)) := wb_shr (by omega) (by omega)
    rw [if_neg s1, Option.bind_some, if_neg s1, s2, s3, hu, hd, wb_shl _ (show n.log2 - 23 < 64 by omega), wb_shl _ (show n.log2 - 23 - 1 < 64 by omega), Nat.one_mul, Nat.one_mul, lN_sub (Nat.two_pow_pos _), wb_mask (by omega) (show n.log2 - 23 < 64 by omega), ← hd, wb_a1 (Nat.lt_of_le_of_lt (Nat.div_le_self _ _) (show n < 2 ^ 64 by omega)), hd, if_neg c]
    obtain ⟨j, hj⟩ : ∃ j, n.log2 - 23 = j + 1 := ⟨n.log2 - 23 - 1, by omega⟩
    rw [hj, Nat.add_sub_cancel]
    have hp : 2 ^ (j + 1) = 2 * 2 ^ j := by rw [Nat.pow_succ, Nat.mul_comm]
    have hpos := Nat.two_pow_pos j
    have hmod : n % 2 ^ (j + 1) < 2 ^ (j + 1) := Nat.mod_lt _ (by omega)
    have hjb : 2 ^ j < 2 ^ 52 := Nat.pow_lt_pow_right (by decide) (by omega)
    have hq : n / 2 ^ (j + 1) ≤ n := Nat.div_le_self _ _
    simp only [lg_cmp_gt, lg_cmp_eq, pk_lLT (show 2 ^ j < 2 ^ 63 by omega) (show n % 2 ^ (j + 1) < 2 ^ 63 by omega), pk_lEQ (show n % 2 ^ (j + 1) < 2 ^ 63 by omega) (show 2 ^ j < 2 ^ 63 by omega), pk_lEQ (show n / 2 ^ (j + 1) % 2 < 2 ^ 63 by omega) (show 1 < 2 ^ 63 by omega)]
    unfold FP.Core.nearest
    generalize n / 2 ^ (j + 1) = q at *
    generalize n % 2 ^ (j + 1) = r at *
    by_cases c1 : 2 ^ j < r
    · rw [if_pos c1, if_neg (by omega), if_pos (by omega), lN_add, lN_add]
    · rw [if_neg c1]
      by_cases c2 : r = 2 ^ j
      · rw [if_pos c2, if_neg (show ¬ 2 * r < 2 ^ (j + 1) by omega), if_neg (show ¬ 2 ^ (j + 1) < 2 * r by omega)]
        by_cases c3 : q % 2 = 1
        · rw [if_pos c3, lN_add, lN_add, c3]
        · rw [if_neg c3, lN_add, show q % 2 = 0 by omega]
          rfl
      · rw [if_neg c2, if_pos (by omega), lN_add]
theorem c_nearD {x : Int64} (h1 : x ≠ 0) (hb : x.toInt.natAbs < 2 ^ 52) {h : Nat} (hh : h < 4) : f_X1_nearest x (nI h) 52 1023 = some (lN (FBt 52 1022 h x.toInt.natAbs)) := by
  obtain ⟨a1, a2, -, a3⟩ := sg_of h1 hb
  have n0 : 0 < x.toInt.natAbs := by omega
  unfold f_X1_nearest
  rw [if_neg a1, a2, Option.bind_some]
  generalize x.toInt.natAbs = n at *
  have ht := log2_bd n0 hb
  rw [nlz13 n0 (by omega), Option.bind_some]
  obtain ⟨s1, s2⟩ := spD n.log2 (by omega) (by omega)
  rw [nI_63 _ (by omega), exD _ (by omega) _ hh, if_pos s1, Option.bind_some, if_pos s1, s2, show (52 : Int32) = nI 52 from by decide, nI_l (show n.log2 + 1022 - h < 2 ^ 31 by omega), wb_shl _ (show 52 < 64 by omega), wb_shl _ (show 52 - n.log2 < 64 by omega), lN_add]
  unfold FBt dgt
  rw [if_pos (show n.log2 ≤ 52 by omega)]
theorem FBt_F {h n : Nat} (n0 : 0 < n) (hb : n < 2 ^ 52) (hh : h < 4) : 0 < FBt 23 126 h n / 2 ^ 23 ∧ FBt 23 126 h n / 2 ^ 23 < 255 ∧ FBt 23 126 h n < 2 ^ 31 := by
  have ht := log2_bd n0 hb
  have g1 := dgt_ge (P := 23) (show n ≠ 0 by omega)
  have g2 := dgt_le (P := 23) (show n ≠ 0 by omega)
  unfold FBt
  omega
theorem FBt_D {h n : Nat} (n0 : 0 < n) (hb : n < 2 ^ 52) (hh : h < 4) : 0 < FBt 52 1022 h n / 2 ^ 52 ∧ FBt 52 1022 h n / 2 ^ 52 < 2047 ∧ FBt 52 1022 h n < 2 ^ 63 := by
  have ht := log2_bd n0 hb
  have g1 := dgt_ge (P := 52) (show n ≠ 0 by omega)
  have g2 := dgt_le (P := 52) (show n ≠ 0 by omega)
  unfold FBt
  omega
/-- a float's bits as a long -/
def fL (n : Nat) : Int64 := (UInt32.ofNat n).toInt32.toInt64
theorem fL_eq {n : Nat} (h : n < 2 ^ 32) : fL n = if n < 2 ^ 31 then lN n else lN (n + 18446744069414584320) := by
  have c := BitVec.toInt_eq_toNat_cond (nI n).toBitVec
  rw [pk_tn h] at c
  have e : (nI n).toInt = if 2 * n < 2 ^ 32 then (n : Int) else (n : Int) - (2 ^ 32 : Nat) := c
  refine Int64.toInt_inj.mp ?_
  show (nI n).toInt64.toInt = _
  rw [Int32.toInt_toInt64, e]
  by_cases q : n < 2 ^ 31
  · rw [if_pos (by omega), if_pos q, pk_lT (by omega)]
  · rw [if_neg (by omega), if_neg q, lN_ti (by omega), if_neg (by omega)]; omega
theorem fL_32 {n : Nat} (h : n < 2 ^ 32) : (fL n).toInt32 = nI n ∧ (nI n).toUInt32.toNat = n := ⟨Int32.toInt32_toInt64 _, Nat.mod_eq_of_lt h⟩
theorem okc_6 {n : Nat} (h : n < 2 ^ 32) (hk : n = 0 ∨ (0 < n / 2 ^ 23 % 256 ∧ n / 2 ^ 23 % 256 < 255)) : okc 6 (fL n) := by
  refine ⟨by omega, by omega, by omega, by omega, by omega, by omega, fun _ => ⟨?_, ?_⟩, by omega, by omega, by omega, by omega⟩
  · rw [(fL_32 h).1]; rfl
  · rw [(fL_32 h).1, (fL_32 h).2]
    rcases hk with rfl | hk
    · exact Or.inl (by decide)
    · exact Or.inr hk
theorem okc_7 {n : Nat} (h : n < 2 ^ 64) (hk : dok n) : okc 7 (lN n) := by
  refine ⟨by omega, by omega, by omega, by omega, by omega, by omega, by omega, fun _ => ?_, by omega, by omega, by omega⟩
  rw [show (lN n).toUInt64.toNat = n from Nat.mod_eq_of_lt h]
  rcases hk with rfl | hk
  · exact Or.inl (by decide)
  · exact Or.inr hk
theorem okc_6of {v : Int64} (h : okc 6 v) : ∃ n, n < 2 ^ 32 ∧ v = fL n ∧ (n = 0 ∨ (0 < n / 2 ^ 23 % 256 ∧ n / 2 ^ 23 % 256 < 255)) := by
  obtain ⟨h1, h2⟩ := h.2.2.2.2.2.2.1 rfl
  obtain ⟨n, hn, e⟩ := wb_of32 v.toInt32
  rw [e] at h1 h2
  rw [(fL_32 hn).2] at h2
  refine ⟨n, hn, h1, ?_⟩
  rcases h2 with h2 | h2
  · left
    rw [h2] at e
    have : nI 0 = nI n := by rw [← e]; decide
    have := congrArg (fun z : Int32 => z.toBitVec.toNat) this
    rw [pk_tn (by omega), pk_tn hn] at this
    omega
  · exact Or.inr h2
theorem okc_7of {v : Int64} (h : okc 7 v) : ∃ n, n < 2 ^ 64 ∧ v = lN n ∧ dok n := by
  have h1 := h.2.2.2.2.2.2.2.1 rfl
  obtain ⟨n, hn, e⟩ := wb_of v
  rw [e, show (lN n).toUInt64.toNat = n from Nat.mod_eq_of_lt hn] at h1
  refine ⟨n, hn, e, ?_⟩
  rcases h1 with h1 | h1
  · left
    have h1' : lN n = lN 0 := by rw [h1]; decide
    have := congrArg (fun z : Int64 => z.toBitVec.toNat) h1'
    rw [wb_tn hn, wb_tn (by omega)] at this
    exact this
  · exact Or.inr h1
/-- floats of whole numbers, by 1 and 4 -/
theorem c_nF {x : Int64} (hb : x.toInt.natAbs < 2 ^ 52) {h : Nat} (hh : h < 4) : ∃ n, n < 2 ^ 32 ∧ (n = 0 ∨ (0 < n / 2 ^ 23 % 256 ∧ n / 2 ^ 23 % 256 < 255)) ∧ f_X1_nearestFloat x (nI h) = some (fL n) ∧ (x = 0 → n = 0) ∧ (x ≠ 0 → n = (decide (x.toInt < 0)).toNat * 2 ^ 31 + FBt 23 126 h x.toInt.natAbs) := by
  unfold f_X1_nearestFloat
  by_cases h0 : x = 0
  · refine ⟨0, by omega, Or.inl rfl, ?_, fun _ => rfl, fun q => absurd h0 q⟩
    subst h0
    unfold f_X1_nearest
    rw [if_pos ((lg_cmp_eq _ _).mpr rfl), Option.bind_some, if_pos ((lg_cmp_ge _ _).mpr (by decide))]
    rfl
  · obtain ⟨-, -, a3, a4⟩ := sg_of h0 hb
    have n0 : 0 < x.toInt.natAbs := by omega
    obtain ⟨b1, b2, b3⟩ := FBt_F n0 hb hh
    refine ⟨(decide (x.toInt < 0)).toNat * 2 ^ 31 + FBt 23 126 h x.toInt.natAbs, ?_, ?_, ?_, fun q => absurd q h0, fun _ => rfl⟩
    · cases decide (x.toInt < 0)
      · show 0 * 2 ^ 31 + _ < _; omega
      · show 1 * 2 ^ 31 + _ < _; omega
    · right
      cases decide (x.toInt < 0)
      · show 0 < (0 * 2 ^ 31 + _) / 2 ^ 23 % 256 ∧ (0 * 2 ^ 31 + _) / 2 ^ 23 % 256 < 255; omega
      · show 0 < (1 * 2 ^ 31 + _) / 2 ^ 23 % 256 ∧ (1 * 2 ^ 31 + _) / 2 ^ 23 % 256 < 255; omega
    · rw [c_nearF h0 hb hh, Option.bind_some]
      by_cases c : x.toInt < 0
      · rw [if_neg (fun q => a3.mp q c), decide_eq_true c]
        show some (_ ||| (-2147483648 : Int64)) = some (fL (1 * 2 ^ 31 + _))
        rw [show (-2147483648 : Int64) = lN (8589934591 * 2 ^ 31) from by decide +kernel, g_or' rfl b3 (by omega), fL_eq (by omega), if_neg (by omega)]
        generalize FBt 23 126 h x.toInt.natAbs = z
        rw [show z + 8589934591 * 2 ^ 31 = 1 * 2 ^ 31 + z + 18446744069414584320 by omega]
      · rw [if_pos (a3.mpr c), decide_eq_false c]
        show some _ = some (fL (0 * 2 ^ 31 + _))
        rw [fL_eq (by omega), if_pos (by omega), Nat.zero_mul, Nat.zero_add]
theorem c_nD {x : Int64} (hb : x.toInt.natAbs < 2 ^ 52) {h : Nat} (hh : h < 4) : ∃ n, n < 2 ^ 64 ∧ dok n ∧ f_X1_nearestDouble x (nI h) = some (lN n) ∧ (x = 0 → n = 0) ∧ (x ≠ 0 → n = (decide (x.toInt < 0)).toNat * 2 ^ 63 + FBt 52 1022 h x.toInt.natAbs) := by
  unfold f_X1_nearestDouble
  by_cases h0 : x = 0
  · refine ⟨0, by omega, Or.inl rfl, ?_, fun _ => rfl, fun q => absurd h0 q⟩
    subst h0
    unfold f_X1_nearest
    rw [if_pos ((lg_cmp_eq _ _).mpr rfl), Option.bind_some, if_pos ((lg_cmp_ge _ _).mpr (by decide))]
    rfl
  · obtain ⟨-, -, a3, a4⟩ := sg_of h0 hb
    have n0 : 0 < x.toInt.natAbs := by omega
    obtain ⟨b1, b2, b3⟩ := FBt_D n0 hb hh
    refine ⟨(decide (x.toInt < 0)).toNat * 2 ^ 63 + FBt 52 1022 h x.toInt.natAbs, ?_, ?_, ?_, fun q => absurd q h0, fun _ => rfl⟩
    · cases decide (x.toInt < 0)
      · show 0 * 2 ^ 63 + _ < _; omega
      · show 1 * 2 ^ 63 + _ < _; omega
    · right
      cases decide (x.toInt < 0)
      · show 0 < (0 * 2 ^ 63 + _) / 2 ^ 52 % 2048 ∧ (0 * 2 ^ 63 + _) / 2 ^ 52 % 2048 < 2047; omega
      · show 0 < (1 * 2 ^ 63 + _) / 2 ^ 52 % 2048 ∧ (1 * 2 ^ 63 + _) / 2 ^ 52 % 2048 < 2047; omega
    · rw [c_nearD h0 hb hh, Option.bind_some]
      by_cases c : x.toInt < 0
      · rw [if_neg (fun q => a3.mp q c), decide_eq_true c]
        show some (_ ||| (-9223372036854775808 : Int64)) = some (lN (1 * 2 ^ 63 + _))
        rw [show (-9223372036854775808 : Int64) = lN (1 * 2 ^ 63) from by decide +kernel, g_or' rfl b3 (by omega), Nat.add_comm]
      · rw [if_pos (a3.mpr c), decide_eq_false c, Bool.toNat_false, Nat.zero_mul, Nat.zero_add]
