/-! the order of cells: both sides alike -/
theorem mbn' : ∀ k, k < 14 → f_X3_mayBeNothing (nI k) = some (decide (8 ≤ k ∧ k ≤ 10)) := by decide +kernel
theorem k_ne (k : Nat) (hk : k < 14) : (nI k = 6 ↔ k = 6) ∧ (nI k = 7 ↔ k = 7) ∧ (nI k = 8 ↔ k = 8) ∧ (nI k = 9 ↔ k = 9) ∧ (nI k < 8 ↔ k < 8) := by
  rw [show (6 : Int32) = nI 6 from by decide, show (7 : Int32) = nI 7 from by decide, show (8 : Int32) = nI 8 from by decide, show (9 : Int32) = nI 9 from by decide]
  exact ⟨nI_eq (by omega) (by omega), nI_eq (by omega) (by omega), nI_eq (by omega) (by omega), nI_eq (by omega) (by omega), nI_ltI (by omega) (by omega)⟩
theorem G3w : ∀ k, k < 14 → ∀ v, okc k v → f_X3_weight (nI k) v = some (wt k v) := by
  intro k hk v _
  have : ∃ z, f_X3_weight (nI k) v = some z := by
    unfold f_X3_weight
    rw [mbn' k hk, Option.bind_some]
    (repeat' split) <;> exact ⟨_, rfl⟩
  obtain ⟨z, e⟩ := this
  unfold wt
  rw [e]
  rfl
theorem wt_low {k : Nat} (hk : k < 6) (v : Int64) : wt k v = v := by
  obtain ⟨a1, a2, a3, a4, -⟩ := k_ne k (by omega)
  unfold wt f_X3_weight
  rw [mbn' k (by omega), Option.bind_some, decide_eq_false (by omega), ifbf, if_neg (fun q => by have := a1.mp q; omega), if_neg (fun q => by have := a2.mp q; omega), if_neg (fun q => by have := a3.mp q; omega), if_neg (fun q => by have := a4.mp q; omega)]
  rfl
theorem wt_8 {k : Nat} (hk : k = 8 ∨ k = 10) (v : Int64) : wt k v = v := by
  obtain ⟨a1, a2, a3, a4, -⟩ := k_ne k (by omega)
  unfold wt f_X3_weight
  rw [mbn' k (by omega), Option.bind_some, decide_eq_true (by omega), ifbt]
  by_cases h : lg_cmp v (-9223372036854775808) = 0
  · rw [if_pos h, (lg_cmp_eq _ _).mp h]; rfl
  · rw [if_neg h, if_neg (fun q => by have := a1.mp q; omega), if_neg (fun q => by have := a2.mp q; omega)]
    by_cases h8 : nI k = 8
    · rw [if_pos h8]; rfl
    · rw [if_neg h8, if_neg (fun q => by have := a4.mp q; omega)]; rfl
theorem xor_low {k a b : Nat} (ha : a < 2 ^ k) : (2 ^ k * b + a) ^^^ (2 ^ k - 1) = 2 ^ k * b + (2 ^ k - (a + 1)) := by
  apply Nat.eq_of_testBit_eq
  intro i
  rw [Nat.testBit_xor, Nat.testBit_two_pow_mul_add b ha, Nat.testBit_two_pow_sub_one, Nat.testBit_two_pow_mul_add b (show 2 ^ k - (a + 1) < 2 ^ k by omega), Nat.testBit_two_pow_sub_succ ha]
  by_cases h : i < k
  · simp [h]
  · simp [h]
/-- of floats -/
def swF (n : Nat) : Int := if n < 2 ^ 31 then (n : Int) else -1 - ((n % 2 ^ 31 : Nat) : Int)
theorem wt_6 {n : Nat} (hn : n < 2 ^ 32) : (wt 6 (fL n)).toInt = swF n := by
  have z : (0 : Int64).toInt = 0 := by decide
  have hL := fL_eq hn
  unfold wt f_X3_weight swF
  rw [mbn' 6 (by omega), Option.bind_some, decide_eq_false (by omega), ifbf, if_pos (by decide)]
  by_cases c : n < 2 ^ 31
  · rw [if_pos c] at hL
    rw [if_pos c, hL, if_pos ((lg_cmp_ge _ _).mpr (Int64.le_iff_toInt_le.mpr (by rw [z, pk_lT (by omega)]; omega)))]
    show (lN n).toInt = _
    rw [pk_lT (by omega)]
  · rw [if_neg c] at hL
    have ti := lN_ti (m := n + 18446744069414584320) (by omega)
    rw [if_neg (by omega)] at ti
    rw [if_neg c, hL, if_neg (fun q => by
      have := Int64.le_iff_toInt_le.mp ((lg_cmp_ge _ _).mp q)
      rw [z, ti] at this
      omega)]
    show (lN (n + 18446744069414584320) ^^^ 2147483647).toInt = _
    rw [show (2147483647 : Int64) = lN (2 ^ 31 - 1) from by decide, lN_xor, show n + 18446744069414584320 = 2 ^ 31 * 8589934591 + n % 2 ^ 31 by omega, xor_low (Nat.mod_lt _ (by omega)), lN_ti (by omega), if_neg (by omega)]
    omega
theorem wt_7 {n : Nat} (hn : n < 2 ^ 64) : (wt 7 (lN n)).toInt = sw n := by
  have z : (0 : Int64).toInt = 0 := by decide
  have ti := lN_ti hn
  unfold wt f_X3_weight sw
  rw [mbn' 7 (by omega), Option.bind_some, decide_eq_false (by omega), ifbf, if_neg (by decide), if_pos (by decide)]
  by_cases c : n < 2 ^ 63
  · rw [if_pos c] at ti
    rw [if_pos ((lg_cmp_ge _ _).mpr (Int64.le_iff_toInt_le.mpr (by rw [z, ti]; omega))), if_neg (by omega)]
    show (lN n).toInt = _
    rw [ti]
    omega
  · rw [if_neg c] at ti
    rw [if_neg (fun q => by
      have := Int64.le_iff_toInt_le.mp ((lg_cmp_ge _ _).mp q)
      rw [z, ti] at this
      omega), if_pos (by omega)]
    show (lN n ^^^ 9223372036854775807).toInt = _
    rw [show (9223372036854775807 : Int64) = lN (2 ^ 63 - 1) from by decide +kernel, lN_xor, show n = 2 ^ 63 * 1 + n % 2 ^ 63 by omega, xor_low (Nat.mod_lt _ (by omega)), lN_ti (by omega), if_neg (by omega)]
    omega
theorem okc_9of {v : Int64} (h : okc 9 v) (hn : v ≠ nothing) : ∃ n, n ≤ 77 ∧ v = lN n := by
  have h1 := (h.2.2.2.2.2.2.2.2.2.1 rfl).resolve_left hn
  refine ⟨v.toInt.toNat, by omega, Int64.toInt_inj.mp ?_⟩
  rw [pk_lT (by omega)]
  omega
theorem lN_nt {n : Nat} (h : n ≤ 77) : ¬ lN n = nothing := fun q => by
  have := congrArg Int64.toInt q
  rw [pk_lT (by omega), show nothing.toInt = -9223372036854775808 from by decide] at this
  omega
theorem wt_9n : wt 9 nothing = nothing := by decide +kernel
theorem wt_9 {n : Nat} (h : n ≤ 77) : wt 9 (lN n) = lN (n % 26 * 3 + n / 26) := by
  unfold wt f_X3_weight
  rw [mbn' 9 (by omega), Option.bind_some, decide_eq_true (by omega), ifbt, if_neg (show ¬ lg_cmp (lN n) (-9223372036854775808) = 0 from fun q => lN_nt h ((lg_cmp_eq _ _).mp q)), if_neg (by decide), if_neg (by decide), if_neg (by decide), if_pos (by decide), show (26 : Int64) = lN 26 from by decide, show (3 : Int64) = lN 3 from by decide, pk_lRem (by omega) (by omega) (by omega), pk_lDiv (by omega) (by omega) (by omega), lN_mul, lN_add]
  rfl
theorem swF_inj {a b : Nat} (ha : a < 2 ^ 32) (hb : b < 2 ^ 32) (h : swF a = swF b) : a = b := by
  unfold swF at h
  split at h <;> split at h <;> omega
theorem nt_ti : nothing.toInt = -9223372036854775808 := by decide
theorem G3i : ∀ k, k < 11 → ∀ v w, okc k v → okc k w → wt k v = wt k w → v = w := by
  intro k hk v w hv hw h
  by_cases h6 : k < 6
  · rw [wt_low h6, wt_low h6] at h; exact h
  rcases (show k = 6 ∨ k = 7 ∨ k = 9 ∨ k = 8 ∨ k = 10 by omega) with rfl | rfl | rfl | q | q
  · obtain ⟨n, g1, rfl, g2⟩ := okc_6of hv
    obtain ⟨m, k1, rfl, k2⟩ := okc_6of hw
    have := congrArg Int64.toInt h
    rw [wt_6 g1, wt_6 k1] at this
    rw [swF_inj g1 k1 this]
  · obtain ⟨n, g1, rfl, g2⟩ := okc_7of hv
    obtain ⟨m, k1, rfl, k2⟩ := okc_7of hw
    have := congrArg Int64.toInt h
    rw [wt_7 g1, wt_7 k1] at this
    rw [sw_inj g1 k1 this]
  · by_cases nv : v = nothing
    · by_cases nw : w = nothing
      · rw [nv, nw]
      · obtain ⟨m, k1, rfl⟩ := okc_9of hw nw
        rw [nv, wt_9n, wt_9 k1] at h
        exact absurd h.symm (lN_nt (by omega))
    · obtain ⟨n, g1, rfl⟩ := okc_9of hv nv
      by_cases nw : w = nothing
      · rw [nw, wt_9n, wt_9 g1] at h
        exact absurd h (lN_nt (by omega))
      · obtain ⟨m, k1, rfl⟩ := okc_9of hw nw
        rw [wt_9 g1, wt_9 k1, pk_lEQ (by omega) (by omega)] at h
        rw [show n = m by omega]
  · rw [wt_8 (by omega), wt_8 (by omega)] at h; exact h
  · rw [wt_8 (by omega), wt_8 (by omega)] at h; exact h
theorem cmp_if (v w : Int64) : (if 0 ≤ lg_cmp v w then some false else some true) = some (decide (v < w)) := by
  by_cases h : 0 ≤ lg_cmp v w
  · rw [if_pos h, decide_eq_false (Int64.not_lt.mpr ((lg_cmp_ge _ _).mp h))]
  · rw [if_neg h, decide_eq_true (Int64.not_le.mp (fun q => h ((lg_cmp_ge _ _).mpr q)))]
theorem dc_if {n m : Nat} (hn : n < 2 ^ 64) (hm : m < 2 ^ 64) (kn : dok n) (km : dok m) : (if 0 ≤ Op.cmpValue (FP.dcmp (lN n).toUInt64 (lN m).toUInt64) .g then some false else some true) = some (decide (sw n < sw m)) := by
  rw [dcmpN hn hm kn km]
  by_cases h1 : sw n < sw m
  · rw [if_pos h1, decide_eq_true h1]; rfl
  · rw [if_neg h1, decide_eq_false h1]
    by_cases h2 : n = m
    · rw [if_pos h2]; rfl
    · rw [if_neg h2]; rfl
theorem worth6 {n : Nat} (hn : n < 2 ^ 32) (h : fok n) : f_X10_worth (nI 6) (fL n) = some (lN (fdN n)).toUInt64 := by
  obtain ⟨k1, k2⟩ := fdN_ok hn h
  unfold f_X10_worth
  rw [if_pos n6.1, (fL_32 hn).1, sn32 hn h, if_neg (by decide)]
  have e : FP.f2d (nI n).toUInt32 = UInt64.ofNat (fdN n) := m_f2d hn h
  rw [e, if_neg (not_not_intro (dgd k1 k2))]
  rfl
theorem worth7 {n : Nat} (hn : n < 2 ^ 64) (h : dok n) : f_X10_worth (nI 7) (lN n) = some (lN n).toUInt64 := by
  unfold f_X10_worth
  rw [if_neg (by decide), if_pos n6.2, sn64 hn h, if_neg (by decide)]
theorem sw_fd {n m : Nat} (hn : n < 2 ^ 32) (hm : m < 2 ^ 32) (kn : fok n) (km : fok m) : sw (fdN n) < sw (fdN m) ↔ swF n < swF m := by
  unfold sw swF fdN
  rcases kn with rfl | kn
  · rcases km with rfl | km
    · simp
    · rw [if_pos rfl, if_neg (show ¬ m = 0 by omega), if_neg (show ¬ 2 ^ 63 ≤ 0 by omega), if_pos (show 0 < 2 ^ 31 by omega)]
      split <;> split <;> omega
  · rw [if_neg (show ¬ n = 0 by omega)]
    rcases km with rfl | km
    · rw [if_pos rfl, if_neg (show ¬ 2 ^ 63 ≤ 0 by omega), if_pos (show 0 < 2 ^ 31 by omega)]
      split <;> split <;> omega
    · rw [if_neg (show ¬ m = 0 by omega)]
      split <;> split <;> split <;> split <;> omega
theorem G3l : ∀ k, k < 11 → ∀ v w, okc k v → okc k w → f_X10_isLesser (nI k) v w = some (decide (wt k v < wt k w)) := by
  intro k hk v w hv hw
  obtain ⟨a6, a7, a8, a9, al⟩ := k_ne k (by omega)
  unfold f_X10_isLesser
  by_cases he : lg_cmp v w = 0
  · rw [if_pos he, (lg_cmp_eq _ _).mp he, decide_eq_false (Int64.lt_irrefl)]
  rw [if_neg he]
  have hne : v ≠ w := fun q => he ((lg_cmp_eq _ _).mpr q)
  by_cases h8 : k < 8
  · rw [if_pos (al.mpr h8)]
    by_cases h6 : k = 6
    · subst h6
      obtain ⟨n, g1, rfl, g2⟩ := okc_6of hv
      obtain ⟨m, k1, rfl, k2⟩ := okc_6of hw
      obtain ⟨n1, n2⟩ := fdN_ok g1 g2
      obtain ⟨m1, m2⟩ := fdN_ok k1 k2
      rw [if_pos (a6.mpr rfl), worth6 g1 g2, worth6 k1 k2, Option.bind_some, Option.bind_some, dc_if n1 m1 n2 m2]
      congr 1
      rw [decide_eq_decide, sw_fd g1 k1 g2 k2, Int64.lt_iff_toInt_lt, wt_6 g1, wt_6 k1]
    · by_cases h7 : k = 7
      · subst h7
        obtain ⟨n, g1, rfl, g2⟩ := okc_7of hv
        obtain ⟨m, k1, rfl, k2⟩ := okc_7of hw
        rw [if_neg (by decide), if_pos (a7.mpr rfl), worth7 g1 g2, worth7 k1 k2, Option.bind_some, Option.bind_some, dc_if g1 k1 g2 k2]
        congr 1
        rw [decide_eq_decide, Int64.lt_iff_toInt_lt, wt_7 g1, wt_7 k1]
      · rw [if_neg (fun q => h6 (a6.mp q)), if_neg (fun q => h7 (a7.mp q)), if_neg (fun q => by have := a9.mp q; omega), cmp_if, wt_low (by omega), wt_low (by omega)]
  · rw [if_neg (fun q => h8 (al.mp q))]
    have nlt : ∀ x : Int64, okc k x → x ≠ nothing → nothing < wt k x := by
      intro x hx hxn
      rw [Int64.lt_iff_toInt_lt, nt_ti]
      by_cases h9 : k = 9
      · subst h9
        obtain ⟨n, g1, rfl⟩ := okc_9of hx hxn
        rw [wt_9 g1, pk_lT (by omega)]
        omega
      · rw [wt_8 (by omega)]
        have := fb_rngL x
        have h2 : x.toInt ≠ -9223372036854775808 := fun q => hxn (Int64.toInt_inj.mp (by rw [q, nt_ti]))
        omega
    have wn : wt k nothing = nothing := by
      by_cases h9 : k = 9
      · subst h9; exact wt_9n
      · exact wt_8 (by omega) _
    by_cases hvn : lg_cmp v (-9223372036854775808) = 0
    · have e : v = nothing := (lg_cmp_eq _ _).mp hvn
      rw [if_pos hvn, if_pos hvn, e, wn, decide_eq_true (nlt w hw (fun q => hne (by rw [e, q])))]
    · have e : v ≠ nothing := fun q => hvn ((lg_cmp_eq _ _).mpr q)
      rw [if_neg hvn, if_neg hvn]
      by_cases hwn : lg_cmp w (-9223372036854775808) = 0
      · have e2 : w = nothing := (lg_cmp_eq _ _).mp hwn
        rw [if_pos hwn, e2, wn, decide_eq_false (Int64.not_lt.mpr (Int64.le_of_lt (nlt v hv e)))]
      · have e2 : w ≠ nothing := fun q => hwn ((lg_cmp_eq _ _).mpr q)
        rw [if_neg hwn, if_neg (fun q => by have := a6.mp q; omega), if_neg (fun q => by have := a7.mp q; omega)]
        by_cases h9 : k = 9
        · subst h9
          obtain ⟨n, g1, rfl⟩ := okc_9of hv e
          obtain ⟨m, k1, rfl⟩ := okc_9of hw e2
          rw [if_pos (a9.mpr rfl), cmp_if, cmp_if, wt_9 g1, wt_9 k1, show (26 : Int64) = lN 26 from by decide, pk_lRem (by omega) (by omega) (by omega), pk_lRem (by omega) (by omega) (by omega)]
          by_cases q : n % 26 = m % 26
          · rw [if_pos ((lg_cmp_eq _ _).mpr (by rw [q]))]
            congr 1
            rw [decide_eq_decide, pk_lLT (by omega) (by omega), pk_lLT (by omega) (by omega)]
            omega
          · rw [if_neg (fun z => q ((pk_lEQ (by omega) (by omega)).mp ((lg_cmp_eq _ _).mp z)))]
            congr 1
            rw [decide_eq_decide, pk_lLT (by omega) (by omega), pk_lLT (by omega) (by omega)]
            omega
        · rw [if_neg (fun q => h9 (a9.mp q)), cmp_if, wt_8 (by omega), wt_8 (by omega)]
