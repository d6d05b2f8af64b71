/-! texts: what is typed, read on both sides -/
/-- a byte as it lies in the reference's text -/
def bt (b : Nat) : Int32 := to_b (nI b)
theorem bt_and : ∀ b, b < 256 → bt b &&& 255 = nI b := by decide +kernel
theorem bt_low : ∀ b, b < 128 → bt b = nI b := by decide +kernel
theorem nar_c : ∀ b, b < 256 → vp_nar .char (nI b) = nI b := by decide +kernel
theorem toc_b : ∀ b, b < 256 → to_c (nI b) = nI b := by decide +kernel
theorem nar_b : ∀ b, b < 256 → vp_nar .byte (bt b) = bt b := by decide +kernel
theorem m255 : ∀ i, i < 8 → (255#32).getLsbD i = true := by decide
theorem bn_255 (x : Int32) : ∃ b, b < 256 ∧ x &&& 255 = nI b := by
  refine ⟨bn (x &&& 255), ?_, ?_⟩
  · rw [bn_and]
    have : Nat.land (bn x) (bn 255) ≤ bn 255 := Nat.and_le_right
    have h : bn 255 = 255 := by decide
    omega
  · apply bn_inj
    rw [bn_nI (by unfold bn; exact BitVec.isLt _)]
theorem byte_0 (x : Int32) : to_b (x >>> (0 : Int32)) = to_b (ius x (0 : Int32) &&& 255) := by
  unfold to_b
  congr 1
  apply Int8.toBitVec_inj.mp
  show (x >>> (0 : Int32)).toBitVec.signExtend 8 = (ius x (0 : Int32) &&& 255).toBitVec.signExtend 8
  have e2 : (ius x (0 : Int32)).toBitVec = x.toBitVec >>> (0 : Nat) := by
    have e : ((0 : Int32).toUInt32 &&& Int32.toUInt32 31) = 0 := by decide
    unfold ius
    rw [e]
    show (x.toUInt32 >>> (0 : UInt32)).toBitVec = _
    rw [UInt32.toBitVec_shiftRight]
    rfl
  have e3 : (x >>> (0 : Int32)).toBitVec = x.toBitVec.sshiftRight 0 := by
    rw [Int32.toBitVec_shiftRight]
    rfl
  rw [Int32.toBitVec_and, e2, e3, BitVec.signExtend_eq_setWidth_of_le _ (by omega), BitVec.signExtend_eq_setWidth_of_le _ (by omega)]
  apply BitVec.eq_of_getLsbD_eq
  intro i hi
  rw [BitVec.getLsbD_setWidth, BitVec.getLsbD_setWidth, BitVec.getLsbD_and, BitVec.getLsbD_sshiftRight, BitVec.getLsbD_ushiftRight]
  have := m255 i hi
  rw [show (255 : Int32).toBitVec.getLsbD i = true from this]
  simp [show ¬ 32 ≤ i by omega, show i < 32 by omega]
theorem byte_8 (x : Int32) : to_b (x >>> (8 : Int32)) = to_b (ius x (8 : Int32) &&& 255) := by
  unfold to_b
  congr 1
  apply Int8.toBitVec_inj.mp
  show (x >>> (8 : Int32)).toBitVec.signExtend 8 = (ius x (8 : Int32) &&& 255).toBitVec.signExtend 8
  have e2 : (ius x (8 : Int32)).toBitVec = x.toBitVec >>> (8 : Nat) := by
    have e : ((8 : Int32).toUInt32 &&& Int32.toUInt32 31) = 8 := by decide
    unfold ius
    rw [e]
    show (x.toUInt32 >>> (8 : UInt32)).toBitVec = _
    rw [UInt32.toBitVec_shiftRight]
    rfl
  have e3 : (x >>> (8 : Int32)).toBitVec = x.toBitVec.sshiftRight 8 := by
    rw [Int32.toBitVec_shiftRight]
    rfl
  rw [Int32.toBitVec_and, e2, e3, BitVec.signExtend_eq_setWidth_of_le _ (by omega), BitVec.signExtend_eq_setWidth_of_le _ (by omega)]
  apply BitVec.eq_of_getLsbD_eq
  intro i hi
  rw [BitVec.getLsbD_setWidth, BitVec.getLsbD_setWidth, BitVec.getLsbD_and, BitVec.getLsbD_sshiftRight, BitVec.getLsbD_ushiftRight]
  have := m255 i hi
  rw [show (255 : Int32).toBitVec.getLsbD i = true from this]
  simp [show ¬ 32 ≤ i by omega, show 8 + i < 32 by omega]
theorem byte_16 (x : Int32) : to_b (x >>> (16 : Int32)) = to_b (ius x (16 : Int32) &&& 255) := by
  unfold to_b
  congr 1
  apply Int8.toBitVec_inj.mp
  show (x >>> (16 : Int32)).toBitVec.signExtend 8 = (ius x (16 : Int32) &&& 255).toBitVec.signExtend 8
  have e2 : (ius x (16 : Int32)).toBitVec = x.toBitVec >>> (16 : Nat) := by
    have e : ((16 : Int32).toUInt32 &&& Int32.toUInt32 31) = 16 := by decide
    unfold ius
    rw [e]
    show (x.toUInt32 >>> (16 : UInt32)).toBitVec = _
    rw [UInt32.toBitVec_shiftRight]
    rfl
  have e3 : (x >>> (16 : Int32)).toBitVec = x.toBitVec.sshiftRight 16 := by
    rw [Int32.toBitVec_shiftRight]
    rfl
  rw [Int32.toBitVec_and, e2, e3, BitVec.signExtend_eq_setWidth_of_le _ (by omega), BitVec.signExtend_eq_setWidth_of_le _ (by omega)]
  apply BitVec.eq_of_getLsbD_eq
  intro i hi
  rw [BitVec.getLsbD_setWidth, BitVec.getLsbD_setWidth, BitVec.getLsbD_and, BitVec.getLsbD_sshiftRight, BitVec.getLsbD_ushiftRight]
  have := m255 i hi
  rw [show (255 : Int32).toBitVec.getLsbD i = true from this]
  simp [show ¬ 32 ≤ i by omega, show 16 + i < 32 by omega]
theorem byte_24 (x : Int32) : to_b (x >>> (24 : Int32)) = to_b (ius x (24 : Int32) &&& 255) := by
  unfold to_b
  congr 1
  apply Int8.toBitVec_inj.mp
  show (x >>> (24 : Int32)).toBitVec.signExtend 8 = (ius x (24 : Int32) &&& 255).toBitVec.signExtend 8
  have e2 : (ius x (24 : Int32)).toBitVec = x.toBitVec >>> (24 : Nat) := by
    have e : ((24 : Int32).toUInt32 &&& Int32.toUInt32 31) = 24 := by decide
    unfold ius
    rw [e]
    show (x.toUInt32 >>> (24 : UInt32)).toBitVec = _
    rw [UInt32.toBitVec_shiftRight]
    rfl
  have e3 : (x >>> (24 : Int32)).toBitVec = x.toBitVec.sshiftRight 24 := by
    rw [Int32.toBitVec_shiftRight]
    rfl
  rw [Int32.toBitVec_and, e2, e3, BitVec.signExtend_eq_setWidth_of_le _ (by omega), BitVec.signExtend_eq_setWidth_of_le _ (by omega)]
  apply BitVec.eq_of_getLsbD_eq
  intro i hi
  rw [BitVec.getLsbD_setWidth, BitVec.getLsbD_setWidth, BitVec.getLsbD_and, BitVec.getLsbD_sshiftRight, BitVec.getLsbD_ushiftRight]
  have := m255 i hi
  rw [show (255 : Int32).toBitVec.getLsbD i = true from this]
  simp [show ¬ 32 ≤ i by omega, show 24 + i < 32 by omega]
theorem li80 : (80 : Int32) = nI 80 := by decide
/-- the same signs are typed on both sides -/
def TX (size : Int32) (signs : Nat → Int32) (typed : Int32) (text : Nat → Int32) : Prop := ∃ (n : Nat) (b : Nat → Nat), n ≤ 80 ∧ size = nI n ∧ typed = nI n ∧ ∀ p, p < n → b p < 256 ∧ signs p = nI (b p) ∧ text p = bt (b p)
theorem TX.put {n : Nat} {b : Nat → Nat} {signs text : Nat → Int32} (h : ∀ p, p < n → b p < 256 ∧ signs p = nI (b p) ∧ text p = bt (b p)) {v : Nat} (hv : v < 256) : ∀ p, p < n + 1 → (fun p => if p = n then v else b p) p < 256 ∧ upd signs n (nI v) p = nI ((fun p => if p = n then v else b p) p) ∧ upd text n (bt v) p = bt ((fun p => if p = n then v else b p) p) := by
  intro p hp
  by_cases e : p = n
  · subst e
    simp only [if_true]
    exact ⟨hv, upd_at _ _ _, upd_at _ _ _⟩
  · simp only [if_neg e]
    obtain ⟨h1, h2, h3⟩ := h p (by omega)
    exact ⟨h1, by rw [upd_ne _ _ e, h2], by rw [upd_ne _ _ e, h3]⟩
theorem typ1 (x : Int32) (k : Int32) (h : to_b (x >>> k) = to_b (ius x k &&& 255)) : ∃ v, v < 256 ∧ vp_nar .char (to_c ((ius x k) &&& (255 : Int32))) = nI v ∧ vp_nar .byte (to_b (x >>> k)) = bt v := by
  obtain ⟨v, hv, e⟩ := bn_255 (ius x k)
  refine ⟨v, hv, ?_, ?_⟩
  · rw [e, toc_b v hv, nar_c v hv]
  · rw [h, e]; exact nar_b v hv
theorem op_sign {size typed : Int32} {signs text : Nat → Int32} (hX : TX size signs typed text) (x : Int32) :
    ∃ oc om, f_X9_sign size signs x = some oc ∧ f_X10_sign typed text x = some om ∧ oc.1 = om.1 ∧ TX oc.2.1 oc.2.2 om.2.1 om.2.2.2 := by
  obtain ⟨n, b, hn, rfl, rfl, hb⟩ := id hX
  unfold f_X9_sign f_X7_addFour f_X10_sign
  have l4 : (4 : Int32) = nI 4 := by decide
  rw [l4, nI_add, li80]
  by_cases h : n + 4 ≤ 80
  · rw [if_pos (nI_le h (by omega)), if_pos (nI_le h (by omega))]
    obtain ⟨v1, w1, c1, m1⟩ := typ1 x 24 (byte_24 x)
    obtain ⟨v2, w2, c2, m2⟩ := typ1 x 16 (byte_16 x)
    obtain ⟨v3, w3, c3, m3⟩ := typ1 x 8 (byte_8 x)
    obtain ⟨v4, w4, c4, m4⟩ := typ1 x 0 (byte_0 x)
    have hc : L_X7_addFour_16 x fu 24 (nI n) signs = some (nI (n + 1 + 1 + 1 + 1), upd (upd (upd (upd signs n (nI v1)) (n + 1) (nI v2)) (n + 1 + 1) (nI v3)) (n + 1 + 1 + 1) (nI v4)) := by
      show L_X7_addFour_16 x (4091 + 1 + 1 + 1 + 1 + 1) 24 (nI n) signs = _
      rw [L_X7_addFour_16, if_neg (by decide), gdI (by omega) (by omega), nI_clamp (by omega), c1, nI_1, show (24 : Int32) + (-8) = 16 by decide]
      rw [L_X7_addFour_16, if_neg (by decide), gdI (by omega) (by omega), nI_clamp (by omega), c2, nI_1, show (16 : Int32) + (-8) = 8 by decide]
      rw [L_X7_addFour_16, if_neg (by decide), gdI (by omega) (by omega), nI_clamp (by omega), c3, nI_1, show (8 : Int32) + (-8) = 0 by decide]
      rw [L_X7_addFour_16, if_neg (by decide), gdI (by omega) (by omega), nI_clamp (by omega), c4, nI_1, show (0 : Int32) + (-8) = -8 by decide]
      rw [L_X7_addFour_16, if_pos (by decide)]
    have hm : L_X10_sign_20 x fu 3 (nI n) text = some (nI (n + 1 + 1 + 1 + 1), upd (upd (upd (upd text n (bt v1)) (n + 1) (bt v2)) (n + 1 + 1) (bt v3)) (n + 1 + 1 + 1) (bt v4)) := by
      show L_X10_sign_20 x (4091 + 1 + 1 + 1 + 1 + 1) 3 (nI n) text = _
      rw [L_X10_sign_20, if_neg (by decide), gdI (by omega) (by omega), nI_clamp (by omega), show ((8 : Int32) * 3) &&& 31 = 24 by decide, m1, nI_1, show (3 : Int32) + (-1) = 2 by decide]
      rw [L_X10_sign_20, if_neg (by decide), gdI (by omega) (by omega), nI_clamp (by omega), show ((8 : Int32) * 2) &&& 31 = 16 by decide, m2, nI_1, show (2 : Int32) + (-1) = 1 by decide]
      rw [L_X10_sign_20, if_neg (by decide), gdI (by omega) (by omega), nI_clamp (by omega), show ((8 : Int32) * 1) &&& 31 = 8 by decide, m3, nI_1, show (1 : Int32) + (-1) = 0 by decide]
      rw [L_X10_sign_20, if_neg (by decide), gdI (by omega) (by omega), nI_clamp (by omega), show ((8 : Int32) * 0) &&& 31 = 0 by decide, m4, nI_1, show (0 : Int32) + (-1) = -1 by decide]
      rw [L_X10_sign_20, if_pos (by decide)]
    rw [hc, hm]
    simp only [Option.bind_some, ifbt]
    exact ⟨_, _, rfl, rfl, rfl, n + 1 + 1 + 1 + 1, _, by omega, rfl, rfl, TX.put (TX.put (TX.put (TX.put hb w1) w2) w3) w4⟩
  · rw [if_neg (nI_ge (show 80 < n + 4 by omega) (by omega)), if_neg (nI_ge (show 80 < n + 4 by omega) (by omega))]
    exact ⟨_, _, rfl, rfl, rfl, hX⟩
theorem op_end {size typed : Int32} {signs text : Nat → Int32} (hX : TX size signs typed text) (x : Int32) :
    ∃ oc om, f_X9_end size x = some oc ∧ f_X10_end typed x = some om ∧ oc.1 = om.1 ∧ TX oc.2 signs om.2.1 text := by
  obtain ⟨n, b, hn, rfl, rfl, hb⟩ := id hX
  unfold f_X9_end f_X7_cut f_X10_end
  rcases rng_of 0 (hi := n) (by omega) (by omega) x with h | ⟨h, k, _, hk, rfl⟩
  · have h' : f_X10_in x 0 (nI n) = some false := h
    rw [h']
    rw [f_in] at h'
    simp only [Option.bind_some, ifbf]
    by_cases h1 : x < 0
    · rw [if_pos h1]
      exact ⟨_, _, rfl, rfl, rfl, hX⟩
    · rw [if_neg h1]
      by_cases h2 : nI n < x
      · rw [if_neg (show ¬ x ≤ nI n from Int32.not_le.mpr h2)]
        exact ⟨_, _, rfl, rfl, rfl, hX⟩
      · simp [h1, h2] at h'
  · have h' : f_X10_in (nI k) 0 (nI n) = some true := h
    rw [h', if_neg (nI_pos (by omega)), if_pos (nI_le hk (by omega))]
    simp only [Option.bind_some, ifbt]
    exact ⟨_, _, rfl, rfl, rfl, k, b, by omega, rfl, rfl, fun p hp => hb p (by omega)⟩
section
variable {n : Nat} {b : Nat → Nat} {signs text : Nat → Int32}
theorem c_signAt (hn : n ≤ 80) (hb : ∀ p, p < n → b p < 256 ∧ signs p = nI (b p) ∧ text p = bt (b p)) {p : Nat} (hp : p < 2 ^ 30) : f_X7_signAt (nI n) signs (nI p) = some (nI (if p < n then b p else 0)) := by
  unfold f_X7_signAt
  rw [if_neg (nI_pos (by omega))]
  by_cases h : p < n
  · rw [if_neg (nI_ge h (by omega)), gdI (by omega) (by omega), nI_clamp (by omega), (hb p h).2.1, if_neg (fun e => e (nar_c _ (hb p h).1)), if_pos h]
  · rw [if_pos (nI_le (by omega) (by omega)), if_neg h]
    rfl
/-- a digit stands there -/
def dg (n : Nat) (b : Nat → Nat) (p : Nat) : Bool := decide (p < n) && (decide (48 ≤ b p) && decide (b p ≤ 57))
theorem dig_dec : ∀ v, v < 256 → (if nI v < (48 : Int32) then (some (-1 : Int32)) else (if (57 : Int32) < nI v then (some (-1 : Int32)) else (some (nI v - (48 : Int32))))) = some (if 48 ≤ v ∧ v ≤ 57 then nI (v - 48) else -1) := by decide +kernel
theorem c_digitAt (hn : n ≤ 80) (hb : ∀ p, p < n → b p < 256 ∧ signs p = nI (b p) ∧ text p = bt (b p)) {p : Nat} (hp : p < 2 ^ 30) : f_X7_digitAt (nI n) signs (nI p) = some (if dg n b p then nI (b p - 48) else -1) := by
  unfold f_X7_digitAt dg
  rw [c_signAt hn hb hp, Option.bind_some]
  by_cases h : p < n
  · rw [if_pos h, dig_dec _ (hb p h).1]
    simp only [h, decide_true, Bool.true_and, Bool.and_eq_true, decide_eq_true_eq]
  · rw [if_neg h, dig_dec 0 (by omega)]
    simp [h]
theorem m_here (hn : n ≤ 80) (hb : ∀ p, p < n → b p < 256 ∧ signs p = nI (b p) ∧ text p = bt (b p)) {p : Nat} (hp : p < 2 ^ 30) : f_X10_here (nI n) (nI p) text = some (if p < n then nI (b p) else -1) := by
  unfold f_X10_here
  by_cases h : p < n
  · rw [if_neg (nI_ge h (by omega)), gdI (by omega) (by omega), nI_clamp (by omega), (hb p h).2.2, bt_and _ (hb p h).1, if_pos h]
  · rw [if_pos (nI_le (by omega) (by omega)), if_neg h]
theorem m_fine1 : f_X10_fine (-1) = some true := by decide
theorem m_fine0 {w : Nat} (hw : w < 81) : f_X10_fine (nI w) = some false := by
  have : ∀ w, w < 81 → f_X10_fine (nI w) = some false := by decide +kernel
  exact this w hw
theorem m_fault1 (x : Int32) : f_X10_fault (-1) x = some x := by
  unfold f_X10_fault
  rw [m_fine1]
  rfl
theorem m_fault0 {w : Nat} (hw : w < 81) (x : Int32) : f_X10_fault (nI w) x = some (nI w) := by
  unfold f_X10_fault
  rw [m_fine0 hw]
  rfl
/-- a sign between two stands there -/
def bw (n : Nat) (b : Nat → Nat) (lo m p : Nat) : Bool := decide (p < n) && (decide (lo ≤ b p) && decide (b p < lo + m))
theorem m_oneOf (hn : n ≤ 80) (hb : ∀ p, p < n → b p < 256 ∧ signs p = nI (b p) ∧ text p = bt (b p)) {p lo m : Nat} (hp : p < 2 ^ 30) (hl : 0 < lo) (hm : lo + m ≤ 128) : f_X10_oneOf (nI n) (nI p) (-1) text (nI lo) (nI m) = some (if bw n b lo m p then (nI (b p - lo), nI (p + 1), -1) else (0, nI p, nI p)) := by
  unfold f_X10_oneOf
  have e1 : nI lo + nI m - 1 = nI (lo + m - 1) := by
    rw [nI_add]
    obtain ⟨k, hk⟩ : ∃ k, lo + m = k + 1 := ⟨lo + m - 1, by omega⟩
    rw [hk, ← nI_add, show nI 1 = 1 from rfl, Int32.add_sub_cancel]
    rfl
  have e2 : nI p + 1 - 1 = nI p := Int32.add_sub_cancel _ _
  rw [m_fine1, Option.bind_some, ifbt, m_here hn hb hp, Option.bind_some, e1, e2, f_in, Option.bind_some]
  by_cases h : p < n
  · rw [if_pos h]
    have h256 := (hb p h).1
    by_cases h1 : lo ≤ b p ∧ b p < lo + m
    · have hbw : bw n b lo m p = true := by unfold bw; simp [h, h1]
      rw [hbw, if_pos rfl]
      have : (decide (¬ nI (b p) < nI lo) && decide (¬ nI (lo + m - 1) < nI (b p))) = true := by
        rw [Bool.and_eq_true, decide_eq_true_eq, decide_eq_true_eq]
        exact ⟨nI_nlt (by omega) (by omega), nI_nlt (by omega) (by omega)⟩
      rw [this, ifbt, gdI (by omega) (by omega), nI_clamp (by omega), (hb p h).2.2, bt_low _ (by omega), nI_1]
      have : nI (b p) - nI lo = nI (b p - lo) := by
        obtain ⟨k, hk⟩ : ∃ k, b p = k + lo := ⟨b p - lo, by omega⟩
        rw [hk, ← nI_add, Int32.add_sub_cancel, Nat.add_sub_cancel]
      rw [this]
    · have hbw : bw n b lo m p = false := by
        unfold bw
        simp only [h, decide_true, Bool.true_and, Bool.and_eq_false_iff, decide_eq_false_iff_not]
        omega
      have : (decide (¬ nI (b p) < nI lo) && decide (¬ nI (lo + m - 1) < nI (b p))) = false := by
        rw [Bool.and_eq_false_iff, decide_eq_false_iff_not, decide_eq_false_iff_not]
        by_cases q : lo ≤ b p
        · right
          exact fun e => e (nI_lt (by omega) (by omega))
        · left
          exact fun e => e (nI_lt (by omega) (by omega))
      rw [this, ifbf, m_fault1, hbw]
      rfl
  · rw [if_neg h]
    have hbw : bw n b lo m p = false := by unfold bw; simp [h]
    have : (decide (¬ (-1 : Int32) < nI lo) && decide (¬ nI (lo + m - 1) < -1)) = false := by
      rw [Bool.and_eq_false_iff, decide_eq_false_iff_not, decide_eq_false_iff_not]
      left
      refine fun e => e ?_
      rw [Int32.lt_iff_toInt_lt, nI_toInt (by omega)]
      have : (-1 : Int32).toInt = -1 := by decide
      omega
    rw [this, ifbf, m_fault1, hbw]
    rfl
theorem m_oneOf0 {w : Nat} (hw : w < 81) (l a x y : Int32) : f_X10_oneOf l a (nI w) text x y = some (0, a, nI w) := by
  unfold f_X10_oneOf
  rw [m_fine0 hw]
  rfl
theorem dg_bw (p : Nat) : dg n b p = bw n b 48 10 p := by
  unfold dg bw
  congr 2
  rw [decide_eq_decide]
  omega
/-- two digits -/
theorem m_twoDigits (hn : n ≤ 80) (hb : ∀ p, p < n → b p < 256 ∧ signs p = nI (b p) ∧ text p = bt (b p)) {p : Nat} (hp : p < 81) : f_X10_twoDigits (nI n) (nI p) (-1) text = some (if dg n b p then (if dg n b (p + 1) then (nI (10 * (b p - 48) + (b (p + 1) - 48)), nI (p + 2), -1) else (nI (10 * (b p - 48)), nI (p + 1), nI (p + 1))) else (0, nI p, nI p)) := by
  unfold f_X10_twoDigits
  have h := @m_oneOf n b signs text hn hb p 48 10 (by omega) (by omega) (by omega)
  have h' : f_X10_oneOf (nI n) (nI p) (-1) text 48 10 = _ := h
  rw [h', Option.bind_some, ← dg_bw]
  by_cases h1 : dg n b p = true
  · simp only [h1, if_true]
    have g := @m_oneOf n b signs text hn hb (p + 1) 48 10 (by omega) (by omega) (by omega)
    have g' : f_X10_oneOf (nI n) (nI (p + 1)) (-1) text 48 10 = _ := g
    rw [g', Option.bind_some, ← dg_bw]
    by_cases h2 : dg n b (p + 1) = true
    · simp only [h2, if_true]
      rw [li10, pk_mul, nI_add]
    · simp only [h2, Bool.false_eq_true, if_false]
      rw [li10, pk_mul, li0, nI_add, Nat.add_zero]
  · simp only [h1, Bool.false_eq_true, if_false]
    rw [m_oneOf0 (by omega), Option.bind_some]
    rfl
theorem m_twoDigits0 {w : Nat} (hw : w < 81) (l a : Int32) : f_X10_twoDigits l a (nI w) text = some (0, a, nI w) := by
  unfold f_X10_twoDigits
  rw [m_oneOf0 hw, Option.bind_some, m_oneOf0 hw, Option.bind_some]
  rfl
theorem c_twoDigits (hn : n ≤ 80) (hb : ∀ p, p < n → b p < 256 ∧ signs p = nI (b p) ∧ text p = bt (b p)) {p : Nat} (hp : p < 2 ^ 29) (h1 : dg n b p = true) (h2 : dg n b (p + 1) = true) : f_X7_twoDigitsAt (nI n) signs (nI p) = some (nI (10 * (b p - 48) + (b (p + 1) - 48))) := by
  unfold f_X7_twoDigitsAt
  rw [nI_1, c_digitAt hn hb (by omega), c_digitAt hn hb (by omega), h1, h2]
  simp only [Option.bind_some, if_true]
  rw [li10, pk_mul, nI_add]
/-- the kind of a letter -/
def lk (v : Nat) : Nat := if v = 122 then 0 else if v = 98 then 1 else if v = 99 then 2 else if v = 115 then 3 else if v = 105 then 4 else if v = 106 then 5 else if v = 102 then 6 else if v = 100 then 7 else if v = 110 then 8 else if v = 116 then 9 else if v = 111 then 10 else if v = 120 then 11 else if v = 121 then 12 else if v = 119 then 13 else 14
theorem c_ofLetter : ∀ v, v < 256 → f_X3_ofLetter (nI v) = some (if lk v < 14 then nI (lk v) else -1) := by decide +kernel
def lhs (h : Int32) : Nat → Int32 → Option (Unit ⊕ Int32)
  | 0, _ => none
  | n+1, x1_2 => ((f_J0_length_8abf5).bind (fun o_157 => (if o_157 ≤ x1_2 then (some (.inl ())) else ((f_J0_charAt_5068e x1_2).bind (fun o_162 => (if h = o_162 then (some (.inr x1_2)) else (lhs h n (x1_2 + 1))))))))
theorem lhs_of {l a h : Int32} (hh : f_X10_here l a text = some h) : ∀ (n : Nat) (x : Int32), L_X10_letterHere_2 l a text n x = lhs h n x := by
  intro n
  induction n with
  | zero => intro x; rfl
  | succ n ih =>
    intro x
    rw [L_X10_letterHere_2, lhs, hh]
    simp only [Option.bind_some, ih]
theorem lhs_dec : ∀ v, v < 256 → (lhs (nI v) fu 0).bind (sm (fun _ => (some (-1 : Int32)))) = some (if lk v < 14 then nI (lk v) else -1) := by decide +kernel
theorem m_letterHere (hn : n ≤ 80) (hb : ∀ p, p < n → b p < 256 ∧ signs p = nI (b p) ∧ text p = bt (b p)) {p : Nat} (hp : p < n) : f_X10_letterHere (nI n) (nI p) text = some (if lk (b p) < 14 then nI (lk (b p)) else -1) := by
  have h := @m_here n b signs text hn hb p (by omega)
  rw [if_pos hp] at h
  unfold f_X10_letterHere
  rw [lhs_of h]
  exact lhs_dec _ (hb p hp).1
end
